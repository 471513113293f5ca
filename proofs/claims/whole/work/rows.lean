section
-- ===== PART A: goes FIRST, ahead of the names: the tables' words, and 'selects' of the private methods out of them =====
/-- a private method of a class that the tables say can be made, by its rows of tables_1 -/
def lw_okq (q : MethodName × Nat) : Prop := (q.1.cls ≠ "java/lang/invoke/MethodHandle" ∧ q.1.cls ≠ "java/lang/invoke/VarHandle") ∧ Cond.instantiable q.1.cls q.2 ∈ tables_1 ∧ Cond.privateMethod q.1 ∈ tables_1 ∧ Cond.instanceMethod q.1 ∈ tables_1
theorem lw_p0 : lw_okq (⟨"BoneRods", "found", "(I)I"⟩, 13) := ⟨⟨by decide +kernel, by decide +kernel⟩, List.mem_of_getElem? (i := 16) (by decide +kernel), List.mem_of_getElem? (i := 219) (by decide +kernel), List.mem_of_getElem? (i := 220) (by decide +kernel)⟩
theorem lw_p1 : lw_okq (⟨"BoneRods", "fillBox", "(LBoneRods$Strip;)V"⟩, 13) := ⟨⟨by decide +kernel, by decide +kernel⟩, List.mem_of_getElem? (i := 16) (by decide +kernel), List.mem_of_getElem? (i := 291) (by decide +kernel), List.mem_of_getElem? (i := 292) (by decide +kernel)⟩
theorem lw_p2 : lw_okq (⟨"BoneRods", "isRod", "(I)Z"⟩, 13) := ⟨⟨by decide +kernel, by decide +kernel⟩, List.mem_of_getElem? (i := 16) (by decide +kernel), List.mem_of_getElem? (i := 303) (by decide +kernel), List.mem_of_getElem? (i := 304) (by decide +kernel)⟩
theorem lw_p3 : lw_okq (⟨"BoneRods", "ofRod", "(II)I"⟩, 13) := ⟨⟨by decide +kernel, by decide +kernel⟩, List.mem_of_getElem? (i := 16) (by decide +kernel), List.mem_of_getElem? (i := 307) (by decide +kernel), List.mem_of_getElem? (i := 308) (by decide +kernel)⟩
theorem lw_p4 : lw_okq (⟨"BoneRods", "digitNow", "(I)I"⟩, 13) := ⟨⟨by decide +kernel, by decide +kernel⟩, List.mem_of_getElem? (i := 16) (by decide +kernel), List.mem_of_getElem? (i := 311) (by decide +kernel), List.mem_of_getElem? (i := 312) (by decide +kernel)⟩
theorem lw_p5 : lw_okq (⟨"BoneRods", "linesApart", "(IIZZ)I"⟩, 13) := ⟨⟨by decide +kernel, by decide +kernel⟩, List.mem_of_getElem? (i := 16) (by decide +kernel), List.mem_of_getElem? (i := 330) (by decide +kernel), List.mem_of_getElem? (i := 331) (by decide +kernel)⟩
theorem lw_p6 : lw_okq (⟨"BoneRods", "shownNow", "(II)I"⟩, 13) := ⟨⟨by decide +kernel, by decide +kernel⟩, List.mem_of_getElem? (i := 16) (by decide +kernel), List.mem_of_getElem? (i := 334) (by decide +kernel), List.mem_of_getElem? (i := 335) (by decide +kernel)⟩
theorem lw_p7 : lw_okq (⟨"BoneRods", "shownAs", "(III)I"⟩, 13) := ⟨⟨by decide +kernel, by decide +kernel⟩, List.mem_of_getElem? (i := 16) (by decide +kernel), List.mem_of_getElem? (i := 369) (by decide +kernel), List.mem_of_getElem? (i := 370) (by decide +kernel)⟩
theorem lw_p8 : lw_okq (⟨"BoneRods", "slidBy", "(I)I"⟩, 13) := ⟨⟨by decide +kernel, by decide +kernel⟩, List.mem_of_getElem? (i := 16) (by decide +kernel), List.mem_of_getElem? (i := 373) (by decide +kernel), List.mem_of_getElem? (i := 374) (by decide +kernel)⟩
theorem lw_p9 : lw_okq (⟨"BoneRods$Bench", "perform", "(III)V"⟩, 8) := ⟨⟨by decide +kernel, by decide +kernel⟩, List.mem_of_getElem? (i := 105) (by decide +kernel), List.mem_of_getElem? (i := 397) (by decide +kernel), List.mem_of_getElem? (i := 398) (by decide +kernel)⟩
theorem lw_p10 : lw_okq (⟨"BoneRods", "rightBy", "(I)I"⟩, 13) := ⟨⟨by decide +kernel, by decide +kernel⟩, List.mem_of_getElem? (i := 16) (by decide +kernel), List.mem_of_getElem? (i := 453) (by decide +kernel), List.mem_of_getElem? (i := 454) (by decide +kernel)⟩
theorem lw_p11 : lw_okq (⟨"BoneRods", "readOff", "(I)I"⟩, 13) := ⟨⟨by decide +kernel, by decide +kernel⟩, List.mem_of_getElem? (i := 16) (by decide +kernel), List.mem_of_getElem? (i := 457) (by decide +kernel), List.mem_of_getElem? (i := 458) (by decide +kernel)⟩
theorem lw_p12 : lw_okq (⟨"BoneRods", "readWith", "(III)I"⟩, 13) := ⟨⟨by decide +kernel, by decide +kernel⟩, List.mem_of_getElem? (i := 16) (by decide +kernel), List.mem_of_getElem? (i := 461) (by decide +kernel), List.mem_of_getElem? (i := 462) (by decide +kernel)⟩
theorem lw_p13 : lw_okq (⟨"BoneRods", "lookAt", "(I)V"⟩, 13) := ⟨⟨by decide +kernel, by decide +kernel⟩, List.mem_of_getElem? (i := 16) (by decide +kernel), List.mem_of_getElem? (i := 481) (by decide +kernel), List.mem_of_getElem? (i := 482) (by decide +kernel)⟩
theorem lw_p14 : lw_okq (⟨"BoneRods$Search", "extend", "(III)V"⟩, 7) := ⟨⟨by decide +kernel, by decide +kernel⟩, List.mem_of_getElem? (i := 141) (by decide +kernel), List.mem_of_getElem? (i := 492) (by decide +kernel), List.mem_of_getElem? (i := 493) (by decide +kernel)⟩
theorem lw_p15 : lw_okq (⟨"BoneRods$Search", "leastGap", "(II)I"⟩, 7) := ⟨⟨by decide +kernel, by decide +kernel⟩, List.mem_of_getElem? (i := 141) (by decide +kernel), List.mem_of_getElem? (i := 496) (by decide +kernel), List.mem_of_getElem? (i := 497) (by decide +kernel)⟩
def lw_privs_1 : List (MethodName × Nat) := [(⟨"BoneRods", "found", "(I)I"⟩, 13), (⟨"BoneRods", "fillBox", "(LBoneRods$Strip;)V"⟩, 13), (⟨"BoneRods", "isRod", "(I)Z"⟩, 13), (⟨"BoneRods", "ofRod", "(II)I"⟩, 13), (⟨"BoneRods", "digitNow", "(I)I"⟩, 13), (⟨"BoneRods", "linesApart", "(IIZZ)I"⟩, 13), (⟨"BoneRods", "shownNow", "(II)I"⟩, 13), (⟨"BoneRods", "shownAs", "(III)I"⟩, 13), (⟨"BoneRods", "slidBy", "(I)I"⟩, 13), (⟨"BoneRods$Bench", "perform", "(III)V"⟩, 8), (⟨"BoneRods", "rightBy", "(I)I"⟩, 13), (⟨"BoneRods", "readOff", "(I)I"⟩, 13), (⟨"BoneRods", "readWith", "(III)I"⟩, 13), (⟨"BoneRods", "lookAt", "(I)V"⟩, 13), (⟨"BoneRods$Search", "extend", "(III)V"⟩, 7), (⟨"BoneRods$Search", "leastGap", "(II)I"⟩, 7)]
theorem lw_r1 : ∀ q ∈ lw_privs_1, lw_okq q := List.forall_mem_cons.mpr ⟨lw_p0, List.forall_mem_cons.mpr ⟨lw_p1, List.forall_mem_cons.mpr ⟨lw_p2, List.forall_mem_cons.mpr ⟨lw_p3, List.forall_mem_cons.mpr ⟨lw_p4, List.forall_mem_cons.mpr ⟨lw_p5, List.forall_mem_cons.mpr ⟨lw_p6, List.forall_mem_cons.mpr ⟨lw_p7, List.forall_mem_cons.mpr ⟨lw_p8, List.forall_mem_cons.mpr ⟨lw_p9, List.forall_mem_cons.mpr ⟨lw_p10, List.forall_mem_cons.mpr ⟨lw_p11, List.forall_mem_cons.mpr ⟨lw_p12, List.forall_mem_cons.mpr ⟨lw_p13, List.forall_mem_cons.mpr ⟨lw_p14, List.forall_mem_cons.mpr ⟨lw_p15, fun _ h => absurd h List.not_mem_nil⟩⟩⟩⟩⟩⟩⟩⟩⟩⟩⟩⟩⟩⟩⟩⟩
theorem lw_p16 : lw_okq (⟨"BoneRods", "fittingKinds", "(ILBoneRods$Strip;)I"⟩, 13) := ⟨⟨by decide +kernel, by decide +kernel⟩, List.mem_of_getElem? (i := 16) (by decide +kernel), List.mem_of_getElem? (i := 534) (by decide +kernel), List.mem_of_getElem? (i := 535) (by decide +kernel)⟩
theorem lw_p17 : lw_okq (⟨"BoneRods", "greatestPart", "(III)I"⟩, 13) := ⟨⟨by decide +kernel, by decide +kernel⟩, List.mem_of_getElem? (i := 16) (by decide +kernel), List.mem_of_getElem? (i := 542) (by decide +kernel), List.mem_of_getElem? (i := 543) (by decide +kernel)⟩
theorem lw_p18 : lw_okq (⟨"BoneRods", "wasReadWith", "(IILBoneRods$Strip;)Z"⟩, 13) := ⟨⟨by decide +kernel, by decide +kernel⟩, List.mem_of_getElem? (i := 16) (by decide +kernel), List.mem_of_getElem? (i := 550) (by decide +kernel), List.mem_of_getElem? (i := 551) (by decide +kernel)⟩
theorem lw_p19 : lw_okq (⟨"BoneRods$Search", "playedOut", "(IIIZ)I"⟩, 7) := ⟨⟨by decide +kernel, by decide +kernel⟩, List.mem_of_getElem? (i := 141) (by decide +kernel), List.mem_of_getElem? (i := 562) (by decide +kernel), List.mem_of_getElem? (i := 563) (by decide +kernel)⟩
theorem lw_p20 : lw_okq (⟨"BoneRods", "readOfLeft", "(II)I"⟩, 13) := ⟨⟨by decide +kernel, by decide +kernel⟩, List.mem_of_getElem? (i := 16) (by decide +kernel), List.mem_of_getElem? (i := 574) (by decide +kernel), List.mem_of_getElem? (i := 575) (by decide +kernel)⟩
theorem lw_p21 : lw_okq (⟨"BoneRods", "weightOfLeft", "(II)J"⟩, 13) := ⟨⟨by decide +kernel, by decide +kernel⟩, List.mem_of_getElem? (i := 16) (by decide +kernel), List.mem_of_getElem? (i := 578) (by decide +kernel), List.mem_of_getElem? (i := 579) (by decide +kernel)⟩
theorem lw_p22 : lw_okq (⟨"BoneRods", "tell", "(JJ)V"⟩, 13) := ⟨⟨by decide +kernel, by decide +kernel⟩, List.mem_of_getElem? (i := 16) (by decide +kernel), List.mem_of_getElem? (i := 583) (by decide +kernel), List.mem_of_getElem? (i := 584) (by decide +kernel)⟩
theorem lw_p23 : lw_okq (⟨"BoneRods", "deedByLot", "(J)V"⟩, 13) := ⟨⟨by decide +kernel, by decide +kernel⟩, List.mem_of_getElem? (i := 16) (by decide +kernel), List.mem_of_getElem? (i := 600) (by decide +kernel), List.mem_of_getElem? (i := 601) (by decide +kernel)⟩
theorem lw_p24 : lw_okq (⟨"BoneRods", "howManyKept", "()I"⟩, 13) := ⟨⟨by decide +kernel, by decide +kernel⟩, List.mem_of_getElem? (i := 16) (by decide +kernel), List.mem_of_getElem? (i := 625) (by decide +kernel), List.mem_of_getElem? (i := 626) (by decide +kernel)⟩
theorem lw_p25 : lw_okq (⟨"BoneRods", "howManyOf", "(I)I"⟩, 13) := ⟨⟨by decide +kernel, by decide +kernel⟩, List.mem_of_getElem? (i := 16) (by decide +kernel), List.mem_of_getElem? (i := 629) (by decide +kernel), List.mem_of_getElem? (i := 630) (by decide +kernel)⟩
theorem lw_p26 : lw_okq (⟨"BoneRodsModel", "finds", "(I)I"⟩, 24) := ⟨⟨by decide +kernel, by decide +kernel⟩, List.mem_of_getElem? (i := 651) (by decide +kernel), List.mem_of_getElem? (i := 741) (by decide +kernel), List.mem_of_getElem? (i := 742) (by decide +kernel)⟩
theorem lw_p27 : lw_okq (⟨"BoneRodsModel", "tells", "(I)I"⟩, 24) := ⟨⟨by decide +kernel, by decide +kernel⟩, List.mem_of_getElem? (i := 651) (by decide +kernel), List.mem_of_getElem? (i := 749) (by decide +kernel), List.mem_of_getElem? (i := 750) (by decide +kernel)⟩
theorem lw_p28 : lw_okq (⟨"BoneRodsModel", "faultOf", "(I)I"⟩, 24) := ⟨⟨by decide +kernel, by decide +kernel⟩, List.mem_of_getElem? (i := 651) (by decide +kernel), List.mem_of_getElem? (i := 785) (by decide +kernel), List.mem_of_getElem? (i := 786) (by decide +kernel)⟩
theorem lw_p29 : lw_okq (⟨"BoneRodsModel", "here", "()I"⟩, 24) := ⟨⟨by decide +kernel, by decide +kernel⟩, List.mem_of_getElem? (i := 651) (by decide +kernel), List.mem_of_getElem? (i := 789) (by decide +kernel), List.mem_of_getElem? (i := 790) (by decide +kernel)⟩
theorem lw_p30 : lw_okq (⟨"BoneRodsModel", "takesRod", "()Z"⟩, 24) := ⟨⟨by decide +kernel, by decide +kernel⟩, List.mem_of_getElem? (i := 651) (by decide +kernel), List.mem_of_getElem? (i := 793) (by decide +kernel), List.mem_of_getElem? (i := 794) (by decide +kernel)⟩
theorem lw_p31 : lw_okq (⟨"BoneRodsModel", "isRod", "(I)Z"⟩, 24) := ⟨⟨by decide +kernel, by decide +kernel⟩, List.mem_of_getElem? (i := 651) (by decide +kernel), List.mem_of_getElem? (i := 809) (by decide +kernel), List.mem_of_getElem? (i := 810) (by decide +kernel)⟩
def lw_privs_2 : List (MethodName × Nat) := [(⟨"BoneRods", "fittingKinds", "(ILBoneRods$Strip;)I"⟩, 13), (⟨"BoneRods", "greatestPart", "(III)I"⟩, 13), (⟨"BoneRods", "wasReadWith", "(IILBoneRods$Strip;)Z"⟩, 13), (⟨"BoneRods$Search", "playedOut", "(IIIZ)I"⟩, 7), (⟨"BoneRods", "readOfLeft", "(II)I"⟩, 13), (⟨"BoneRods", "weightOfLeft", "(II)J"⟩, 13), (⟨"BoneRods", "tell", "(JJ)V"⟩, 13), (⟨"BoneRods", "deedByLot", "(J)V"⟩, 13), (⟨"BoneRods", "howManyKept", "()I"⟩, 13), (⟨"BoneRods", "howManyOf", "(I)I"⟩, 13), (⟨"BoneRodsModel", "finds", "(I)I"⟩, 24), (⟨"BoneRodsModel", "tells", "(I)I"⟩, 24), (⟨"BoneRodsModel", "faultOf", "(I)I"⟩, 24), (⟨"BoneRodsModel", "here", "()I"⟩, 24), (⟨"BoneRodsModel", "takesRod", "()Z"⟩, 24), (⟨"BoneRodsModel", "isRod", "(I)Z"⟩, 24)]
theorem lw_r2 : ∀ q ∈ lw_privs_2, lw_okq q := List.forall_mem_cons.mpr ⟨lw_p16, List.forall_mem_cons.mpr ⟨lw_p17, List.forall_mem_cons.mpr ⟨lw_p18, List.forall_mem_cons.mpr ⟨lw_p19, List.forall_mem_cons.mpr ⟨lw_p20, List.forall_mem_cons.mpr ⟨lw_p21, List.forall_mem_cons.mpr ⟨lw_p22, List.forall_mem_cons.mpr ⟨lw_p23, List.forall_mem_cons.mpr ⟨lw_p24, List.forall_mem_cons.mpr ⟨lw_p25, List.forall_mem_cons.mpr ⟨lw_p26, List.forall_mem_cons.mpr ⟨lw_p27, List.forall_mem_cons.mpr ⟨lw_p28, List.forall_mem_cons.mpr ⟨lw_p29, List.forall_mem_cons.mpr ⟨lw_p30, List.forall_mem_cons.mpr ⟨lw_p31, fun _ h => absurd h List.not_mem_nil⟩⟩⟩⟩⟩⟩⟩⟩⟩⟩⟩⟩⟩⟩⟩⟩
theorem lw_p32 : lw_okq (⟨"BoneRodsModel", "rodOf", "(II)I"⟩, 24) := ⟨⟨by decide +kernel, by decide +kernel⟩, List.mem_of_getElem? (i := 651) (by decide +kernel), List.mem_of_getElem? (i := 814) (by decide +kernel), List.mem_of_getElem? (i := 815) (by decide +kernel)⟩
theorem lw_p33 : lw_okq (⟨"BoneRodsModel", "digitOf", "(I)I"⟩, 24) := ⟨⟨by decide +kernel, by decide +kernel⟩, List.mem_of_getElem? (i := 651) (by decide +kernel), List.mem_of_getElem? (i := 818) (by decide +kernel), List.mem_of_getElem? (i := 819) (by decide +kernel)⟩
theorem lw_p34 : lw_okq (⟨"BoneRodsModel", "placeOf", "(I)I"⟩, 24) := ⟨⟨by decide +kernel, by decide +kernel⟩, List.mem_of_getElem? (i := 651) (by decide +kernel), List.mem_of_getElem? (i := 825) (by decide +kernel), List.mem_of_getElem? (i := 826) (by decide +kernel)⟩
theorem lw_p35 : lw_okq (⟨"BoneRodsModel", "linesAgainst", "(III)I"⟩, 24) := ⟨⟨by decide +kernel, by decide +kernel⟩, List.mem_of_getElem? (i := 651) (by decide +kernel), List.mem_of_getElem? (i := 836) (by decide +kernel), List.mem_of_getElem? (i := 837) (by decide +kernel)⟩
theorem lw_p36 : lw_okq (⟨"BoneRodsModel", "showsOf", "(II)I"⟩, 24) := ⟨⟨by decide +kernel, by decide +kernel⟩, List.mem_of_getElem? (i := 651) (by decide +kernel), List.mem_of_getElem? (i := 840) (by decide +kernel), List.mem_of_getElem? (i := 841) (by decide +kernel)⟩
theorem lw_p37 : lw_okq (⟨"BoneRodsModel", "minds", "()V"⟩, 24) := ⟨⟨by decide +kernel, by decide +kernel⟩, List.mem_of_getElem? (i := 651) (by decide +kernel), List.mem_of_getElem? (i := 861) (by decide +kernel), List.mem_of_getElem? (i := 862) (by decide +kernel)⟩
theorem lw_p38 : lw_okq (⟨"BoneRodsModel", "lays", "(I)V"⟩, 24) := ⟨⟨by decide +kernel, by decide +kernel⟩, List.mem_of_getElem? (i := 651) (by decide +kernel), List.mem_of_getElem? (i := 865) (by decide +kernel), List.mem_of_getElem? (i := 866) (by decide +kernel)⟩
theorem lw_p39 : lw_okq (⟨"BoneRodsModel", "lifts", "()I"⟩, 24) := ⟨⟨by decide +kernel, by decide +kernel⟩, List.mem_of_getElem? (i := 651) (by decide +kernel), List.mem_of_getElem? (i := 873) (by decide +kernel), List.mem_of_getElem? (i := 874) (by decide +kernel)⟩
theorem lw_p40 : lw_okq (⟨"BoneRodsModel", "bring", "(II)V"⟩, 24) := ⟨⟨by decide +kernel, by decide +kernel⟩, List.mem_of_getElem? (i := 651) (by decide +kernel), List.mem_of_getElem? (i := 894) (by decide +kernel), List.mem_of_getElem? (i := 895) (by decide +kernel)⟩
theorem lw_p41 : lw_okq (⟨"BoneRodsModel", "rightBy", "(I)I"⟩, 24) := ⟨⟨by decide +kernel, by decide +kernel⟩, List.mem_of_getElem? (i := 651) (by decide +kernel), List.mem_of_getElem? (i := 906) (by decide +kernel), List.mem_of_getElem? (i := 907) (by decide +kernel)⟩
theorem lw_p42 : lw_okq (⟨"BoneRodsModel", "readBy", "(I)I"⟩, 24) := ⟨⟨by decide +kernel, by decide +kernel⟩, List.mem_of_getElem? (i := 651) (by decide +kernel), List.mem_of_getElem? (i := 910) (by decide +kernel), List.mem_of_getElem? (i := 911) (by decide +kernel)⟩
theorem lw_p43 : lw_okq (⟨"BoneRodsModel", "goesNext", "(IIZ)Z"⟩, 24) := ⟨⟨by decide +kernel, by decide +kernel⟩, List.mem_of_getElem? (i := 651) (by decide +kernel), List.mem_of_getElem? (i := 927) (by decide +kernel), List.mem_of_getElem? (i := 928) (by decide +kernel)⟩
theorem lw_p44 : lw_okq (⟨"BoneRodsModel", "keeps", "(I)V"⟩, 24) := ⟨⟨by decide +kernel, by decide +kernel⟩, List.mem_of_getElem? (i := 651) (by decide +kernel), List.mem_of_getElem? (i := 931) (by decide +kernel), List.mem_of_getElem? (i := 932) (by decide +kernel)⟩
theorem lw_p45 : lw_okq (⟨"BoneRodsModel", "laysBest", "(II)V"⟩, 24) := ⟨⟨by decide +kernel, by decide +kernel⟩, List.mem_of_getElem? (i := 651) (by decide +kernel), List.mem_of_getElem? (i := 935) (by decide +kernel), List.mem_of_getElem? (i := 936) (by decide +kernel)⟩
theorem lw_p46 : lw_okq (⟨"BoneRodsModel", "againstPairs", "(I)I"⟩, 24) := ⟨⟨by decide +kernel, by decide +kernel⟩, List.mem_of_getElem? (i := 651) (by decide +kernel), List.mem_of_getElem? (i := 953) (by decide +kernel), List.mem_of_getElem? (i := 954) (by decide +kernel)⟩
theorem lw_p47 : lw_okq (⟨"BoneRodsModel", "showedSo", "(IIII)Z"⟩, 24) := ⟨⟨by decide +kernel, by decide +kernel⟩, List.mem_of_getElem? (i := 651) (by decide +kernel), List.mem_of_getElem? (i := 958) (by decide +kernel), List.mem_of_getElem? (i := 959) (by decide +kernel)⟩
def lw_privs_3 : List (MethodName × Nat) := [(⟨"BoneRodsModel", "rodOf", "(II)I"⟩, 24), (⟨"BoneRodsModel", "digitOf", "(I)I"⟩, 24), (⟨"BoneRodsModel", "placeOf", "(I)I"⟩, 24), (⟨"BoneRodsModel", "linesAgainst", "(III)I"⟩, 24), (⟨"BoneRodsModel", "showsOf", "(II)I"⟩, 24), (⟨"BoneRodsModel", "minds", "()V"⟩, 24), (⟨"BoneRodsModel", "lays", "(I)V"⟩, 24), (⟨"BoneRodsModel", "lifts", "()I"⟩, 24), (⟨"BoneRodsModel", "bring", "(II)V"⟩, 24), (⟨"BoneRodsModel", "rightBy", "(I)I"⟩, 24), (⟨"BoneRodsModel", "readBy", "(I)I"⟩, 24), (⟨"BoneRodsModel", "goesNext", "(IIZ)Z"⟩, 24), (⟨"BoneRodsModel", "keeps", "(I)V"⟩, 24), (⟨"BoneRodsModel", "laysBest", "(II)V"⟩, 24), (⟨"BoneRodsModel", "againstPairs", "(I)I"⟩, 24), (⟨"BoneRodsModel", "showedSo", "(IIII)Z"⟩, 24)]
theorem lw_r3 : ∀ q ∈ lw_privs_3, lw_okq q := List.forall_mem_cons.mpr ⟨lw_p32, List.forall_mem_cons.mpr ⟨lw_p33, List.forall_mem_cons.mpr ⟨lw_p34, List.forall_mem_cons.mpr ⟨lw_p35, List.forall_mem_cons.mpr ⟨lw_p36, List.forall_mem_cons.mpr ⟨lw_p37, List.forall_mem_cons.mpr ⟨lw_p38, List.forall_mem_cons.mpr ⟨lw_p39, List.forall_mem_cons.mpr ⟨lw_p40, List.forall_mem_cons.mpr ⟨lw_p41, List.forall_mem_cons.mpr ⟨lw_p42, List.forall_mem_cons.mpr ⟨lw_p43, List.forall_mem_cons.mpr ⟨lw_p44, List.forall_mem_cons.mpr ⟨lw_p45, List.forall_mem_cons.mpr ⟨lw_p46, List.forall_mem_cons.mpr ⟨lw_p47, fun _ h => absurd h List.not_mem_nil⟩⟩⟩⟩⟩⟩⟩⟩⟩⟩⟩⟩⟩⟩⟩⟩
theorem lw_p48 : lw_okq (⟨"BoneRodsModel", "kindsOf", "(II)I"⟩, 24) := ⟨⟨by decide +kernel, by decide +kernel⟩, List.mem_of_getElem? (i := 651) (by decide +kernel), List.mem_of_getElem? (i := 966) (by decide +kernel), List.mem_of_getElem? (i := 967) (by decide +kernel)⟩
theorem lw_p49 : lw_okq (⟨"BoneRodsModel", "readWith", "(III)I"⟩, 24) := ⟨⟨by decide +kernel, by decide +kernel⟩, List.mem_of_getElem? (i := 651) (by decide +kernel), List.mem_of_getElem? (i := 978) (by decide +kernel), List.mem_of_getElem? (i := 979) (by decide +kernel)⟩
theorem lw_p50 : lw_okq (⟨"BoneRodsModel", "isLaidOr", "(II)Z"⟩, 24) := ⟨⟨by decide +kernel, by decide +kernel⟩, List.mem_of_getElem? (i := 651) (by decide +kernel), List.mem_of_getElem? (i := 986) (by decide +kernel), List.mem_of_getElem? (i := 987) (by decide +kernel)⟩
theorem lw_p51 : lw_okq (⟨"BoneRodsModel", "chance", "(IIZ)I"⟩, 24) := ⟨⟨by decide +kernel, by decide +kernel⟩, List.mem_of_getElem? (i := 651) (by decide +kernel), List.mem_of_getElem? (i := 994) (by decide +kernel), List.mem_of_getElem? (i := 995) (by decide +kernel)⟩
theorem lw_p52 : lw_okq (⟨"BoneRodsModel", "readWithout", "(II)I"⟩, 24) := ⟨⟨by decide +kernel, by decide +kernel⟩, List.mem_of_getElem? (i := 651) (by decide +kernel), List.mem_of_getElem? (i := 999) (by decide +kernel), List.mem_of_getElem? (i := 1000) (by decide +kernel)⟩
theorem lw_p53 : lw_okq (⟨"BoneRodsModel", "tellsPart", "(JJ)I"⟩, 24) := ⟨⟨by decide +kernel, by decide +kernel⟩, List.mem_of_getElem? (i := 651) (by decide +kernel), List.mem_of_getElem? (i := 1003) (by decide +kernel), List.mem_of_getElem? (i := 1004) (by decide +kernel)⟩
theorem lw_p54 : lw_okq (⟨"BoneRodsModel", "framed", "()I"⟩, 24) := ⟨⟨by decide +kernel, by decide +kernel⟩, List.mem_of_getElem? (i := 651) (by decide +kernel), List.mem_of_getElem? (i := 1036) (by decide +kernel), List.mem_of_getElem? (i := 1037) (by decide +kernel)⟩
theorem lw_p55 : lw_okq (⟨"BoneRodsModel", "rowsThere", "()I"⟩, 24) := ⟨⟨by decide +kernel, by decide +kernel⟩, List.mem_of_getElem? (i := 651) (by decide +kernel), List.mem_of_getElem? (i := 1040) (by decide +kernel), List.mem_of_getElem? (i := 1041) (by decide +kernel)⟩
theorem lw_p56 : lw_okq (⟨"BoneRodsModel", "textsThere", "()I"⟩, 24) := ⟨⟨by decide +kernel, by decide +kernel⟩, List.mem_of_getElem? (i := 651) (by decide +kernel), List.mem_of_getElem? (i := 1044) (by decide +kernel), List.mem_of_getElem? (i := 1045) (by decide +kernel)⟩
theorem lw_p57 : lw_okq (⟨"BoneRodsModel", "boxesKept", "()I"⟩, 24) := ⟨⟨by decide +kernel, by decide +kernel⟩, List.mem_of_getElem? (i := 651) (by decide +kernel), List.mem_of_getElem? (i := 1048) (by decide +kernel), List.mem_of_getElem? (i := 1049) (by decide +kernel)⟩
theorem lw_p58 : lw_okq (⟨"BoneRodsModel", "manyOf", "(I)I"⟩, 24) := ⟨⟨by decide +kernel, by decide +kernel⟩, List.mem_of_getElem? (i := 651) (by decide +kernel), List.mem_of_getElem? (i := 1052) (by decide +kernel), List.mem_of_getElem? (i := 1053) (by decide +kernel)⟩
theorem lw_p59 : lw_okq (⟨"BoneRodsModel", "mix", "(J)V"⟩, 24) := ⟨⟨by decide +kernel, by decide +kernel⟩, List.mem_of_getElem? (i := 651) (by decide +kernel), List.mem_of_getElem? (i := 1070) (by decide +kernel), List.mem_of_getElem? (i := 1071) (by decide +kernel)⟩
def lw_privs_4 : List (MethodName × Nat) := [(⟨"BoneRodsModel", "kindsOf", "(II)I"⟩, 24), (⟨"BoneRodsModel", "readWith", "(III)I"⟩, 24), (⟨"BoneRodsModel", "isLaidOr", "(II)Z"⟩, 24), (⟨"BoneRodsModel", "chance", "(IIZ)I"⟩, 24), (⟨"BoneRodsModel", "readWithout", "(II)I"⟩, 24), (⟨"BoneRodsModel", "tellsPart", "(JJ)I"⟩, 24), (⟨"BoneRodsModel", "framed", "()I"⟩, 24), (⟨"BoneRodsModel", "rowsThere", "()I"⟩, 24), (⟨"BoneRodsModel", "textsThere", "()I"⟩, 24), (⟨"BoneRodsModel", "boxesKept", "()I"⟩, 24), (⟨"BoneRodsModel", "manyOf", "(I)I"⟩, 24), (⟨"BoneRodsModel", "mix", "(J)V"⟩, 24)]
theorem lw_r4 : ∀ q ∈ lw_privs_4, lw_okq q := List.forall_mem_cons.mpr ⟨lw_p48, List.forall_mem_cons.mpr ⟨lw_p49, List.forall_mem_cons.mpr ⟨lw_p50, List.forall_mem_cons.mpr ⟨lw_p51, List.forall_mem_cons.mpr ⟨lw_p52, List.forall_mem_cons.mpr ⟨lw_p53, List.forall_mem_cons.mpr ⟨lw_p54, List.forall_mem_cons.mpr ⟨lw_p55, List.forall_mem_cons.mpr ⟨lw_p56, List.forall_mem_cons.mpr ⟨lw_p57, List.forall_mem_cons.mpr ⟨lw_p58, List.forall_mem_cons.mpr ⟨lw_p59, fun _ h => absurd h List.not_mem_nil⟩⟩⟩⟩⟩⟩⟩⟩⟩⟩⟩⟩
def lw_privs : List (MethodName × Nat) := lw_privs_1 ++ (lw_privs_2 ++ (lw_privs_3 ++ (lw_privs_4)))
def lw_tbl : List Cond := k2_sels lw_privs ++ tables_1
theorem lw_privs_ok : ∀ q ∈ lw_privs, lw_okq q := by
  show ∀ q ∈ lw_privs_1 ++ (lw_privs_2 ++ (lw_privs_3 ++ (lw_privs_4))), lw_okq q
  exact List.forall_mem_append.mpr ⟨lw_r1, List.forall_mem_append.mpr ⟨lw_r2, List.forall_mem_append.mpr ⟨lw_r3, lw_r4⟩⟩⟩
end
section
/-! ===== BEGIN words of one list among another's, by their places ===== -/
theorem goodIn_r {big : List Cond} (ws : List Cond) (ps : List Nat) (hp : ws = ps.filterMap (fun i => big[i]?)) (h : ws.all goodWord = true) : GoodIn big ws := by
  intro w hw
  have h1 := List.all_eq_true.mp h w hw
  rw [hp] at hw
  obtain ⟨i, -, hi⟩ := List.mem_filterMap.mp hw
  have hm : w ∈ big := by first | exact List.mem_of_getElem? hi | exact List.getElem?_mem hi
  exact ⟨hm, good_of_word h1⟩
theorem goodIn_app {big a b : List Cond} (ha : GoodIn big a) (hb : GoodIn big b) : GoodIn big (a ++ b) := fun w h => (List.mem_append.mp h).elim (ha w) (hb w)
theorem goodIn_ca {big a b : List Cond} {c : Cond} (ha : GoodIn big (c :: a)) (hb : GoodIn big b) : GoodIn big (c :: (a ++ b)) := fun w h => (List.mem_cons.mp h).elim (fun e => ha w (List.mem_cons.mpr (Or.inl e))) (fun h => (List.mem_append.mp h).elim (fun h => ha w (List.mem_cons.mpr (Or.inr h))) (hb w))
theorem goodIn_sub {big ws : List Cond} (hm : ∀ w ∈ ws, w ∈ big) (h : ws.all goodWord = true) : GoodIn big ws := fun w hw => ⟨hm w hw, good_of_word (List.all_eq_true.mp h w hw)⟩
/-! ===== END ===== -/

/-! ===== BEGIN printed: names, fields, word lists, decode rows ===== -/
def RX0 : String := "BoneRods$Bench"
def TX0 : u_T := fun k => match k with
  | 0 => ("BoneRods$Bench", "frame", "[I", true)
  | 1 => ("BoneRods$Bench", "held", "I", false)
  | 2 => ("BoneRods$Bench", "overs", "I", false)
  | 3 => ("BoneRods$Bench", "deeds", "[I", true)
  | 4 => ("BoneRods$Bench", "firsts", "[I", true)
  | 5 => ("BoneRods$Bench", "seconds", "[I", true)
  | 6 => ("BoneRods$Bench", "done", "I", false)
  | _ => ("BoneRods$Bench", "there", "Z", false)
def tyX0 : Nat → FieldType := fun k => match k with
  | 0 => .array .int
  | 1 => .int
  | 2 => .int
  | 3 => .array .int
  | 4 => .array .int
  | 5 => .array .int
  | 6 => .int
  | _ => .boolean
abbrev wsX00 : List Cond := u_ws RX0 TX0 8
theorem nmX0 : ∀ a, a < 8 → ∀ b, b < 8 → a ≠ b → (TX0 a).2.1 ≠ (TX0 b).2.1 := by decide +kernel
theorem tyX0_ok : ∀ k, k < 8 → parseFieldDescriptor (TX0 k).2.2.1 = some (tyX0 k) := by decide +kernel
abbrev cX0_init : ByteArray := prog_2_method_1_code
def yX0_init : MethodName := ⟨RX0, "<init>", "()V"⟩
abbrev cX0_clear : ByteArray := prog_2_method_2_code
def yX0_clear : MethodName := ⟨RX0, "clear", "()V"⟩
abbrev cX0_become : ByteArray := prog_2_method_3_code
def yX0_become : MethodName := ⟨RX0, "become", "(LBoneRods$Bench;)V"⟩
abbrev cX0_isFull : ByteArray := prog_2_method_4_code
def yX0_isFull : MethodName := ⟨RX0, "isFull", "()Z"⟩
abbrev cX0_isOver : ByteArray := prog_2_method_5_code
def yX0_isOver : MethodName := ⟨RX0, "isOver", "(I)Z"⟩
abbrev cX0_isTaken : ByteArray := prog_2_method_6_code
def yX0_isTaken : MethodName := ⟨RX0, "isTaken", "(I)Z"⟩
abbrev cX0_placeOf : ByteArray := prog_2_method_7_code
def yX0_placeOf : MethodName := ⟨RX0, "placeOf", "(I)I"⟩
abbrev cX0_lastRod : ByteArray := prog_2_method_8_code
def yX0_lastRod : MethodName := ⟨RX0, "lastRod", "()I"⟩
abbrev cX0_bits : ByteArray := prog_2_method_9_code
def yX0_bits : MethodName := ⟨RX0, "bits", "()I"⟩
abbrev cX0_act : ByteArray := prog_2_method_10_code
def yX0_act : MethodName := ⟨RX0, "act", "(III)V"⟩
abbrev cX0_takeBack : ByteArray := prog_2_method_11_code
def yX0_takeBack : MethodName := ⟨RX0, "takeBack", "()V"⟩
abbrev cX0_backOf : ByteArray := prog_2_method_12_code
def yX0_backOf : MethodName := ⟨RX0, "backOf", "(I)I"⟩
abbrev cX0_perform : ByteArray := prog_2_method_13_code
def yX0_perform : MethodName := ⟨RX0, "perform", "(III)V"⟩
def RX1 : String := "BoneRods$Bent"
def TX1 : u_T := fun k => match k with
  | _ => ("", "", "", false)
def tyX1 : Nat → FieldType := fun k => match k with
  | _ => .int
abbrev wsX10 : List Cond := u_ws RX1 TX1 0
theorem nmX1 : ∀ a, a < 0 → ∀ b, b < 0 → a ≠ b → (TX1 a).2.1 ≠ (TX1 b).2.1 := by decide +kernel
theorem tyX1_ok : ∀ k, k < 0 → parseFieldDescriptor (TX1 k).2.2.1 = some (tyX1 k) := by decide +kernel
abbrev cX1_init : ByteArray := prog_3_method_1_code
def yX1_init : MethodName := ⟨RX1, "<init>", "()V"⟩
abbrev cX1_isWithoutTens : ByteArray := prog_3_method_2_code
def yX1_isWithoutTens : MethodName := ⟨RX1, "isWithoutTens", "(II)Z"⟩
def RX2 : String := "BoneRods$Doubled"
def TX2 : u_T := fun k => match k with
  | _ => ("", "", "", false)
def tyX2 : Nat → FieldType := fun k => match k with
  | _ => .int
abbrev wsX20 : List Cond := u_ws RX2 TX2 0
theorem nmX2 : ∀ a, a < 0 → ∀ b, b < 0 → a ≠ b → (TX2 a).2.1 ≠ (TX2 b).2.1 := by decide +kernel
theorem tyX2_ok : ∀ k, k < 0 → parseFieldDescriptor (TX2 k).2.2.1 = some (tyX2 k) := by decide +kernel
abbrev cX2_init : ByteArray := prog_4_method_1_code
def yX2_init : MethodName := ⟨RX2, "<init>", "()V"⟩
abbrev cX2_shown : ByteArray := prog_4_method_2_code
def yX2_shown : MethodName := ⟨RX2, "shown", "(III)I"⟩
def RX3 : String := "BoneRods$Kind"
def TX3 : u_T := fun k => match k with
  | _ => ("", "", "", false)
def tyX3 : Nat → FieldType := fun k => match k with
  | _ => .int
abbrev wsX30 : List Cond := u_ws RX3 TX3 0
theorem nmX3 : ∀ a, a < 0 → ∀ b, b < 0 → a ≠ b → (TX3 a).2.1 ≠ (TX3 b).2.1 := by decide +kernel
theorem tyX3_ok : ∀ k, k < 0 → parseFieldDescriptor (TX3 k).2.2.1 = some (tyX3 k) := by decide +kernel
abbrev cX3_init : ByteArray := prog_5_method_1_code
def yX3_init : MethodName := ⟨RX3, "<init>", "()V"⟩
abbrev cX3_shown : ByteArray := prog_5_method_2_code
def yX3_shown : MethodName := ⟨RX3, "shown", "(III)I"⟩
def RX4 : String := "BoneRods$Rod"
def TX4 : u_T := fun k => match k with
  | 0 => ("BoneRods$Rod", "kind", "LBoneRods$Kind;", false)
  | 1 => ("BoneRods$Rod", "kindNumber", "I", false)
  | 2 => ("BoneRods$Rod", "digit", "I", false)
  | _ => ("BoneRods$Rod", "mark", "I", false)
def tyX4 : Nat → FieldType := fun k => match k with
  | 0 => .object "BoneRods$Kind"
  | 1 => .int
  | 2 => .int
  | _ => .int
abbrev wsX40 : List Cond := u_ws RX4 TX4 4
theorem nmX4 : ∀ a, a < 4 → ∀ b, b < 4 → a ≠ b → (TX4 a).2.1 ≠ (TX4 b).2.1 := by decide +kernel
theorem tyX4_ok : ∀ k, k < 4 → parseFieldDescriptor (TX4 k).2.2.1 = some (tyX4 k) := by decide +kernel
abbrev cX4_init : ByteArray := prog_6_method_1_code
def yX4_init : MethodName := ⟨RX4, "<init>", "(LBoneRods$Kind;)V"⟩
def RX5 : String := "BoneRods$Search"
def TX5 : u_T := fun k => match k with
  | 0 => ("BoneRods$Search", "shown", "[I", true)
  | 1 => ("BoneRods$Search", "rods", "I", false)
  | 2 => ("BoneRods$Search", "chosen", "[I", true)
  | 3 => ("BoneRods$Search", "best", "[I", true)
  | 4 => ("BoneRods$Search", "goal", "I", false)
  | 5 => ("BoneRods$Search", "length", "I", false)
  | _ => ("BoneRods$Search", "gap", "I", false)
def tyX5 : Nat → FieldType := fun k => match k with
  | 0 => .array .int
  | 1 => .int
  | 2 => .array .int
  | 3 => .array .int
  | 4 => .int
  | 5 => .int
  | _ => .int
abbrev wsX50 : List Cond := u_ws RX5 TX5 7
theorem nmX5 : ∀ a, a < 7 → ∀ b, b < 7 → a ≠ b → (TX5 a).2.1 ≠ (TX5 b).2.1 := by decide +kernel
theorem tyX5_ok : ∀ k, k < 7 → parseFieldDescriptor (TX5 k).2.2.1 = some (tyX5 k) := by decide +kernel
abbrev cX5_init : ByteArray := prog_7_method_1_code
def yX5_init : MethodName := ⟨RX5, "<init>", "()V"⟩
abbrev cX5_nearest : ByteArray := prog_7_method_2_code
def yX5_nearest : MethodName := ⟨RX5, "nearest", "(III)I"⟩
abbrev cX5_extend : ByteArray := prog_7_method_3_code
def yX5_extend : MethodName := ⟨RX5, "extend", "(III)V"⟩
abbrev cX5_leastGap : ByteArray := prog_7_method_4_code
def yX5_leastGap : MethodName := ⟨RX5, "leastGap", "(II)I"⟩
abbrev cX5_playedOut : ByteArray := prog_7_method_5_code
def yX5_playedOut : MethodName := ⟨RX5, "playedOut", "(IIIZ)I"⟩
def RX6 : String := "BoneRods$Slid"
def TX6 : u_T := fun k => match k with
  | _ => ("", "", "", false)
def tyX6 : Nat → FieldType := fun k => match k with
  | _ => .int
abbrev wsX60 : List Cond := u_ws RX6 TX6 0
theorem nmX6 : ∀ a, a < 0 → ∀ b, b < 0 → a ≠ b → (TX6 a).2.1 ≠ (TX6 b).2.1 := by decide +kernel
theorem tyX6_ok : ∀ k, k < 0 → parseFieldDescriptor (TX6 k).2.2.1 = some (tyX6 k) := by decide +kernel
abbrev cX6_init : ByteArray := prog_8_method_1_code
def yX6_init : MethodName := ⟨RX6, "<init>", "()V"⟩
abbrev cX6_shown : ByteArray := prog_8_method_2_code
def yX6_shown : MethodName := ⟨RX6, "shown", "(III)I"⟩
def RX7 : String := "BoneRods$Strip"
def TX7 : u_T := fun k => match k with
  | 0 => ("BoneRods$Strip", "places", "[I", true)
  | _ => ("BoneRods$Strip", "size", "I", false)
def tyX7 : Nat → FieldType := fun k => match k with
  | 0 => .array .int
  | _ => .int
abbrev wsX70 : List Cond := u_ws RX7 TX7 2
theorem nmX7 : ∀ a, a < 2 → ∀ b, b < 2 → a ≠ b → (TX7 a).2.1 ≠ (TX7 b).2.1 := by decide +kernel
theorem tyX7_ok : ∀ k, k < 2 → parseFieldDescriptor (TX7 k).2.2.1 = some (tyX7 k) := by decide +kernel
abbrev cX7_init : ByteArray := prog_9_method_1_code
def yX7_init : MethodName := ⟨RX7, "<init>", "()V"⟩
abbrev cX7_isThere : ByteArray := prog_9_method_2_code
def yX7_isThere : MethodName := ⟨RX7, "isThere", "()Z"⟩
abbrev cX7_holds : ByteArray := prog_9_method_3_code
def yX7_holds : MethodName := ⟨RX7, "holds", "(II)Z"⟩
abbrev cX7_make : ByteArray := prog_9_method_4_code
def yX7_make : MethodName := ⟨RX7, "make", "(II)V"⟩
abbrev cX7_take : ByteArray := prog_9_method_5_code
def yX7_take : MethodName := ⟨RX7, "take", "([II)V"⟩
def RX8 : String := "BoneRods$Turned"
def TX8 : u_T := fun k => match k with
  | _ => ("", "", "", false)
def tyX8 : Nat → FieldType := fun k => match k with
  | _ => .int
abbrev wsX80 : List Cond := u_ws RX8 TX8 0
theorem nmX8 : ∀ a, a < 0 → ∀ b, b < 0 → a ≠ b → (TX8 a).2.1 ≠ (TX8 b).2.1 := by decide +kernel
theorem tyX8_ok : ∀ k, k < 0 → parseFieldDescriptor (TX8 k).2.2.1 = some (tyX8 k) := by decide +kernel
abbrev cX8_init : ByteArray := prog_10_method_1_code
def yX8_init : MethodName := ⟨RX8, "<init>", "()V"⟩
abbrev cX8_shown : ByteArray := prog_10_method_2_code
def yX8_shown : MethodName := ⟨RX8, "shown", "(III)I"⟩
def RX9 : String := "BoneRods$Worn"
def TX9 : u_T := fun k => match k with
  | _ => ("", "", "", false)
def tyX9 : Nat → FieldType := fun k => match k with
  | _ => .int
abbrev wsX90 : List Cond := u_ws RX9 TX9 0
theorem nmX9 : ∀ a, a < 0 → ∀ b, b < 0 → a ≠ b → (TX9 a).2.1 ≠ (TX9 b).2.1 := by decide +kernel
theorem tyX9_ok : ∀ k, k < 0 → parseFieldDescriptor (TX9 k).2.2.1 = some (tyX9 k) := by decide +kernel
abbrev cX9_init : ByteArray := prog_11_method_1_code
def yX9_init : MethodName := ⟨RX9, "<init>", "()V"⟩
abbrev cX9_shown : ByteArray := prog_11_method_2_code
def yX9_shown : MethodName := ⟨RX9, "shown", "(III)I"⟩
abbrev cX9_isWithoutTens : ByteArray := prog_11_method_3_code
def yX9_isWithoutTens : MethodName := ⟨RX9, "isWithoutTens", "(II)Z"⟩
def RX10 : String := "BoneRods"
def TX10 : u_T := fun k => match k with
  | 0 => ("BoneRods", "rows", "[LBoneRods$Strip;", true)
  | 1 => ("BoneRods", "texts", "[LBoneRods$Strip;", true)
  | 2 => ("BoneRods", "kindOf", "[LBoneRods$Kind;", true)
  | 3 => ("BoneRods", "rods", "[LBoneRods$Rod;", true)
  | 4 => ("BoneRods", "rodCount", "I", false)
  | 5 => ("BoneRods", "bench", "LBoneRods$Bench;", true)
  | 6 => ("BoneRods", "kept", "[LBoneRods$Bench;", true)
  | 7 => ("BoneRods", "search", "LBoneRods$Search;", true)
  | 8 => ("BoneRods", "told", "I", false)
  | 9 => ("BoneRods", "upperTold", "J", false)
  | 10 => ("BoneRods", "lowerTold", "J", false)
  | 11 => ("BoneRods", "latestFinding", "I", false)
  | _ => ("BoneRods", "findingTimes", "[I", true)
def tyX10 : Nat → FieldType := fun k => match k with
  | 0 => .array (.object "BoneRods$Strip")
  | 1 => .array (.object "BoneRods$Strip")
  | 2 => .array (.object "BoneRods$Kind")
  | 3 => .array (.object "BoneRods$Rod")
  | 4 => .int
  | 5 => .object "BoneRods$Bench"
  | 6 => .array (.object "BoneRods$Bench")
  | 7 => .object "BoneRods$Search"
  | 8 => .int
  | 9 => .long
  | 10 => .long
  | 11 => .int
  | _ => .array .int
abbrev wsX100 : List Cond := u_ws RX10 TX10 13
theorem nmX10 : ∀ a, a < 13 → ∀ b, b < 13 → a ≠ b → (TX10 a).2.1 ≠ (TX10 b).2.1 := by decide +kernel
theorem tyX10_ok : ∀ k, k < 13 → parseFieldDescriptor (TX10 k).2.2.1 = some (tyX10 k) := by decide +kernel
abbrev cX10_init : ByteArray := prog_1_method_1_code
def yX10_init : MethodName := ⟨RX10, "<init>", "()V"⟩
abbrev cX10_row : ByteArray := prog_1_method_2_code
def yX10_row : MethodName := ⟨RX10, "row", "(II)I"⟩
abbrev cX10_lay : ByteArray := prog_1_method_3_code
def yX10_lay : MethodName := ⟨RX10, "lay", "(III)I"⟩
abbrev cX10_at : ByteArray := prog_1_method_4_code
def yX10_at : MethodName := ⟨RX10, "at", "(II)I"⟩
abbrev cX10_tear : ByteArray := prog_1_method_5_code
def yX10_tear : MethodName := ⟨RX10, "tear", "(I)I"⟩
abbrev cX10_copy : ByteArray := prog_1_method_6_code
def yX10_copy : MethodName := ⟨RX10, "copy", "(IIIII)I"⟩
abbrev cX10_mean : ByteArray := prog_1_method_7_code
def yX10_mean : MethodName := ⟨RX10, "mean", "(I)I"⟩
abbrev cX10_text : ByteArray := prog_1_method_8_code
def yX10_text : MethodName := ⟨RX10, "text", "(II)I"⟩
abbrev cX10_put : ByteArray := prog_1_method_9_code
def yX10_put : MethodName := ⟨RX10, "put", "(III)I"⟩
abbrev cX10_fault : ByteArray := prog_1_method_10_code
def yX10_fault : MethodName := ⟨RX10, "fault", "(I)I"⟩
abbrev cX10_box : ByteArray := prog_1_method_11_code
def yX10_box : MethodName := ⟨RX10, "box", "(I)I"⟩
abbrev cX10_rod : ByteArray := prog_1_method_12_code
def yX10_rod : MethodName := ⟨RX10, "rod", "(II)I"⟩
abbrev cX10_mark : ByteArray := prog_1_method_13_code
def yX10_mark : MethodName := ⟨RX10, "mark", "(II)I"⟩
abbrev cX10_shows : ByteArray := prog_1_method_14_code
def yX10_shows : MethodName := ⟨RX10, "shows", "(II)I"⟩
abbrev cX10_laid : ByteArray := prog_1_method_15_code
def yX10_laid : MethodName := ⟨RX10, "laid", "(I)I"⟩
abbrev cX10_lift : ByteArray := prog_1_method_16_code
def yX10_lift : MethodName := ⟨RX10, "lift", "()I"⟩
abbrev cX10_change : ByteArray := prog_1_method_17_code
def yX10_change : MethodName := ⟨RX10, "change", "(II)I"⟩
abbrev cX10_over : ByteArray := prog_1_method_18_code
def yX10_over : MethodName := ⟨RX10, "over", "(I)I"⟩
abbrev cX10_undo : ByteArray := prog_1_method_19_code
def yX10_undo : MethodName := ⟨RX10, "undo", "(I)I"⟩
abbrev cX10_keep : ByteArray := prog_1_method_20_code
def yX10_keep : MethodName := ⟨RX10, "keep", "(I)I"⟩
abbrev cX10_on : ByteArray := prog_1_method_21_code
def yX10_on : MethodName := ⟨RX10, "on", "(I)I"⟩
abbrev cX10_reads : ByteArray := prog_1_method_22_code
def yX10_reads : MethodName := ⟨RX10, "reads", "(I)I"⟩
abbrev cX10_wrong : ByteArray := prog_1_method_23_code
def yX10_wrong : MethodName := ⟨RX10, "wrong", "()I"⟩
abbrev cX10_carries : ByteArray := prog_1_method_24_code
def yX10_carries : MethodName := ⟨RX10, "carries", "(I)I"⟩
abbrev cX10_makes : ByteArray := prog_1_method_25_code
def yX10_makes : MethodName := ⟨RX10, "makes", "(III)I"⟩
abbrev cX10_most : ByteArray := prog_1_method_26_code
def yX10_most : MethodName := ⟨RX10, "most", "(III)I"⟩
abbrev cX10_near : ByteArray := prog_1_method_27_code
def yX10_near : MethodName := ⟨RX10, "near", "(II)I"⟩
abbrev cX10_digits : ByteArray := prog_1_method_28_code
def yX10_digits : MethodName := ⟨RX10, "digits", "(II)I"⟩
abbrev cX10_kinds : ByteArray := prog_1_method_29_code
def yX10_kinds : MethodName := ⟨RX10, "kinds", "(II)I"⟩
abbrev cX10_test : ByteArray := prog_1_method_30_code
def yX10_test : MethodName := ⟨RX10, "test", "(II)I"⟩
abbrev cX10_other : ByteArray := prog_1_method_31_code
def yX10_other : MethodName := ⟨RX10, "other", "(I)I"⟩
abbrev cX10_duel : ByteArray := prog_1_method_32_code
def yX10_duel : MethodName := ⟨RX10, "duel", "(II)I"⟩
abbrev cX10_odds : ByteArray := prog_1_method_33_code
def yX10_odds : MethodName := ⟨RX10, "odds", "(II)I"⟩
abbrev cX10_mid : ByteArray := prog_1_method_34_code
def yX10_mid : MethodName := ⟨RX10, "mid", "(II)I"⟩
abbrev cX10_lots : ByteArray := prog_1_method_35_code
def yX10_lots : MethodName := ⟨RX10, "lots", "(II)I"⟩
abbrev cX10_asked : ByteArray := prog_1_method_36_code
def yX10_asked : MethodName := ⟨RX10, "asked", "()I"⟩
abbrev cX10_upper : ByteArray := prog_1_method_37_code
def yX10_upper : MethodName := ⟨RX10, "upper", "()J"⟩
abbrev cX10_lower : ByteArray := prog_1_method_38_code
def yX10_lower : MethodName := ⟨RX10, "lower", "()J"⟩
abbrev cX10_count : ByteArray := prog_1_method_39_code
def yX10_count : MethodName := ⟨RX10, "count", "(I)I"⟩
abbrev cX10_finding : ByteArray := prog_1_method_40_code
def yX10_finding : MethodName := ⟨RX10, "finding", "()I"⟩
abbrev cX10_findings : ByteArray := prog_1_method_41_code
def yX10_findings : MethodName := ⟨RX10, "findings", "(I)I"⟩
abbrev cX10_digest : ByteArray := prog_1_method_42_code
def yX10_digest : MethodName := ⟨RX10, "digest", "()J"⟩
abbrev cX10_isRow : ByteArray := prog_1_method_43_code
def yX10_isRow : MethodName := ⟨RX10, "isRow", "(I)Z"⟩
abbrev cX10_isText : ByteArray := prog_1_method_44_code
def yX10_isText : MethodName := ⟨RX10, "isText", "(I)Z"⟩
abbrev cX10_isKeepingPlace : ByteArray := prog_1_method_45_code
def yX10_isKeepingPlace : MethodName := ⟨RX10, "isKeepingPlace", "(I)Z"⟩
abbrev cX10_isLine : ByteArray := prog_1_method_46_code
def yX10_isLine : MethodName := ⟨RX10, "isLine", "(I)Z"⟩
abbrev cX10_isTwelfths : ByteArray := prog_1_method_47_code
def yX10_isTwelfths : MethodName := ⟨RX10, "isTwelfths", "(I)Z"⟩
abbrev cX10_isRod : ByteArray := prog_1_method_48_code
def yX10_isRod : MethodName := ⟨RX10, "isRod", "(I)Z"⟩
abbrev cX10_found : ByteArray := prog_1_method_49_code
def yX10_found : MethodName := ⟨RX10, "found", "(I)I"⟩
abbrev cX10_unfitPlace : ByteArray := prog_1_method_50_code
def yX10_unfitPlace : MethodName := ⟨RX10, "unfitPlace", "(LBoneRods$Strip;I)I"⟩
abbrev cX10_unfitPairs : ByteArray := prog_1_method_51_code
def yX10_unfitPairs : MethodName := ⟨RX10, "unfitPairs", "(LBoneRods$Strip;)I"⟩
abbrev cX10_kindByLetter : ByteArray := prog_1_method_52_code
def yX10_kindByLetter : MethodName := ⟨RX10, "kindByLetter", "(I)I"⟩
abbrev cX10_isFigure : ByteArray := prog_1_method_53_code
def yX10_isFigure : MethodName := ⟨RX10, "isFigure", "(I)Z"⟩
abbrev cX10_firstFault : ByteArray := prog_1_method_54_code
def yX10_firstFault : MethodName := ⟨RX10, "firstFault", "(LBoneRods$Strip;)I"⟩
abbrev cX10_fillBox : ByteArray := prog_1_method_55_code
def yX10_fillBox : MethodName := ⟨RX10, "fillBox", "(LBoneRods$Strip;)V"⟩
abbrev cX10_isOfKind : ByteArray := prog_1_method_56_code
def yX10_isOfKind : MethodName := ⟨RX10, "isOfKind", "(LBoneRods$Kind;I)Z"⟩
abbrev cX10_digitNow : ByteArray := prog_1_method_57_code
def yX10_digitNow : MethodName := ⟨RX10, "digitNow", "(I)I"⟩
abbrev cX10_shownNow : ByteArray := prog_1_method_58_code
def yX10_shownNow : MethodName := ⟨RX10, "shownNow", "(II)I"⟩
abbrev cX10_shownAs : ByteArray := prog_1_method_59_code
def yX10_shownAs : MethodName := ⟨RX10, "shownAs", "(III)I"⟩
abbrev cX10_ofRod : ByteArray := prog_1_method_60_code
def yX10_ofRod : MethodName := ⟨RX10, "ofRod", "(II)I"⟩
abbrev cX10_linesApart : ByteArray := prog_1_method_61_code
def yX10_linesApart : MethodName := ⟨RX10, "linesApart", "(IIZZ)I"⟩
abbrev cX10_slidBy : ByteArray := prog_1_method_62_code
def yX10_slidBy : MethodName := ⟨RX10, "slidBy", "(I)I"⟩
abbrev cX10_readOff : ByteArray := prog_1_method_63_code
def yX10_readOff : MethodName := ⟨RX10, "readOff", "(I)I"⟩
abbrev cX10_readWith : ByteArray := prog_1_method_64_code
def yX10_readWith : MethodName := ⟨RX10, "readWith", "(III)I"⟩
abbrev cX10_wasReadWith : ByteArray := prog_1_method_65_code
def yX10_wasReadWith : MethodName := ⟨RX10, "wasReadWith", "(IILBoneRods$Strip;)Z"⟩
abbrev cX10_rightBy : ByteArray := prog_1_method_66_code
def yX10_rightBy : MethodName := ⟨RX10, "rightBy", "(I)I"⟩
abbrev cX10_readOfLeft : ByteArray := prog_1_method_67_code
def yX10_readOfLeft : MethodName := ⟨RX10, "readOfLeft", "(II)I"⟩
abbrev cX10_weightOfLeft : ByteArray := prog_1_method_68_code
def yX10_weightOfLeft : MethodName := ⟨RX10, "weightOfLeft", "(II)J"⟩
abbrev cX10_lookAt : ByteArray := prog_1_method_69_code
def yX10_lookAt : MethodName := ⟨RX10, "lookAt", "(I)V"⟩
abbrev cX10_deedByLot : ByteArray := prog_1_method_70_code
def yX10_deedByLot : MethodName := ⟨RX10, "deedByLot", "(J)V"⟩
abbrev cX10_fits : ByteArray := prog_1_method_71_code
def yX10_fits : MethodName := ⟨RX10, "fits", "(LBoneRods$Kind;IILBoneRods$Strip;)Z"⟩
abbrev cX10_fittingKinds : ByteArray := prog_1_method_72_code
def yX10_fittingKinds : MethodName := ⟨RX10, "fittingKinds", "(ILBoneRods$Strip;)I"⟩
abbrev cX10_greatestPart : ByteArray := prog_1_method_73_code
def yX10_greatestPart : MethodName := ⟨RX10, "greatestPart", "(III)I"⟩
abbrev cX10_tell : ByteArray := prog_1_method_74_code
def yX10_tell : MethodName := ⟨RX10, "tell", "(JJ)V"⟩
abbrev cX10_greatestShared : ByteArray := prog_1_method_75_code
def yX10_greatestShared : MethodName := ⟨RX10, "greatestShared", "(JJ)J"⟩
abbrev cX10_howManyThere : ByteArray := prog_1_method_76_code
def yX10_howManyThere : MethodName := ⟨RX10, "howManyThere", "([LBoneRods$Strip;)I"⟩
abbrev cX10_howManyKept : ByteArray := prog_1_method_77_code
def yX10_howManyKept : MethodName := ⟨RX10, "howManyKept", "()I"⟩
abbrev cX10_howManyOf : ByteArray := prog_1_method_78_code
def yX10_howManyOf : MethodName := ⟨RX10, "howManyOf", "(I)I"⟩
abbrev cX10_withStrips : ByteArray := prog_1_method_79_code
def yX10_withStrips : MethodName := ⟨RX10, "withStrips", "(J[LBoneRods$Strip;)J"⟩
def RX11 : String := "BoneRodsModel"
def TX11 : u_T := fun k => match k with
  | 0 => ("BoneRodsModel", "w", "[I", true)
  | 1 => ("BoneRodsModel", "rowSize", "[I", true)
  | 2 => ("BoneRodsModel", "ints", "[I", true)
  | 3 => ("BoneRodsModel", "textSize", "[I", true)
  | 4 => ("BoneRodsModel", "bytes", "[I", true)
  | 5 => ("BoneRodsModel", "found", "I", false)
  | 6 => ("BoneRodsModel", "finds", "[I", true)
  | 7 => ("BoneRodsModel", "asked", "I", false)
  | 8 => ("BoneRodsModel", "upper", "J", false)
  | 9 => ("BoneRodsModel", "lower", "J", false)
  | 10 => ("BoneRodsModel", "held", "[I", true)
  | 11 => ("BoneRodsModel", "from", "I", false)
  | 12 => ("BoneRodsModel", "place", "I", false)
  | 13 => ("BoneRodsModel", "end", "I", false)
  | 14 => ("BoneRodsModel", "readMany", "I", false)
  | 15 => ("BoneRodsModel", "read", "[I", true)
  | 16 => ("BoneRodsModel", "tried", "[I", true)
  | 17 => ("BoneRodsModel", "soFar", "[I", true)
  | 18 => ("BoneRodsModel", "best", "[I", true)
  | 19 => ("BoneRodsModel", "depth", "I", false)
  | 20 => ("BoneRodsModel", "turnRod", "[I", true)
  | 21 => ("BoneRodsModel", "turnRead", "[I", true)
  | 22 => ("BoneRodsModel", "turnBest", "[I", true)
  | _ => ("BoneRodsModel", "h", "J", false)
def tyX11 : Nat → FieldType := fun k => match k with
  | 0 => .array .int
  | 1 => .array .int
  | 2 => .array .int
  | 3 => .array .int
  | 4 => .array .int
  | 5 => .int
  | 6 => .array .int
  | 7 => .int
  | 8 => .long
  | 9 => .long
  | 10 => .array .int
  | 11 => .int
  | 12 => .int
  | 13 => .int
  | 14 => .int
  | 15 => .array .int
  | 16 => .array .int
  | 17 => .array .int
  | 18 => .array .int
  | 19 => .int
  | 20 => .array .int
  | 21 => .array .int
  | 22 => .array .int
  | _ => .long
abbrev wsX110 : List Cond := u_ws RX11 TX11 24
theorem nmX11 : ∀ a, a < 24 → ∀ b, b < 24 → a ≠ b → (TX11 a).2.1 ≠ (TX11 b).2.1 := by decide +kernel
theorem tyX11_ok : ∀ k, k < 24 → parseFieldDescriptor (TX11 k).2.2.1 = some (tyX11 k) := by decide +kernel
abbrev cX11_init : ByteArray := prog_13_method_1_code
def yX11_init : MethodName := ⟨RX11, "<init>", "()V"⟩
abbrev cX11_in : ByteArray := prog_13_method_3_code
def yX11_in : MethodName := ⟨RX11, "in", "(JJJ)Z"⟩
abbrev cX11_has : ByteArray := prog_13_method_4_code
def yX11_has : MethodName := ⟨RX11, "has", "(II)Z"⟩
abbrev cX11_finds : ByteArray := prog_13_method_5_code
def yX11_finds : MethodName := ⟨RX11, "finds", "(I)I"⟩
abbrev cX11_tells : ByteArray := prog_13_method_6_code
def yX11_tells : MethodName := ⟨RX11, "tells", "(I)I"⟩
abbrev cX11_tellsPart : ByteArray := prog_13_method_7_code
def yX11_tellsPart : MethodName := ⟨RX11, "tellsPart", "(JJ)I"⟩
abbrev cX11_bring : ByteArray := prog_13_method_8_code
def yX11_bring : MethodName := ⟨RX11, "bring", "(II)V"⟩
abbrev cX11_isRow : ByteArray := prog_13_method_9_code
def yX11_isRow : MethodName := ⟨RX11, "isRow", "(I)Z"⟩
abbrev cX11_isText : ByteArray := prog_13_method_10_code
def yX11_isText : MethodName := ⟨RX11, "isText", "(I)Z"⟩
abbrev cX11_isRod : ByteArray := prog_13_method_11_code
def yX11_isRod : MethodName := ⟨RX11, "isRod", "(I)Z"⟩
abbrev cX11_isLine : ByteArray := prog_13_method_12_code
def yX11_isLine : MethodName := ⟨RX11, "isLine", "(I)Z"⟩
abbrev cX11_row : ByteArray := prog_13_method_13_code
def yX11_row : MethodName := ⟨RX11, "row", "(II)I"⟩
abbrev cX11_lay : ByteArray := prog_13_method_14_code
def yX11_lay : MethodName := ⟨RX11, "lay", "(III)I"⟩
abbrev cX11_at : ByteArray := prog_13_method_15_code
def yX11_at : MethodName := ⟨RX11, "at", "(II)I"⟩
abbrev cX11_tear : ByteArray := prog_13_method_16_code
def yX11_tear : MethodName := ⟨RX11, "tear", "(I)I"⟩
abbrev cX11_copy : ByteArray := prog_13_method_17_code
def yX11_copy : MethodName := ⟨RX11, "copy", "(IIIII)I"⟩
abbrev cX11_mean : ByteArray := prog_13_method_18_code
def yX11_mean : MethodName := ⟨RX11, "mean", "(I)I"⟩
abbrev cX11_text : ByteArray := prog_13_method_19_code
def yX11_text : MethodName := ⟨RX11, "text", "(II)I"⟩
abbrev cX11_put : ByteArray := prog_13_method_20_code
def yX11_put : MethodName := ⟨RX11, "put", "(III)I"⟩
abbrev cX11_here : ByteArray := prog_13_method_21_code
def yX11_here : MethodName := ⟨RX11, "here", "()I"⟩
abbrev cX11_kindOf : ByteArray := prog_13_method_22_code
def yX11_kindOf : MethodName := ⟨RX11, "kindOf", "(I)I"⟩
abbrev cX11_takesRod : ByteArray := prog_13_method_23_code
def yX11_takesRod : MethodName := ⟨RX11, "takesRod", "()Z"⟩
abbrev cX11_faultOf : ByteArray := prog_13_method_24_code
def yX11_faultOf : MethodName := ⟨RX11, "faultOf", "(I)I"⟩
abbrev cX11_fault : ByteArray := prog_13_method_25_code
def yX11_fault : MethodName := ⟨RX11, "fault", "(I)I"⟩
abbrev cX11_box : ByteArray := prog_13_method_26_code
def yX11_box : MethodName := ⟨RX11, "box", "(I)I"⟩
abbrev cX11_worn : ByteArray := prog_13_method_27_code
def yX11_worn : MethodName := ⟨RX11, "worn", "(III)I"⟩
abbrev cX11_showsBy : ByteArray := prog_13_method_28_code
def yX11_showsBy : MethodName := ⟨RX11, "showsBy", "(IIII)I"⟩
abbrev cX11_digitOf : ByteArray := prog_13_method_29_code
def yX11_digitOf : MethodName := ⟨RX11, "digitOf", "(I)I"⟩
abbrev cX11_showsOf : ByteArray := prog_13_method_30_code
def yX11_showsOf : MethodName := ⟨RX11, "showsOf", "(II)I"⟩
abbrev cX11_placeOf : ByteArray := prog_13_method_31_code
def yX11_placeOf : MethodName := ⟨RX11, "placeOf", "(I)I"⟩
abbrev cX11_rodOf : ByteArray := prog_13_method_32_code
def yX11_rodOf : MethodName := ⟨RX11, "rodOf", "(II)I"⟩
abbrev cX11_rod : ByteArray := prog_13_method_33_code
def yX11_rod : MethodName := ⟨RX11, "rod", "(II)I"⟩
abbrev cX11_isA : ByteArray := prog_13_method_34_code
def yX11_isA : MethodName := ⟨RX11, "isA", "(II)Z"⟩
abbrev cX11_linesAgainst : ByteArray := prog_13_method_35_code
def yX11_linesAgainst : MethodName := ⟨RX11, "linesAgainst", "(III)I"⟩
abbrev cX11_mark : ByteArray := prog_13_method_36_code
def yX11_mark : MethodName := ⟨RX11, "mark", "(II)I"⟩
abbrev cX11_shows : ByteArray := prog_13_method_37_code
def yX11_shows : MethodName := ⟨RX11, "shows", "(II)I"⟩
abbrev cX11_minds : ByteArray := prog_13_method_38_code
def yX11_minds : MethodName := ⟨RX11, "minds", "()V"⟩
abbrev cX11_lays : ByteArray := prog_13_method_39_code
def yX11_lays : MethodName := ⟨RX11, "lays", "(I)V"⟩
abbrev cX11_laid : ByteArray := prog_13_method_40_code
def yX11_laid : MethodName := ⟨RX11, "laid", "(I)I"⟩
abbrev cX11_lifts : ByteArray := prog_13_method_41_code
def yX11_lifts : MethodName := ⟨RX11, "lifts", "()I"⟩
abbrev cX11_lift : ByteArray := prog_13_method_42_code
def yX11_lift : MethodName := ⟨RX11, "lift", "()I"⟩
abbrev cX11_change : ByteArray := prog_13_method_43_code
def yX11_change : MethodName := ⟨RX11, "change", "(II)I"⟩
abbrev cX11_over : ByteArray := prog_13_method_44_code
def yX11_over : MethodName := ⟨RX11, "over", "(I)I"⟩
abbrev cX11_undo : ByteArray := prog_13_method_45_code
def yX11_undo : MethodName := ⟨RX11, "undo", "(I)I"⟩
abbrev cX11_keep : ByteArray := prog_13_method_46_code
def yX11_keep : MethodName := ⟨RX11, "keep", "(I)I"⟩
abbrev cX11_on : ByteArray := prog_13_method_47_code
def yX11_on : MethodName := ⟨RX11, "on", "(I)I"⟩
abbrev cX11_readBy : ByteArray := prog_13_method_48_code
def yX11_readBy : MethodName := ⟨RX11, "readBy", "(I)I"⟩
abbrev cX11_rightBy : ByteArray := prog_13_method_49_code
def yX11_rightBy : MethodName := ⟨RX11, "rightBy", "(I)I"⟩
abbrev cX11_reads : ByteArray := prog_13_method_50_code
def yX11_reads : MethodName := ⟨RX11, "reads", "(I)I"⟩
abbrev cX11_wrong : ByteArray := prog_13_method_51_code
def yX11_wrong : MethodName := ⟨RX11, "wrong", "()I"⟩
abbrev cX11_carries : ByteArray := prog_13_method_52_code
def yX11_carries : MethodName := ⟨RX11, "carries", "(I)I"⟩
abbrev cX11_goesNext : ByteArray := prog_13_method_53_code
def yX11_goesNext : MethodName := ⟨RX11, "goesNext", "(IIZ)Z"⟩
abbrev cX11_keeps : ByteArray := prog_13_method_54_code
def yX11_keeps : MethodName := ⟨RX11, "keeps", "(I)V"⟩
abbrev cX11_laysBest : ByteArray := prog_13_method_55_code
def yX11_laysBest : MethodName := ⟨RX11, "laysBest", "(II)V"⟩
abbrev cX11_makes : ByteArray := prog_13_method_56_code
def yX11_makes : MethodName := ⟨RX11, "makes", "(III)I"⟩
abbrev cX11_most : ByteArray := prog_13_method_57_code
def yX11_most : MethodName := ⟨RX11, "most", "(III)I"⟩
abbrev cX11_near : ByteArray := prog_13_method_58_code
def yX11_near : MethodName := ⟨RX11, "near", "(II)I"⟩
abbrev cX11_againstPairs : ByteArray := prog_13_method_59_code
def yX11_againstPairs : MethodName := ⟨RX11, "againstPairs", "(I)I"⟩
abbrev cX11_showedSo : ByteArray := prog_13_method_60_code
def yX11_showedSo : MethodName := ⟨RX11, "showedSo", "(IIII)Z"⟩
abbrev cX11_digits : ByteArray := prog_13_method_61_code
def yX11_digits : MethodName := ⟨RX11, "digits", "(II)I"⟩
abbrev cX11_kindsOf : ByteArray := prog_13_method_62_code
def yX11_kindsOf : MethodName := ⟨RX11, "kindsOf", "(II)I"⟩
abbrev cX11_kinds : ByteArray := prog_13_method_63_code
def yX11_kinds : MethodName := ⟨RX11, "kinds", "(II)I"⟩
abbrev cX11_test : ByteArray := prog_13_method_64_code
def yX11_test : MethodName := ⟨RX11, "test", "(II)I"⟩
abbrev cX11_readWith : ByteArray := prog_13_method_65_code
def yX11_readWith : MethodName := ⟨RX11, "readWith", "(III)I"⟩
abbrev cX11_other : ByteArray := prog_13_method_66_code
def yX11_other : MethodName := ⟨RX11, "other", "(I)I"⟩
abbrev cX11_duel : ByteArray := prog_13_method_67_code
def yX11_duel : MethodName := ⟨RX11, "duel", "(II)I"⟩
abbrev cX11_isLaidOr : ByteArray := prog_13_method_68_code
def yX11_isLaidOr : MethodName := ⟨RX11, "isLaidOr", "(II)Z"⟩
abbrev cX11_readWithout : ByteArray := prog_13_method_69_code
def yX11_readWithout : MethodName := ⟨RX11, "readWithout", "(II)I"⟩
abbrev cX11_chance : ByteArray := prog_13_method_70_code
def yX11_chance : MethodName := ⟨RX11, "chance", "(IIZ)I"⟩
abbrev cX11_odds : ByteArray := prog_13_method_71_code
def yX11_odds : MethodName := ⟨RX11, "odds", "(II)I"⟩
abbrev cX11_mid : ByteArray := prog_13_method_72_code
def yX11_mid : MethodName := ⟨RX11, "mid", "(II)I"⟩
abbrev cX11_lots : ByteArray := prog_13_method_73_code
def yX11_lots : MethodName := ⟨RX11, "lots", "(II)I"⟩
abbrev cX11_asked : ByteArray := prog_13_method_74_code
def yX11_asked : MethodName := ⟨RX11, "asked", "()I"⟩
abbrev cX11_upper : ByteArray := prog_13_method_75_code
def yX11_upper : MethodName := ⟨RX11, "upper", "()J"⟩
abbrev cX11_lower : ByteArray := prog_13_method_76_code
def yX11_lower : MethodName := ⟨RX11, "lower", "()J"⟩
abbrev cX11_rowsThere : ByteArray := prog_13_method_77_code
def yX11_rowsThere : MethodName := ⟨RX11, "rowsThere", "()I"⟩
abbrev cX11_textsThere : ByteArray := prog_13_method_78_code
def yX11_textsThere : MethodName := ⟨RX11, "textsThere", "()I"⟩
abbrev cX11_boxesKept : ByteArray := prog_13_method_79_code
def yX11_boxesKept : MethodName := ⟨RX11, "boxesKept", "()I"⟩
abbrev cX11_framed : ByteArray := prog_13_method_80_code
def yX11_framed : MethodName := ⟨RX11, "framed", "()I"⟩
abbrev cX11_manyOf : ByteArray := prog_13_method_81_code
def yX11_manyOf : MethodName := ⟨RX11, "manyOf", "(I)I"⟩
abbrev cX11_count : ByteArray := prog_13_method_82_code
def yX11_count : MethodName := ⟨RX11, "count", "(I)I"⟩
abbrev cX11_finding : ByteArray := prog_13_method_83_code
def yX11_finding : MethodName := ⟨RX11, "finding", "()I"⟩
abbrev cX11_findings : ByteArray := prog_13_method_84_code
def yX11_findings : MethodName := ⟨RX11, "findings", "(I)I"⟩
abbrev cX11_mix : ByteArray := prog_13_method_85_code
def yX11_mix : MethodName := ⟨RX11, "mix", "(J)V"⟩
abbrev cX11_digest : ByteArray := prog_13_method_86_code
def yX11_digest : MethodName := ⟨RX11, "digest", "()J"⟩
def RJ9 : String := "java/lang/Math"
def TJ9 : u_T := fun k => match k with
  | _ => ("", "", "", false)
def tyJ9 : Nat → FieldType := fun k => match k with
  | _ => .int
abbrev wsJ90 : List Cond := u_ws RJ9 TJ9 0
theorem nmJ9 : ∀ a, a < 0 → ∀ b, b < 0 → a ≠ b → (TJ9 a).2.1 ≠ (TJ9 b).2.1 := by decide +kernel
theorem tyJ9_ok : ∀ k, k < 0 → parseFieldDescriptor (TJ9 k).2.2.1 = some (tyJ9 k) := by decide +kernel
abbrev cJ9_max_7cf53 : ByteArray := prog_14_method_65_code
def yJ9_max_7cf53 : MethodName := ⟨RJ9, "max", "(II)I"⟩
abbrev cJ9_min_7cf53 : ByteArray := prog_14_method_69_code
def yJ9_min_7cf53 : MethodName := ⟨RJ9, "min", "(II)I"⟩
def RJ10 : String := "java/lang/System"
def TJ10 : u_T := fun k => match k with
  | _ => ("", "", "", false)
def tyJ10 : Nat → FieldType := fun k => match k with
  | _ => .int
abbrev wsJ100 : List Cond := u_ws RJ10 TJ10 0
theorem nmJ10 : ∀ a, a < 0 → ∀ b, b < 0 → a ≠ b → (TJ10 a).2.1 ≠ (TJ10 b).2.1 := by decide +kernel
theorem tyJ10_ok : ∀ k, k < 0 → parseFieldDescriptor (TJ10 k).2.2.1 = some (tyJ10 k) := by decide +kernel
def RL : String := "BoneRodsLaw"
abbrev cL_law : ByteArray := code
def yL_law : MethodName := ⟨RL, "law", "([I)Z"⟩
abbrev vwCl : List vw_C := [(RX0, TX0, 8), (RX1, TX1, 0), (RX2, TX2, 0), (RX3, TX3, 0), (RX4, TX4, 4), (RX5, TX5, 7), (RX6, TX6, 0), (RX7, TX7, 2), (RX8, TX8, 0), (RX9, TX9, 0), (RX10, TX10, 13), (RX11, TX11, 24)]
theorem ngX0 : GoodIn lw_tbl wsX00 := goodIn_r _ [182, 184, 186, 188, 190, 192, 194, 196] (by decide +kernel) (by decide +kernel)
theorem niX0 : ∀ w ∈ wsX00, w ∈ lw_tbl := fun w h => (ngX0 w h).1
theorem ngX1 : GoodIn lw_tbl wsX10 := goodIn_r _ [] (by decide +kernel) (by decide +kernel)
theorem niX1 : ∀ w ∈ wsX10, w ∈ lw_tbl := fun w h => (ngX1 w h).1
theorem ngX2 : GoodIn lw_tbl wsX20 := goodIn_r _ [] (by decide +kernel) (by decide +kernel)
theorem niX2 : ∀ w ∈ wsX20, w ∈ lw_tbl := fun w h => (ngX2 w h).1
theorem ngX3 : GoodIn lw_tbl wsX30 := goodIn_r _ [] (by decide +kernel) (by decide +kernel)
theorem niX3 : ∀ w ∈ wsX30, w ∈ lw_tbl := fun w h => (ngX3 w h).1
theorem ngX4 : GoodIn lw_tbl wsX40 := goodIn_r _ [155, 157, 159, 161] (by decide +kernel) (by decide +kernel)
theorem niX4 : ∀ w ∈ wsX40, w ∈ lw_tbl := fun w h => (ngX4 w h).1
theorem ngX5 : GoodIn lw_tbl wsX50 := goodIn_r _ [216, 218, 220, 222, 224, 226, 228] (by decide +kernel) (by decide +kernel)
theorem niX5 : ∀ w ∈ wsX50, w ∈ lw_tbl := fun w h => (ngX5 w h).1
theorem ngX6 : GoodIn lw_tbl wsX60 := goodIn_r _ [] (by decide +kernel) (by decide +kernel)
theorem niX6 : ∀ w ∈ wsX60, w ∈ lw_tbl := fun w h => (ngX6 w h).1
theorem ngX7 : GoodIn lw_tbl wsX70 := goodIn_r _ [94, 96] (by decide +kernel) (by decide +kernel)
theorem niX7 : ∀ w ∈ wsX70, w ∈ lw_tbl := fun w h => (ngX7 w h).1
theorem ngX8 : GoodIn lw_tbl wsX80 := goodIn_r _ [] (by decide +kernel) (by decide +kernel)
theorem niX8 : ∀ w ∈ wsX80, w ∈ lw_tbl := fun w h => (ngX8 w h).1
theorem ngX9 : GoodIn lw_tbl wsX90 := goodIn_r _ [] (by decide +kernel) (by decide +kernel)
theorem niX9 : ∀ w ∈ wsX90, w ∈ lw_tbl := fun w h => (ngX9 w h).1
theorem ngX10 : GoodIn lw_tbl wsX100 := goodIn_r _ [244, 246, 248, 250, 252, 254, 256, 258, 260, 262, 264, 266, 268] (by decide +kernel) (by decide +kernel)
theorem niX10 : ∀ w ∈ wsX100, w ∈ lw_tbl := fun w h => (ngX10 w h).1
theorem ngX11 : GoodIn lw_tbl wsX110 := goodIn_r _ [740, 742, 744, 746, 748, 750, 752, 754, 756, 758, 760, 762, 764, 766, 768, 770, 772, 774, 776, 778, 780, 782, 784, 786] (by decide +kernel) (by decide +kernel)
theorem niX11 : ∀ w ∈ wsX110, w ∈ lw_tbl := fun w h => (ngX11 w h).1
end
section
theorem dX0_init_0 : decode cX0_init 0 = .ok (.aload_n 0, 1) := by decide +kernel
theorem dX0_init_1 : decode cX0_init 1 = .ok (.invokespecial 3, 3) := by decide +kernel
theorem dX0_init_4 : decode cX0_init 4 = .ok (.aload_n 0, 1) := by decide +kernel
theorem dX0_init_5 : decode cX0_init 5 = .ok (.bipush 7, 2) := by decide +kernel
theorem dX0_init_7 : decode cX0_init 7 = .ok (.newarray .int, 2) := by decide +kernel
theorem dX0_init_9 : decode cX0_init 9 = .ok (.putfield 9, 3) := by decide +kernel
theorem dX0_init_12 : decode cX0_init 12 = .ok (.aload_n 0, 1) := by decide +kernel
theorem dX0_init_13 : decode cX0_init 13 = .ok (.bipush 40, 2) := by decide +kernel
theorem dX0_init_15 : decode cX0_init 15 = .ok (.newarray .int, 2) := by decide +kernel
theorem dX0_init_17 : decode cX0_init 17 = .ok (.putfield 15, 3) := by decide +kernel
theorem dX0_init_20 : decode cX0_init 20 = .ok (.aload_n 0, 1) := by decide +kernel
theorem dX0_init_21 : decode cX0_init 21 = .ok (.bipush 40, 2) := by decide +kernel
theorem dX0_init_23 : decode cX0_init 23 = .ok (.newarray .int, 2) := by decide +kernel
theorem dX0_init_25 : decode cX0_init 25 = .ok (.putfield 18, 3) := by decide +kernel
theorem dX0_init_28 : decode cX0_init 28 = .ok (.aload_n 0, 1) := by decide +kernel
theorem dX0_init_29 : decode cX0_init 29 = .ok (.bipush 40, 2) := by decide +kernel
theorem dX0_init_31 : decode cX0_init 31 = .ok (.newarray .int, 2) := by decide +kernel
theorem dX0_init_33 : decode cX0_init 33 = .ok (.putfield 21, 3) := by decide +kernel
theorem dX0_init_36 : decode cX0_init 36 = .ok (.return_, 1) := by decide +kernel
theorem dX0_clear_0 : decode cX0_clear 0 = .ok (.aload_n 0, 1) := by decide +kernel
theorem dX0_clear_1 : decode cX0_clear 1 = .ok (.iconst 0, 1) := by decide +kernel
theorem dX0_clear_2 : decode cX0_clear 2 = .ok (.putfield 24, 3) := by decide +kernel
theorem dX0_clear_5 : decode cX0_clear 5 = .ok (.aload_n 0, 1) := by decide +kernel
theorem dX0_clear_6 : decode cX0_clear 6 = .ok (.iconst 0, 1) := by decide +kernel
theorem dX0_clear_7 : decode cX0_clear 7 = .ok (.putfield 28, 3) := by decide +kernel
theorem dX0_clear_10 : decode cX0_clear 10 = .ok (.aload_n 0, 1) := by decide +kernel
theorem dX0_clear_11 : decode cX0_clear 11 = .ok (.iconst 0, 1) := by decide +kernel
theorem dX0_clear_12 : decode cX0_clear 12 = .ok (.putfield 31, 3) := by decide +kernel
theorem dX0_clear_15 : decode cX0_clear 15 = .ok (.return_, 1) := by decide +kernel
theorem dX0_become_0 : decode cX0_become 0 = .ok (.aload_n 1, 1) := by decide +kernel
theorem dX0_become_1 : decode cX0_become 1 = .ok (.getfield 9, 3) := by decide +kernel
theorem dX0_become_4 : decode cX0_become 4 = .ok (.iconst 0, 1) := by decide +kernel
theorem dX0_become_5 : decode cX0_become 5 = .ok (.aload_n 0, 1) := by decide +kernel
theorem dX0_become_6 : decode cX0_become 6 = .ok (.getfield 9, 3) := by decide +kernel
theorem dX0_become_9 : decode cX0_become 9 = .ok (.iconst 0, 1) := by decide +kernel
theorem dX0_become_10 : decode cX0_become 10 = .ok (.bipush 7, 2) := by decide +kernel
theorem dX0_become_12 : decode cX0_become 12 = .ok (.invokestatic 34, 3) := by decide +kernel
theorem dX0_become_15 : decode cX0_become 15 = .ok (.aload_n 0, 1) := by decide +kernel
theorem dX0_become_16 : decode cX0_become 16 = .ok (.aload_n 1, 1) := by decide +kernel
theorem dX0_become_17 : decode cX0_become 17 = .ok (.getfield 24, 3) := by decide +kernel
theorem dX0_become_20 : decode cX0_become 20 = .ok (.putfield 24, 3) := by decide +kernel
theorem dX0_become_23 : decode cX0_become 23 = .ok (.aload_n 0, 1) := by decide +kernel
theorem dX0_become_24 : decode cX0_become 24 = .ok (.aload_n 1, 1) := by decide +kernel
theorem dX0_become_25 : decode cX0_become 25 = .ok (.getfield 28, 3) := by decide +kernel
theorem dX0_become_28 : decode cX0_become 28 = .ok (.putfield 28, 3) := by decide +kernel
theorem dX0_become_31 : decode cX0_become 31 = .ok (.aload_n 1, 1) := by decide +kernel
theorem dX0_become_32 : decode cX0_become 32 = .ok (.getfield 15, 3) := by decide +kernel
theorem dX0_become_35 : decode cX0_become 35 = .ok (.iconst 0, 1) := by decide +kernel
theorem dX0_become_36 : decode cX0_become 36 = .ok (.aload_n 0, 1) := by decide +kernel
theorem dX0_become_37 : decode cX0_become 37 = .ok (.getfield 15, 3) := by decide +kernel
theorem dX0_become_40 : decode cX0_become 40 = .ok (.iconst 0, 1) := by decide +kernel
theorem dX0_become_41 : decode cX0_become 41 = .ok (.bipush 40, 2) := by decide +kernel
theorem dX0_become_43 : decode cX0_become 43 = .ok (.invokestatic 34, 3) := by decide +kernel
theorem dX0_become_46 : decode cX0_become 46 = .ok (.aload_n 1, 1) := by decide +kernel
theorem dX0_become_47 : decode cX0_become 47 = .ok (.getfield 18, 3) := by decide +kernel
theorem dX0_become_50 : decode cX0_become 50 = .ok (.iconst 0, 1) := by decide +kernel
theorem dX0_become_51 : decode cX0_become 51 = .ok (.aload_n 0, 1) := by decide +kernel
theorem dX0_become_52 : decode cX0_become 52 = .ok (.getfield 18, 3) := by decide +kernel
theorem dX0_become_55 : decode cX0_become 55 = .ok (.iconst 0, 1) := by decide +kernel
theorem dX0_become_56 : decode cX0_become 56 = .ok (.bipush 40, 2) := by decide +kernel
theorem dX0_become_58 : decode cX0_become 58 = .ok (.invokestatic 34, 3) := by decide +kernel
theorem dX0_become_61 : decode cX0_become 61 = .ok (.aload_n 1, 1) := by decide +kernel
theorem dX0_become_62 : decode cX0_become 62 = .ok (.getfield 21, 3) := by decide +kernel
theorem dX0_become_65 : decode cX0_become 65 = .ok (.iconst 0, 1) := by decide +kernel
theorem dX0_become_66 : decode cX0_become 66 = .ok (.aload_n 0, 1) := by decide +kernel
theorem dX0_become_67 : decode cX0_become 67 = .ok (.getfield 21, 3) := by decide +kernel
theorem dX0_become_70 : decode cX0_become 70 = .ok (.iconst 0, 1) := by decide +kernel
theorem dX0_become_71 : decode cX0_become 71 = .ok (.bipush 40, 2) := by decide +kernel
theorem dX0_become_73 : decode cX0_become 73 = .ok (.invokestatic 34, 3) := by decide +kernel
theorem dX0_become_76 : decode cX0_become 76 = .ok (.aload_n 0, 1) := by decide +kernel
theorem dX0_become_77 : decode cX0_become 77 = .ok (.aload_n 1, 1) := by decide +kernel
theorem dX0_become_78 : decode cX0_become 78 = .ok (.getfield 31, 3) := by decide +kernel
theorem dX0_become_81 : decode cX0_become 81 = .ok (.putfield 31, 3) := by decide +kernel
theorem dX0_become_84 : decode cX0_become 84 = .ok (.return_, 1) := by decide +kernel
theorem dX0_isFull_0 : decode cX0_isFull 0 = .ok (.aload_n 0, 1) := by decide +kernel
theorem dX0_isFull_1 : decode cX0_isFull 1 = .ok (.getfield 31, 3) := by decide +kernel
theorem dX0_isFull_4 : decode cX0_isFull 4 = .ok (.bipush 40, 2) := by decide +kernel
theorem dX0_isFull_6 : decode cX0_isFull 6 = .ok (.if_icmp .lt 7, 3) := by decide +kernel
theorem dX0_isFull_9 : decode cX0_isFull 9 = .ok (.iconst 1, 1) := by decide +kernel
theorem dX0_isFull_10 : decode cX0_isFull 10 = .ok (.goto 4, 3) := by decide +kernel
theorem dX0_isFull_13 : decode cX0_isFull 13 = .ok (.iconst 0, 1) := by decide +kernel
theorem dX0_isFull_14 : decode cX0_isFull 14 = .ok (.ireturn, 1) := by decide +kernel
theorem dX0_isOver_0 : decode cX0_isOver 0 = .ok (.aload_n 0, 1) := by decide +kernel
theorem dX0_isOver_1 : decode cX0_isOver 1 = .ok (.getfield 28, 3) := by decide +kernel
theorem dX0_isOver_4 : decode cX0_isOver 4 = .ok (.iload_n 1, 1) := by decide +kernel
theorem dX0_isOver_5 : decode cX0_isOver 5 = .ok (.ishr, 1) := by decide +kernel
theorem dX0_isOver_6 : decode cX0_isOver 6 = .ok (.iconst 1, 1) := by decide +kernel
theorem dX0_isOver_7 : decode cX0_isOver 7 = .ok (.iand, 1) := by decide +kernel
theorem dX0_isOver_8 : decode cX0_isOver 8 = .ok (.iconst 1, 1) := by decide +kernel
theorem dX0_isOver_9 : decode cX0_isOver 9 = .ok (.if_icmp .ne 7, 3) := by decide +kernel
theorem dX0_isOver_12 : decode cX0_isOver 12 = .ok (.iconst 1, 1) := by decide +kernel
theorem dX0_isOver_13 : decode cX0_isOver 13 = .ok (.goto 4, 3) := by decide +kernel
theorem dX0_isOver_16 : decode cX0_isOver 16 = .ok (.iconst 0, 1) := by decide +kernel
theorem dX0_isOver_17 : decode cX0_isOver 17 = .ok (.ireturn, 1) := by decide +kernel
theorem dX0_isTaken_0 : decode cX0_isTaken 0 = .ok (.iload_n 1, 1) := by decide +kernel
theorem dX0_isTaken_1 : decode cX0_isTaken 1 = .ok (.ifCond .lt 15, 3) := by decide +kernel
theorem dX0_isTaken_4 : decode cX0_isTaken 4 = .ok (.iload_n 1, 1) := by decide +kernel
theorem dX0_isTaken_5 : decode cX0_isTaken 5 = .ok (.aload_n 0, 1) := by decide +kernel
theorem dX0_isTaken_6 : decode cX0_isTaken 6 = .ok (.getfield 24, 3) := by decide +kernel
theorem dX0_isTaken_9 : decode cX0_isTaken 9 = .ok (.if_icmp .ge 7, 3) := by decide +kernel
theorem dX0_isTaken_12 : decode cX0_isTaken 12 = .ok (.iconst 1, 1) := by decide +kernel
theorem dX0_isTaken_13 : decode cX0_isTaken 13 = .ok (.goto 4, 3) := by decide +kernel
theorem dX0_isTaken_16 : decode cX0_isTaken 16 = .ok (.iconst 0, 1) := by decide +kernel
theorem dX0_isTaken_17 : decode cX0_isTaken 17 = .ok (.ireturn, 1) := by decide +kernel
theorem dX0_placeOf_0 : decode cX0_placeOf 0 = .ok (.iconst 0, 1) := by decide +kernel
theorem dX0_placeOf_1 : decode cX0_placeOf 1 = .ok (.istore_n 2, 1) := by decide +kernel
theorem dX0_placeOf_2 : decode cX0_placeOf 2 = .ok (.iload_n 2, 1) := by decide +kernel
theorem dX0_placeOf_3 : decode cX0_placeOf 3 = .ok (.aload_n 0, 1) := by decide +kernel
theorem dX0_placeOf_4 : decode cX0_placeOf 4 = .ok (.getfield 24, 3) := by decide +kernel
theorem dX0_placeOf_7 : decode cX0_placeOf 7 = .ok (.if_icmp .ge 21, 3) := by decide +kernel
theorem dX0_placeOf_10 : decode cX0_placeOf 10 = .ok (.aload_n 0, 1) := by decide +kernel
theorem dX0_placeOf_11 : decode cX0_placeOf 11 = .ok (.getfield 9, 3) := by decide +kernel
theorem dX0_placeOf_14 : decode cX0_placeOf 14 = .ok (.iload_n 2, 1) := by decide +kernel
theorem dX0_placeOf_15 : decode cX0_placeOf 15 = .ok (.iaload, 1) := by decide +kernel
theorem dX0_placeOf_16 : decode cX0_placeOf 16 = .ok (.iload_n 1, 1) := by decide +kernel
theorem dX0_placeOf_17 : decode cX0_placeOf 17 = .ok (.if_icmp .ne 5, 3) := by decide +kernel
theorem dX0_placeOf_20 : decode cX0_placeOf 20 = .ok (.iload_n 2, 1) := by decide +kernel
theorem dX0_placeOf_21 : decode cX0_placeOf 21 = .ok (.ireturn, 1) := by decide +kernel
theorem dX0_placeOf_22 : decode cX0_placeOf 22 = .ok (.iinc 2 1, 3) := by decide +kernel
theorem dX0_placeOf_25 : decode cX0_placeOf 25 = .ok (.goto (-23), 3) := by decide +kernel
theorem dX0_placeOf_28 : decode cX0_placeOf 28 = .ok (.bipush (-9), 2) := by decide +kernel
theorem dX0_placeOf_30 : decode cX0_placeOf 30 = .ok (.ireturn, 1) := by decide +kernel
theorem dX0_lastRod_0 : decode cX0_lastRod 0 = .ok (.aload_n 0, 1) := by decide +kernel
theorem dX0_lastRod_1 : decode cX0_lastRod 1 = .ok (.getfield 24, 3) := by decide +kernel
theorem dX0_lastRod_4 : decode cX0_lastRod 4 = .ok (.ifCond .le 17, 3) := by decide +kernel
theorem dX0_lastRod_7 : decode cX0_lastRod 7 = .ok (.aload_n 0, 1) := by decide +kernel
theorem dX0_lastRod_8 : decode cX0_lastRod 8 = .ok (.getfield 9, 3) := by decide +kernel
theorem dX0_lastRod_11 : decode cX0_lastRod 11 = .ok (.aload_n 0, 1) := by decide +kernel
theorem dX0_lastRod_12 : decode cX0_lastRod 12 = .ok (.getfield 24, 3) := by decide +kernel
theorem dX0_lastRod_15 : decode cX0_lastRod 15 = .ok (.iconst 1, 1) := by decide +kernel
theorem dX0_lastRod_16 : decode cX0_lastRod 16 = .ok (.isub, 1) := by decide +kernel
theorem dX0_lastRod_17 : decode cX0_lastRod 17 = .ok (.iaload, 1) := by decide +kernel
theorem dX0_lastRod_18 : decode cX0_lastRod 18 = .ok (.goto 5, 3) := by decide +kernel
theorem dX0_lastRod_21 : decode cX0_lastRod 21 = .ok (.bipush (-9), 2) := by decide +kernel
theorem dX0_lastRod_23 : decode cX0_lastRod 23 = .ok (.ireturn, 1) := by decide +kernel
theorem dX0_bits_0 : decode cX0_bits 0 = .ok (.iconst 0, 1) := by decide +kernel
theorem dX0_bits_1 : decode cX0_bits 1 = .ok (.istore_n 1, 1) := by decide +kernel
theorem dX0_bits_2 : decode cX0_bits 2 = .ok (.iconst 0, 1) := by decide +kernel
theorem dX0_bits_3 : decode cX0_bits 3 = .ok (.istore_n 2, 1) := by decide +kernel
theorem dX0_bits_4 : decode cX0_bits 4 = .ok (.iload_n 2, 1) := by decide +kernel
theorem dX0_bits_5 : decode cX0_bits 5 = .ok (.aload_n 0, 1) := by decide +kernel
theorem dX0_bits_6 : decode cX0_bits 6 = .ok (.getfield 24, 3) := by decide +kernel
theorem dX0_bits_9 : decode cX0_bits 9 = .ok (.if_icmp .ge 20, 3) := by decide +kernel
theorem dX0_bits_12 : decode cX0_bits 12 = .ok (.iload_n 1, 1) := by decide +kernel
theorem dX0_bits_13 : decode cX0_bits 13 = .ok (.iconst 1, 1) := by decide +kernel
theorem dX0_bits_14 : decode cX0_bits 14 = .ok (.aload_n 0, 1) := by decide +kernel
theorem dX0_bits_15 : decode cX0_bits 15 = .ok (.getfield 9, 3) := by decide +kernel
theorem dX0_bits_18 : decode cX0_bits 18 = .ok (.iload_n 2, 1) := by decide +kernel
theorem dX0_bits_19 : decode cX0_bits 19 = .ok (.iaload, 1) := by decide +kernel
theorem dX0_bits_20 : decode cX0_bits 20 = .ok (.ishl, 1) := by decide +kernel
theorem dX0_bits_21 : decode cX0_bits 21 = .ok (.ior, 1) := by decide +kernel
theorem dX0_bits_22 : decode cX0_bits 22 = .ok (.istore_n 1, 1) := by decide +kernel
theorem dX0_bits_23 : decode cX0_bits 23 = .ok (.iinc 2 1, 3) := by decide +kernel
theorem dX0_bits_26 : decode cX0_bits 26 = .ok (.goto (-22), 3) := by decide +kernel
theorem dX0_bits_29 : decode cX0_bits 29 = .ok (.iload_n 1, 1) := by decide +kernel
theorem dX0_bits_30 : decode cX0_bits 30 = .ok (.ireturn, 1) := by decide +kernel
theorem dX0_act_0 : decode cX0_act 0 = .ok (.aload_n 0, 1) := by decide +kernel
theorem dX0_act_1 : decode cX0_act 1 = .ok (.invokevirtual 40, 3) := by decide +kernel
theorem dX0_act_4 : decode cX0_act 4 = .ok (.ifCond .eq 4, 3) := by decide +kernel
theorem dX0_act_7 : decode cX0_act 7 = .ok (.return_, 1) := by decide +kernel
theorem dX0_act_8 : decode cX0_act 8 = .ok (.aload_n 0, 1) := by decide +kernel
theorem dX0_act_9 : decode cX0_act 9 = .ok (.getfield 15, 3) := by decide +kernel
theorem dX0_act_12 : decode cX0_act 12 = .ok (.aload_n 0, 1) := by decide +kernel
theorem dX0_act_13 : decode cX0_act 13 = .ok (.getfield 31, 3) := by decide +kernel
theorem dX0_act_16 : decode cX0_act 16 = .ok (.iload_n 1, 1) := by decide +kernel
theorem dX0_act_17 : decode cX0_act 17 = .ok (.iastore, 1) := by decide +kernel
theorem dX0_act_18 : decode cX0_act 18 = .ok (.aload_n 0, 1) := by decide +kernel
theorem dX0_act_19 : decode cX0_act 19 = .ok (.getfield 18, 3) := by decide +kernel
theorem dX0_act_22 : decode cX0_act 22 = .ok (.aload_n 0, 1) := by decide +kernel
theorem dX0_act_23 : decode cX0_act 23 = .ok (.getfield 31, 3) := by decide +kernel
theorem dX0_act_26 : decode cX0_act 26 = .ok (.iload_n 2, 1) := by decide +kernel
theorem dX0_act_27 : decode cX0_act 27 = .ok (.iastore, 1) := by decide +kernel
theorem dX0_act_28 : decode cX0_act 28 = .ok (.aload_n 0, 1) := by decide +kernel
theorem dX0_act_29 : decode cX0_act 29 = .ok (.getfield 21, 3) := by decide +kernel
theorem dX0_act_32 : decode cX0_act 32 = .ok (.aload_n 0, 1) := by decide +kernel
theorem dX0_act_33 : decode cX0_act 33 = .ok (.getfield 31, 3) := by decide +kernel
theorem dX0_act_36 : decode cX0_act 36 = .ok (.iload_n 3, 1) := by decide +kernel
theorem dX0_act_37 : decode cX0_act 37 = .ok (.iastore, 1) := by decide +kernel
theorem dX0_act_38 : decode cX0_act 38 = .ok (.aload_n 0, 1) := by decide +kernel
theorem dX0_act_39 : decode cX0_act 39 = .ok (.dup, 1) := by decide +kernel
theorem dX0_act_40 : decode cX0_act 40 = .ok (.getfield 31, 3) := by decide +kernel
theorem dX0_act_43 : decode cX0_act 43 = .ok (.iconst 1, 1) := by decide +kernel
theorem dX0_act_44 : decode cX0_act 44 = .ok (.iadd, 1) := by decide +kernel
theorem dX0_act_45 : decode cX0_act 45 = .ok (.putfield 31, 3) := by decide +kernel
theorem dX0_act_48 : decode cX0_act 48 = .ok (.aload_n 0, 1) := by decide +kernel
theorem dX0_act_49 : decode cX0_act 49 = .ok (.iload_n 1, 1) := by decide +kernel
theorem dX0_act_50 : decode cX0_act 50 = .ok (.iload_n 2, 1) := by decide +kernel
theorem dX0_act_51 : decode cX0_act 51 = .ok (.iload_n 3, 1) := by decide +kernel
theorem dX0_act_52 : decode cX0_act 52 = .ok (.invokevirtual 44, 3) := by decide +kernel
theorem dX0_act_55 : decode cX0_act 55 = .ok (.return_, 1) := by decide +kernel
theorem dX0_takeBack_0 : decode cX0_takeBack 0 = .ok (.aload_n 0, 1) := by decide +kernel
theorem dX0_takeBack_1 : decode cX0_takeBack 1 = .ok (.getfield 31, 3) := by decide +kernel
theorem dX0_takeBack_4 : decode cX0_takeBack 4 = .ok (.ifCond .gt 4, 3) := by decide +kernel
theorem dX0_takeBack_7 : decode cX0_takeBack 7 = .ok (.return_, 1) := by decide +kernel
theorem dX0_takeBack_8 : decode cX0_takeBack 8 = .ok (.aload_n 0, 1) := by decide +kernel
theorem dX0_takeBack_9 : decode cX0_takeBack 9 = .ok (.dup, 1) := by decide +kernel
theorem dX0_takeBack_10 : decode cX0_takeBack 10 = .ok (.getfield 31, 3) := by decide +kernel
theorem dX0_takeBack_13 : decode cX0_takeBack 13 = .ok (.iconst 1, 1) := by decide +kernel
theorem dX0_takeBack_14 : decode cX0_takeBack 14 = .ok (.isub, 1) := by decide +kernel
theorem dX0_takeBack_15 : decode cX0_takeBack 15 = .ok (.putfield 31, 3) := by decide +kernel
theorem dX0_takeBack_18 : decode cX0_takeBack 18 = .ok (.aload_n 0, 1) := by decide +kernel
theorem dX0_takeBack_19 : decode cX0_takeBack 19 = .ok (.aload_n 0, 1) := by decide +kernel
theorem dX0_takeBack_20 : decode cX0_takeBack 20 = .ok (.getfield 15, 3) := by decide +kernel
theorem dX0_takeBack_23 : decode cX0_takeBack 23 = .ok (.aload_n 0, 1) := by decide +kernel
theorem dX0_takeBack_24 : decode cX0_takeBack 24 = .ok (.getfield 31, 3) := by decide +kernel
theorem dX0_takeBack_27 : decode cX0_takeBack 27 = .ok (.iaload, 1) := by decide +kernel
theorem dX0_takeBack_28 : decode cX0_takeBack 28 = .ok (.invokestatic 48, 3) := by decide +kernel
theorem dX0_takeBack_31 : decode cX0_takeBack 31 = .ok (.aload_n 0, 1) := by decide +kernel
theorem dX0_takeBack_32 : decode cX0_takeBack 32 = .ok (.getfield 18, 3) := by decide +kernel
theorem dX0_takeBack_35 : decode cX0_takeBack 35 = .ok (.aload_n 0, 1) := by decide +kernel
theorem dX0_takeBack_36 : decode cX0_takeBack 36 = .ok (.getfield 31, 3) := by decide +kernel
theorem dX0_takeBack_39 : decode cX0_takeBack 39 = .ok (.iaload, 1) := by decide +kernel
theorem dX0_takeBack_40 : decode cX0_takeBack 40 = .ok (.aload_n 0, 1) := by decide +kernel
theorem dX0_takeBack_41 : decode cX0_takeBack 41 = .ok (.getfield 21, 3) := by decide +kernel
theorem dX0_takeBack_44 : decode cX0_takeBack 44 = .ok (.aload_n 0, 1) := by decide +kernel
theorem dX0_takeBack_45 : decode cX0_takeBack 45 = .ok (.getfield 31, 3) := by decide +kernel
theorem dX0_takeBack_48 : decode cX0_takeBack 48 = .ok (.iaload, 1) := by decide +kernel
theorem dX0_takeBack_49 : decode cX0_takeBack 49 = .ok (.invokevirtual 44, 3) := by decide +kernel
theorem dX0_takeBack_52 : decode cX0_takeBack 52 = .ok (.return_, 1) := by decide +kernel
theorem dX0_backOf_0 : decode cX0_backOf 0 = .ok (.iload_n 0, 1) := by decide +kernel
theorem dX0_backOf_1 : decode cX0_backOf 1 = .ok (.iconst 1, 1) := by decide +kernel
theorem dX0_backOf_2 : decode cX0_backOf 2 = .ok (.if_icmp .ne 5, 3) := by decide +kernel
theorem dX0_backOf_5 : decode cX0_backOf 5 = .ok (.iconst 2, 1) := by decide +kernel
theorem dX0_backOf_6 : decode cX0_backOf 6 = .ok (.ireturn, 1) := by decide +kernel
theorem dX0_backOf_7 : decode cX0_backOf 7 = .ok (.iload_n 0, 1) := by decide +kernel
theorem dX0_backOf_8 : decode cX0_backOf 8 = .ok (.iconst 2, 1) := by decide +kernel
theorem dX0_backOf_9 : decode cX0_backOf 9 = .ok (.if_icmp .ne 7, 3) := by decide +kernel
theorem dX0_backOf_12 : decode cX0_backOf 12 = .ok (.iconst 1, 1) := by decide +kernel
theorem dX0_backOf_13 : decode cX0_backOf 13 = .ok (.goto 4, 3) := by decide +kernel
theorem dX0_backOf_16 : decode cX0_backOf 16 = .ok (.iload_n 0, 1) := by decide +kernel
theorem dX0_backOf_17 : decode cX0_backOf 17 = .ok (.ireturn, 1) := by decide +kernel
theorem dX0_perform_0 : decode cX0_perform 0 = .ok (.iload_n 1, 1) := by decide +kernel
theorem dX0_perform_1 : decode cX0_perform 1 = .ok (.iconst 1, 1) := by decide +kernel
theorem dX0_perform_2 : decode cX0_perform 2 = .ok (.if_icmp .ne 38, 3) := by decide +kernel
theorem dX0_perform_5 : decode cX0_perform 5 = .ok (.aload_n 0, 1) := by decide +kernel
theorem dX0_perform_6 : decode cX0_perform 6 = .ok (.getfield 24, 3) := by decide +kernel
theorem dX0_perform_9 : decode cX0_perform 9 = .ok (.aload_n 0, 1) := by decide +kernel
theorem dX0_perform_10 : decode cX0_perform 10 = .ok (.getfield 9, 3) := by decide +kernel
theorem dX0_perform_13 : decode cX0_perform 13 = .ok (.arraylength, 1) := by decide +kernel
theorem dX0_perform_14 : decode cX0_perform 14 = .ok (.if_icmp .ge 26, 3) := by decide +kernel
theorem dX0_perform_17 : decode cX0_perform 17 = .ok (.aload_n 0, 1) := by decide +kernel
theorem dX0_perform_18 : decode cX0_perform 18 = .ok (.getfield 9, 3) := by decide +kernel
theorem dX0_perform_21 : decode cX0_perform 21 = .ok (.aload_n 0, 1) := by decide +kernel
theorem dX0_perform_22 : decode cX0_perform 22 = .ok (.getfield 24, 3) := by decide +kernel
theorem dX0_perform_25 : decode cX0_perform 25 = .ok (.iload_n 2, 1) := by decide +kernel
theorem dX0_perform_26 : decode cX0_perform 26 = .ok (.iastore, 1) := by decide +kernel
theorem dX0_perform_27 : decode cX0_perform 27 = .ok (.aload_n 0, 1) := by decide +kernel
theorem dX0_perform_28 : decode cX0_perform 28 = .ok (.dup, 1) := by decide +kernel
theorem dX0_perform_29 : decode cX0_perform 29 = .ok (.getfield 24, 3) := by decide +kernel
theorem dX0_perform_32 : decode cX0_perform 32 = .ok (.iconst 1, 1) := by decide +kernel
theorem dX0_perform_33 : decode cX0_perform 33 = .ok (.iadd, 1) := by decide +kernel
theorem dX0_perform_34 : decode cX0_perform 34 = .ok (.putfield 24, 3) := by decide +kernel
theorem dX0_perform_37 : decode cX0_perform 37 = .ok (.goto 97, 3) := by decide +kernel
theorem dX0_perform_40 : decode cX0_perform 40 = .ok (.iload_n 1, 1) := by decide +kernel
theorem dX0_perform_41 : decode cX0_perform 41 = .ok (.iconst 2, 1) := by decide +kernel
theorem dX0_perform_42 : decode cX0_perform 42 = .ok (.if_icmp .ne 23, 3) := by decide +kernel
theorem dX0_perform_45 : decode cX0_perform 45 = .ok (.aload_n 0, 1) := by decide +kernel
theorem dX0_perform_46 : decode cX0_perform 46 = .ok (.getfield 24, 3) := by decide +kernel
theorem dX0_perform_49 : decode cX0_perform 49 = .ok (.ifCond .le 16, 3) := by decide +kernel
theorem dX0_perform_52 : decode cX0_perform 52 = .ok (.aload_n 0, 1) := by decide +kernel
theorem dX0_perform_53 : decode cX0_perform 53 = .ok (.dup, 1) := by decide +kernel
theorem dX0_perform_54 : decode cX0_perform 54 = .ok (.getfield 24, 3) := by decide +kernel
theorem dX0_perform_57 : decode cX0_perform 57 = .ok (.iconst 1, 1) := by decide +kernel
theorem dX0_perform_58 : decode cX0_perform 58 = .ok (.isub, 1) := by decide +kernel
theorem dX0_perform_59 : decode cX0_perform 59 = .ok (.putfield 24, 3) := by decide +kernel
theorem dX0_perform_62 : decode cX0_perform 62 = .ok (.goto 72, 3) := by decide +kernel
theorem dX0_perform_65 : decode cX0_perform 65 = .ok (.iload_n 1, 1) := by decide +kernel
theorem dX0_perform_66 : decode cX0_perform 66 = .ok (.iconst 3, 1) := by decide +kernel
theorem dX0_perform_67 : decode cX0_perform 67 = .ok (.if_icmp .ne 50, 3) := by decide +kernel
theorem dX0_perform_70 : decode cX0_perform 70 = .ok (.aload_n 0, 1) := by decide +kernel
theorem dX0_perform_71 : decode cX0_perform 71 = .ok (.iload_n 2, 1) := by decide +kernel
theorem dX0_perform_72 : decode cX0_perform 72 = .ok (.invokevirtual 52, 3) := by decide +kernel
theorem dX0_perform_75 : decode cX0_perform 75 = .ok (.ifCond .eq 42, 3) := by decide +kernel
theorem dX0_perform_78 : decode cX0_perform 78 = .ok (.aload_n 0, 1) := by decide +kernel
theorem dX0_perform_79 : decode cX0_perform 79 = .ok (.iload_n 3, 1) := by decide +kernel
theorem dX0_perform_80 : decode cX0_perform 80 = .ok (.invokevirtual 52, 3) := by decide +kernel
theorem dX0_perform_83 : decode cX0_perform 83 = .ok (.ifCond .eq 34, 3) := by decide +kernel
theorem dX0_perform_86 : decode cX0_perform 86 = .ok (.aload_n 0, 1) := by decide +kernel
theorem dX0_perform_87 : decode cX0_perform 87 = .ok (.getfield 9, 3) := by decide +kernel
theorem dX0_perform_90 : decode cX0_perform 90 = .ok (.iload_n 2, 1) := by decide +kernel
theorem dX0_perform_91 : decode cX0_perform 91 = .ok (.iaload, 1) := by decide +kernel
theorem dX0_perform_92 : decode cX0_perform 92 = .ok (.istore 4, 2) := by decide +kernel
theorem dX0_perform_94 : decode cX0_perform 94 = .ok (.aload_n 0, 1) := by decide +kernel
theorem dX0_perform_95 : decode cX0_perform 95 = .ok (.getfield 9, 3) := by decide +kernel
theorem dX0_perform_98 : decode cX0_perform 98 = .ok (.iload_n 2, 1) := by decide +kernel
theorem dX0_perform_99 : decode cX0_perform 99 = .ok (.aload_n 0, 1) := by decide +kernel
theorem dX0_perform_100 : decode cX0_perform 100 = .ok (.getfield 9, 3) := by decide +kernel
theorem dX0_perform_103 : decode cX0_perform 103 = .ok (.iload_n 3, 1) := by decide +kernel
theorem dX0_perform_104 : decode cX0_perform 104 = .ok (.iaload, 1) := by decide +kernel
theorem dX0_perform_105 : decode cX0_perform 105 = .ok (.iastore, 1) := by decide +kernel
theorem dX0_perform_106 : decode cX0_perform 106 = .ok (.aload_n 0, 1) := by decide +kernel
theorem dX0_perform_107 : decode cX0_perform 107 = .ok (.getfield 9, 3) := by decide +kernel
theorem dX0_perform_110 : decode cX0_perform 110 = .ok (.iload_n 3, 1) := by decide +kernel
theorem dX0_perform_111 : decode cX0_perform 111 = .ok (.iload 4, 2) := by decide +kernel
theorem dX0_perform_113 : decode cX0_perform 113 = .ok (.iastore, 1) := by decide +kernel
theorem dX0_perform_114 : decode cX0_perform 114 = .ok (.goto 20, 3) := by decide +kernel
theorem dX0_perform_117 : decode cX0_perform 117 = .ok (.iload_n 1, 1) := by decide +kernel
theorem dX0_perform_118 : decode cX0_perform 118 = .ok (.iconst 4, 1) := by decide +kernel
theorem dX0_perform_119 : decode cX0_perform 119 = .ok (.if_icmp .ne 15, 3) := by decide +kernel
theorem dX0_perform_122 : decode cX0_perform 122 = .ok (.aload_n 0, 1) := by decide +kernel
theorem dX0_perform_123 : decode cX0_perform 123 = .ok (.dup, 1) := by decide +kernel
theorem dX0_perform_124 : decode cX0_perform 124 = .ok (.getfield 28, 3) := by decide +kernel
theorem dX0_perform_127 : decode cX0_perform 127 = .ok (.iconst 1, 1) := by decide +kernel
theorem dX0_perform_128 : decode cX0_perform 128 = .ok (.iload_n 2, 1) := by decide +kernel
theorem dX0_perform_129 : decode cX0_perform 129 = .ok (.ishl, 1) := by decide +kernel
theorem dX0_perform_130 : decode cX0_perform 130 = .ok (.ixor, 1) := by decide +kernel
theorem dX0_perform_131 : decode cX0_perform 131 = .ok (.putfield 28, 3) := by decide +kernel
theorem dX0_perform_134 : decode cX0_perform 134 = .ok (.return_, 1) := by decide +kernel
theorem dX1_init_0 : decode cX1_init 0 = .ok (.aload_n 0, 1) := by decide +kernel
theorem dX1_init_1 : decode cX1_init 1 = .ok (.invokespecial 1, 3) := by decide +kernel
theorem dX1_init_4 : decode cX1_init 4 = .ok (.return_, 1) := by decide +kernel
theorem dX1_isWithoutTens_0 : decode cX1_isWithoutTens 0 = .ok (.aload_n 0, 1) := by decide +kernel
theorem dX1_isWithoutTens_1 : decode cX1_isWithoutTens 1 = .ok (.iload_n 1, 1) := by decide +kernel
theorem dX1_isWithoutTens_2 : decode cX1_isWithoutTens 2 = .ok (.iload_n 2, 1) := by decide +kernel
theorem dX1_isWithoutTens_3 : decode cX1_isWithoutTens 3 = .ok (.invokespecial 7, 3) := by decide +kernel
theorem dX1_isWithoutTens_6 : decode cX1_isWithoutTens 6 = .ok (.ifCond .ne 11, 3) := by decide +kernel
theorem dX1_isWithoutTens_9 : decode cX1_isWithoutTens 9 = .ok (.iload_n 2, 1) := by decide +kernel
theorem dX1_isWithoutTens_10 : decode cX1_isWithoutTens 10 = .ok (.bipush 9, 2) := by decide +kernel
theorem dX1_isWithoutTens_12 : decode cX1_isWithoutTens 12 = .ok (.iload_n 1, 1) := by decide +kernel
theorem dX1_isWithoutTens_13 : decode cX1_isWithoutTens 13 = .ok (.isub, 1) := by decide +kernel
theorem dX1_isWithoutTens_14 : decode cX1_isWithoutTens 14 = .ok (.if_icmp .le 7, 3) := by decide +kernel
theorem dX1_isWithoutTens_17 : decode cX1_isWithoutTens 17 = .ok (.iconst 1, 1) := by decide +kernel
theorem dX1_isWithoutTens_18 : decode cX1_isWithoutTens 18 = .ok (.goto 4, 3) := by decide +kernel
theorem dX1_isWithoutTens_21 : decode cX1_isWithoutTens 21 = .ok (.iconst 0, 1) := by decide +kernel
theorem dX1_isWithoutTens_22 : decode cX1_isWithoutTens 22 = .ok (.ireturn, 1) := by decide +kernel
theorem dX2_init_0 : decode cX2_init 0 = .ok (.aload_n 0, 1) := by decide +kernel
theorem dX2_init_1 : decode cX2_init 1 = .ok (.invokespecial 1, 3) := by decide +kernel
theorem dX2_init_4 : decode cX2_init 4 = .ok (.return_, 1) := by decide +kernel
theorem dX2_shown_0 : decode cX2_shown 0 = .ok (.iload_n 3, 1) := by decide +kernel
theorem dX2_shown_1 : decode cX2_shown 1 = .ok (.iload_n 2, 1) := by decide +kernel
theorem dX2_shown_2 : decode cX2_shown 2 = .ok (.if_icmp .lt 9, 3) := by decide +kernel
theorem dX2_shown_5 : decode cX2_shown 5 = .ok (.iload_n 1, 1) := by decide +kernel
theorem dX2_shown_6 : decode cX2_shown 6 = .ok (.iload_n 3, 1) := by decide +kernel
theorem dX2_shown_7 : decode cX2_shown 7 = .ok (.imul, 1) := by decide +kernel
theorem dX2_shown_8 : decode cX2_shown 8 = .ok (.goto 10, 3) := by decide +kernel
theorem dX2_shown_11 : decode cX2_shown 11 = .ok (.aload_n 0, 1) := by decide +kernel
theorem dX2_shown_12 : decode cX2_shown 12 = .ok (.iload_n 1, 1) := by decide +kernel
theorem dX2_shown_13 : decode cX2_shown 13 = .ok (.iload_n 2, 1) := by decide +kernel
theorem dX2_shown_14 : decode cX2_shown 14 = .ok (.iload_n 3, 1) := by decide +kernel
theorem dX2_shown_15 : decode cX2_shown 15 = .ok (.invokespecial 7, 3) := by decide +kernel
theorem dX2_shown_18 : decode cX2_shown 18 = .ok (.ireturn, 1) := by decide +kernel
theorem dX3_init_0 : decode cX3_init 0 = .ok (.aload_n 0, 1) := by decide +kernel
theorem dX3_init_1 : decode cX3_init 1 = .ok (.invokespecial 1, 3) := by decide +kernel
theorem dX3_init_4 : decode cX3_init 4 = .ok (.return_, 1) := by decide +kernel
theorem dX3_shown_0 : decode cX3_shown 0 = .ok (.iload_n 1, 1) := by decide +kernel
theorem dX3_shown_1 : decode cX3_shown 1 = .ok (.iload_n 3, 1) := by decide +kernel
theorem dX3_shown_2 : decode cX3_shown 2 = .ok (.imul, 1) := by decide +kernel
theorem dX3_shown_3 : decode cX3_shown 3 = .ok (.ireturn, 1) := by decide +kernel
theorem dX4_init_0 : decode cX4_init 0 = .ok (.aload_n 0, 1) := by decide +kernel
theorem dX4_init_1 : decode cX4_init 1 = .ok (.invokespecial 1, 3) := by decide +kernel
theorem dX4_init_4 : decode cX4_init 4 = .ok (.aload_n 0, 1) := by decide +kernel
theorem dX4_init_5 : decode cX4_init 5 = .ok (.aload_n 1, 1) := by decide +kernel
theorem dX4_init_6 : decode cX4_init 6 = .ok (.putfield 7, 3) := by decide +kernel
theorem dX4_init_9 : decode cX4_init 9 = .ok (.return_, 1) := by decide +kernel
theorem dX5_init_0 : decode cX5_init 0 = .ok (.aload_n 0, 1) := by decide +kernel
theorem dX5_init_1 : decode cX5_init 1 = .ok (.invokespecial 3, 3) := by decide +kernel
theorem dX5_init_4 : decode cX5_init 4 = .ok (.aload_n 0, 1) := by decide +kernel
theorem dX5_init_5 : decode cX5_init 5 = .ok (.bipush 7, 2) := by decide +kernel
theorem dX5_init_7 : decode cX5_init 7 = .ok (.newarray .int, 2) := by decide +kernel
theorem dX5_init_9 : decode cX5_init 9 = .ok (.putfield 9, 3) := by decide +kernel
theorem dX5_init_12 : decode cX5_init 12 = .ok (.aload_n 0, 1) := by decide +kernel
theorem dX5_init_13 : decode cX5_init 13 = .ok (.bipush 7, 2) := by decide +kernel
theorem dX5_init_15 : decode cX5_init 15 = .ok (.newarray .int, 2) := by decide +kernel
theorem dX5_init_17 : decode cX5_init 17 = .ok (.putfield 15, 3) := by decide +kernel
theorem dX5_init_20 : decode cX5_init 20 = .ok (.aload_n 0, 1) := by decide +kernel
theorem dX5_init_21 : decode cX5_init 21 = .ok (.bipush 7, 2) := by decide +kernel
theorem dX5_init_23 : decode cX5_init 23 = .ok (.newarray .int, 2) := by decide +kernel
theorem dX5_init_25 : decode cX5_init 25 = .ok (.putfield 18, 3) := by decide +kernel
theorem dX5_init_28 : decode cX5_init 28 = .ok (.return_, 1) := by decide +kernel
theorem dX5_nearest_0 : decode cX5_nearest 0 = .ok (.aload_n 0, 1) := by decide +kernel
theorem dX5_nearest_1 : decode cX5_nearest 1 = .ok (.iload_n 1, 1) := by decide +kernel
theorem dX5_nearest_2 : decode cX5_nearest 2 = .ok (.putfield 21, 3) := by decide +kernel
theorem dX5_nearest_5 : decode cX5_nearest 5 = .ok (.aload_n 0, 1) := by decide +kernel
theorem dX5_nearest_6 : decode cX5_nearest 6 = .ok (.iload_n 2, 1) := by decide +kernel
theorem dX5_nearest_7 : decode cX5_nearest 7 = .ok (.aload_n 0, 1) := by decide +kernel
theorem dX5_nearest_8 : decode cX5_nearest 8 = .ok (.getfield 25, 3) := by decide +kernel
theorem dX5_nearest_11 : decode cX5_nearest 11 = .ok (.invokestatic 28, 3) := by decide +kernel
theorem dX5_nearest_14 : decode cX5_nearest 14 = .ok (.putfield 34, 3) := by decide +kernel
theorem dX5_nearest_17 : decode cX5_nearest 17 = .ok (.aload_n 0, 1) := by decide +kernel
theorem dX5_nearest_18 : decode cX5_nearest 18 = .ok (.iload_n 3, 1) := by decide +kernel
theorem dX5_nearest_19 : decode cX5_nearest 19 = .ok (.putfield 37, 3) := by decide +kernel
theorem dX5_nearest_22 : decode cX5_nearest 22 = .ok (.aload_n 0, 1) := by decide +kernel
theorem dX5_nearest_23 : decode cX5_nearest 23 = .ok (.iconst 0, 1) := by decide +kernel
theorem dX5_nearest_24 : decode cX5_nearest 24 = .ok (.iconst 0, 1) := by decide +kernel
theorem dX5_nearest_25 : decode cX5_nearest 25 = .ok (.iconst 0, 1) := by decide +kernel
theorem dX5_nearest_26 : decode cX5_nearest 26 = .ok (.invokevirtual 40, 3) := by decide +kernel
theorem dX5_nearest_29 : decode cX5_nearest 29 = .ok (.aload_n 0, 1) := by decide +kernel
theorem dX5_nearest_30 : decode cX5_nearest 30 = .ok (.getfield 37, 3) := by decide +kernel
theorem dX5_nearest_33 : decode cX5_nearest 33 = .ok (.ireturn, 1) := by decide +kernel
theorem dX5_extend_0 : decode cX5_extend 0 = .ok (.aload_n 0, 1) := by decide +kernel
theorem dX5_extend_1 : decode cX5_extend 1 = .ok (.aload_n 0, 1) := by decide +kernel
theorem dX5_extend_2 : decode cX5_extend 2 = .ok (.getfield 34, 3) := by decide +kernel
theorem dX5_extend_5 : decode cX5_extend 5 = .ok (.iload_n 1, 1) := by decide +kernel
theorem dX5_extend_6 : decode cX5_extend 6 = .ok (.isub, 1) := by decide +kernel
theorem dX5_extend_7 : decode cX5_extend 7 = .ok (.iload_n 3, 1) := by decide +kernel
theorem dX5_extend_8 : decode cX5_extend 8 = .ok (.invokevirtual 44, 3) := by decide +kernel
theorem dX5_extend_11 : decode cX5_extend 11 = .ok (.istore 4, 2) := by decide +kernel
theorem dX5_extend_13 : decode cX5_extend 13 = .ok (.iload 4, 2) := by decide +kernel
theorem dX5_extend_15 : decode cX5_extend 15 = .ok (.aload_n 0, 1) := by decide +kernel
theorem dX5_extend_16 : decode cX5_extend 16 = .ok (.getfield 37, 3) := by decide +kernel
theorem dX5_extend_19 : decode cX5_extend 19 = .ok (.if_icmp .lt 4, 3) := by decide +kernel
theorem dX5_extend_22 : decode cX5_extend 22 = .ok (.return_, 1) := by decide +kernel
theorem dX5_extend_23 : decode cX5_extend 23 = .ok (.iload_n 1, 1) := by decide +kernel
theorem dX5_extend_24 : decode cX5_extend 24 = .ok (.aload_n 0, 1) := by decide +kernel
theorem dX5_extend_25 : decode cX5_extend 25 = .ok (.getfield 34, 3) := by decide +kernel
theorem dX5_extend_28 : decode cX5_extend 28 = .ok (.if_icmp .lt 25, 3) := by decide +kernel
theorem dX5_extend_31 : decode cX5_extend 31 = .ok (.aload_n 0, 1) := by decide +kernel
theorem dX5_extend_32 : decode cX5_extend 32 = .ok (.iload 4, 2) := by decide +kernel
theorem dX5_extend_34 : decode cX5_extend 34 = .ok (.putfield 37, 3) := by decide +kernel
theorem dX5_extend_37 : decode cX5_extend 37 = .ok (.aload_n 0, 1) := by decide +kernel
theorem dX5_extend_38 : decode cX5_extend 38 = .ok (.getfield 15, 3) := by decide +kernel
theorem dX5_extend_41 : decode cX5_extend 41 = .ok (.iconst 0, 1) := by decide +kernel
theorem dX5_extend_42 : decode cX5_extend 42 = .ok (.aload_n 0, 1) := by decide +kernel
theorem dX5_extend_43 : decode cX5_extend 43 = .ok (.getfield 18, 3) := by decide +kernel
theorem dX5_extend_46 : decode cX5_extend 46 = .ok (.iconst 0, 1) := by decide +kernel
theorem dX5_extend_47 : decode cX5_extend 47 = .ok (.bipush 7, 2) := by decide +kernel
theorem dX5_extend_49 : decode cX5_extend 49 = .ok (.invokestatic 47, 3) := by decide +kernel
theorem dX5_extend_52 : decode cX5_extend 52 = .ok (.return_, 1) := by decide +kernel
theorem dX5_extend_53 : decode cX5_extend 53 = .ok (.iconst 0, 1) := by decide +kernel
theorem dX5_extend_54 : decode cX5_extend 54 = .ok (.istore 5, 2) := by decide +kernel
theorem dX5_extend_56 : decode cX5_extend 56 = .ok (.iload 5, 2) := by decide +kernel
theorem dX5_extend_58 : decode cX5_extend 58 = .ok (.aload_n 0, 1) := by decide +kernel
theorem dX5_extend_59 : decode cX5_extend 59 = .ok (.getfield 25, 3) := by decide +kernel
theorem dX5_extend_62 : decode cX5_extend 62 = .ok (.if_icmp .ge 51, 3) := by decide +kernel
theorem dX5_extend_65 : decode cX5_extend 65 = .ok (.iload_n 2, 1) := by decide +kernel
theorem dX5_extend_66 : decode cX5_extend 66 = .ok (.iload 5, 2) := by decide +kernel
theorem dX5_extend_68 : decode cX5_extend 68 = .ok (.ishr, 1) := by decide +kernel
theorem dX5_extend_69 : decode cX5_extend 69 = .ok (.iconst 1, 1) := by decide +kernel
theorem dX5_extend_70 : decode cX5_extend 70 = .ok (.iand, 1) := by decide +kernel
theorem dX5_extend_71 : decode cX5_extend 71 = .ok (.ifCond .ne 36, 3) := by decide +kernel
theorem dX5_extend_74 : decode cX5_extend 74 = .ok (.aload_n 0, 1) := by decide +kernel
theorem dX5_extend_75 : decode cX5_extend 75 = .ok (.getfield 15, 3) := by decide +kernel
theorem dX5_extend_78 : decode cX5_extend 78 = .ok (.iload_n 1, 1) := by decide +kernel
theorem dX5_extend_79 : decode cX5_extend 79 = .ok (.iload 5, 2) := by decide +kernel
theorem dX5_extend_81 : decode cX5_extend 81 = .ok (.iastore, 1) := by decide +kernel
theorem dX5_extend_82 : decode cX5_extend 82 = .ok (.aload_n 0, 1) := by decide +kernel
theorem dX5_extend_83 : decode cX5_extend 83 = .ok (.iload_n 1, 1) := by decide +kernel
theorem dX5_extend_84 : decode cX5_extend 84 = .ok (.iconst 1, 1) := by decide +kernel
theorem dX5_extend_85 : decode cX5_extend 85 = .ok (.iadd, 1) := by decide +kernel
theorem dX5_extend_86 : decode cX5_extend 86 = .ok (.iload_n 2, 1) := by decide +kernel
theorem dX5_extend_87 : decode cX5_extend 87 = .ok (.iconst 1, 1) := by decide +kernel
theorem dX5_extend_88 : decode cX5_extend 88 = .ok (.iload 5, 2) := by decide +kernel
theorem dX5_extend_90 : decode cX5_extend 90 = .ok (.ishl, 1) := by decide +kernel
theorem dX5_extend_91 : decode cX5_extend 91 = .ok (.ior, 1) := by decide +kernel
theorem dX5_extend_92 : decode cX5_extend 92 = .ok (.bipush 10, 2) := by decide +kernel
theorem dX5_extend_94 : decode cX5_extend 94 = .ok (.iload_n 3, 1) := by decide +kernel
theorem dX5_extend_95 : decode cX5_extend 95 = .ok (.imul, 1) := by decide +kernel
theorem dX5_extend_96 : decode cX5_extend 96 = .ok (.aload_n 0, 1) := by decide +kernel
theorem dX5_extend_97 : decode cX5_extend 97 = .ok (.getfield 9, 3) := by decide +kernel
theorem dX5_extend_100 : decode cX5_extend 100 = .ok (.iload 5, 2) := by decide +kernel
theorem dX5_extend_102 : decode cX5_extend 102 = .ok (.iaload, 1) := by decide +kernel
theorem dX5_extend_103 : decode cX5_extend 103 = .ok (.iadd, 1) := by decide +kernel
theorem dX5_extend_104 : decode cX5_extend 104 = .ok (.invokevirtual 40, 3) := by decide +kernel
theorem dX5_extend_107 : decode cX5_extend 107 = .ok (.iinc 5 1, 3) := by decide +kernel
theorem dX5_extend_110 : decode cX5_extend 110 = .ok (.goto (-54), 3) := by decide +kernel
theorem dX5_extend_113 : decode cX5_extend 113 = .ok (.return_, 1) := by decide +kernel
theorem dX5_leastGap_0 : decode cX5_leastGap 0 = .ok (.iload_n 1, 1) := by decide +kernel
theorem dX5_leastGap_1 : decode cX5_leastGap 1 = .ok (.ifCond .lt 19, 3) := by decide +kernel
theorem dX5_leastGap_4 : decode cX5_leastGap 4 = .ok (.iload_n 1, 1) := by decide +kernel
theorem dX5_leastGap_5 : decode cX5_leastGap 5 = .ok (.getstatic 53, 3) := by decide +kernel
theorem dX5_leastGap_8 : decode cX5_leastGap 8 = .ok (.arraylength, 1) := by decide +kernel
theorem dX5_leastGap_9 : decode cX5_leastGap 9 = .ok (.if_icmp .ge 11, 3) := by decide +kernel
theorem dX5_leastGap_12 : decode cX5_leastGap 12 = .ok (.getstatic 53, 3) := by decide +kernel
theorem dX5_leastGap_15 : decode cX5_leastGap 15 = .ok (.iload_n 1, 1) := by decide +kernel
theorem dX5_leastGap_16 : decode cX5_leastGap 16 = .ok (.iaload, 1) := by decide +kernel
theorem dX5_leastGap_17 : decode cX5_leastGap 17 = .ok (.goto 4, 3) := by decide +kernel
theorem dX5_leastGap_20 : decode cX5_leastGap 20 = .ok (.iconst 1, 1) := by decide +kernel
theorem dX5_leastGap_21 : decode cX5_leastGap 21 = .ok (.istore_n 3, 1) := by decide +kernel
theorem dX5_leastGap_22 : decode cX5_leastGap 22 = .ok (.iload_n 2, 1) := by decide +kernel
theorem dX5_leastGap_23 : decode cX5_leastGap 23 = .ok (.iload_n 3, 1) := by decide +kernel
theorem dX5_leastGap_24 : decode cX5_leastGap 24 = .ok (.imul, 1) := by decide +kernel
theorem dX5_leastGap_25 : decode cX5_leastGap 25 = .ok (.istore 4, 2) := by decide +kernel
theorem dX5_leastGap_27 : decode cX5_leastGap 27 = .ok (.iload 4, 2) := by decide +kernel
theorem dX5_leastGap_29 : decode cX5_leastGap 29 = .ok (.bipush 9, 2) := by decide +kernel
theorem dX5_leastGap_31 : decode cX5_leastGap 31 = .ok (.iload_n 3, 1) := by decide +kernel
theorem dX5_leastGap_32 : decode cX5_leastGap 32 = .ok (.iconst 1, 1) := by decide +kernel
theorem dX5_leastGap_33 : decode cX5_leastGap 33 = .ok (.isub, 1) := by decide +kernel
theorem dX5_leastGap_34 : decode cX5_leastGap 34 = .ok (.imul, 1) := by decide +kernel
theorem dX5_leastGap_35 : decode cX5_leastGap 35 = .ok (.iadd, 1) := by decide +kernel
theorem dX5_leastGap_36 : decode cX5_leastGap 36 = .ok (.istore 5, 2) := by decide +kernel
theorem dX5_leastGap_38 : decode cX5_leastGap 38 = .ok (.iconst 0, 1) := by decide +kernel
theorem dX5_leastGap_39 : decode cX5_leastGap 39 = .ok (.iload 4, 2) := by decide +kernel
theorem dX5_leastGap_41 : decode cX5_leastGap 41 = .ok (.aload_n 0, 1) := by decide +kernel
theorem dX5_leastGap_42 : decode cX5_leastGap 42 = .ok (.getfield 21, 3) := by decide +kernel
theorem dX5_leastGap_45 : decode cX5_leastGap 45 = .ok (.isub, 1) := by decide +kernel
theorem dX5_leastGap_46 : decode cX5_leastGap 46 = .ok (.aload_n 0, 1) := by decide +kernel
theorem dX5_leastGap_47 : decode cX5_leastGap 47 = .ok (.getfield 21, 3) := by decide +kernel
theorem dX5_leastGap_50 : decode cX5_leastGap 50 = .ok (.iload 5, 2) := by decide +kernel
theorem dX5_leastGap_52 : decode cX5_leastGap 52 = .ok (.isub, 1) := by decide +kernel
theorem dX5_leastGap_53 : decode cX5_leastGap 53 = .ok (.invokestatic 56, 3) := by decide +kernel
theorem dX5_leastGap_56 : decode cX5_leastGap 56 = .ok (.invokestatic 56, 3) := by decide +kernel
theorem dX5_leastGap_59 : decode cX5_leastGap 59 = .ok (.ireturn, 1) := by decide +kernel
theorem dX5_playedOut_0 : decode cX5_playedOut 0 = .ok (.bipush (-9), 2) := by decide +kernel
theorem dX5_playedOut_2 : decode cX5_playedOut 2 = .ok (.istore 5, 2) := by decide +kernel
theorem dX5_playedOut_4 : decode cX5_playedOut 4 = .ok (.iload_n 1, 1) := by decide +kernel
theorem dX5_playedOut_5 : decode cX5_playedOut 5 = .ok (.ifCond .le 100, 3) := by decide +kernel
theorem dX5_playedOut_8 : decode cX5_playedOut 8 = .ok (.iconst 0, 1) := by decide +kernel
theorem dX5_playedOut_9 : decode cX5_playedOut 9 = .ok (.istore 6, 2) := by decide +kernel
theorem dX5_playedOut_11 : decode cX5_playedOut 11 = .ok (.iload 6, 2) := by decide +kernel
theorem dX5_playedOut_13 : decode cX5_playedOut 13 = .ok (.aload_n 0, 1) := by decide +kernel
theorem dX5_playedOut_14 : decode cX5_playedOut 14 = .ok (.getfield 25, 3) := by decide +kernel
theorem dX5_playedOut_17 : decode cX5_playedOut 17 = .ok (.if_icmp .ge 88, 3) := by decide +kernel
theorem dX5_playedOut_20 : decode cX5_playedOut 20 = .ok (.iload_n 2, 1) := by decide +kernel
theorem dX5_playedOut_21 : decode cX5_playedOut 21 = .ok (.iload 6, 2) := by decide +kernel
theorem dX5_playedOut_23 : decode cX5_playedOut 23 = .ok (.ishr, 1) := by decide +kernel
theorem dX5_playedOut_24 : decode cX5_playedOut 24 = .ok (.iconst 1, 1) := by decide +kernel
theorem dX5_playedOut_25 : decode cX5_playedOut 25 = .ok (.iand, 1) := by decide +kernel
theorem dX5_playedOut_26 : decode cX5_playedOut 26 = .ok (.ifCond .ne 73, 3) := by decide +kernel
theorem dX5_playedOut_29 : decode cX5_playedOut 29 = .ok (.aload_n 0, 1) := by decide +kernel
theorem dX5_playedOut_30 : decode cX5_playedOut 30 = .ok (.iload_n 1, 1) := by decide +kernel
theorem dX5_playedOut_31 : decode cX5_playedOut 31 = .ok (.iconst 1, 1) := by decide +kernel
theorem dX5_playedOut_32 : decode cX5_playedOut 32 = .ok (.isub, 1) := by decide +kernel
theorem dX5_playedOut_33 : decode cX5_playedOut 33 = .ok (.iload_n 2, 1) := by decide +kernel
theorem dX5_playedOut_34 : decode cX5_playedOut 34 = .ok (.iconst 1, 1) := by decide +kernel
theorem dX5_playedOut_35 : decode cX5_playedOut 35 = .ok (.iload 6, 2) := by decide +kernel
theorem dX5_playedOut_37 : decode cX5_playedOut 37 = .ok (.ishl, 1) := by decide +kernel
theorem dX5_playedOut_38 : decode cX5_playedOut 38 = .ok (.ior, 1) := by decide +kernel
theorem dX5_playedOut_39 : decode cX5_playedOut 39 = .ok (.bipush 10, 2) := by decide +kernel
theorem dX5_playedOut_41 : decode cX5_playedOut 41 = .ok (.iload_n 3, 1) := by decide +kernel
theorem dX5_playedOut_42 : decode cX5_playedOut 42 = .ok (.imul, 1) := by decide +kernel
theorem dX5_playedOut_43 : decode cX5_playedOut 43 = .ok (.aload_n 0, 1) := by decide +kernel
theorem dX5_playedOut_44 : decode cX5_playedOut 44 = .ok (.getfield 9, 3) := by decide +kernel
theorem dX5_playedOut_47 : decode cX5_playedOut 47 = .ok (.iload 6, 2) := by decide +kernel
theorem dX5_playedOut_49 : decode cX5_playedOut 49 = .ok (.iaload, 1) := by decide +kernel
theorem dX5_playedOut_50 : decode cX5_playedOut 50 = .ok (.iadd, 1) := by decide +kernel
theorem dX5_playedOut_51 : decode cX5_playedOut 51 = .ok (.iload 4, 2) := by decide +kernel
theorem dX5_playedOut_53 : decode cX5_playedOut 53 = .ok (.ifCond .ne 7, 3) := by decide +kernel
theorem dX5_playedOut_56 : decode cX5_playedOut 56 = .ok (.iconst 1, 1) := by decide +kernel
theorem dX5_playedOut_57 : decode cX5_playedOut 57 = .ok (.goto 4, 3) := by decide +kernel
theorem dX5_playedOut_60 : decode cX5_playedOut 60 = .ok (.iconst 0, 1) := by decide +kernel
theorem dX5_playedOut_61 : decode cX5_playedOut 61 = .ok (.invokevirtual 59, 3) := by decide +kernel
theorem dX5_playedOut_64 : decode cX5_playedOut 64 = .ok (.istore 7, 2) := by decide +kernel
theorem dX5_playedOut_66 : decode cX5_playedOut 66 = .ok (.iload 5, 2) := by decide +kernel
theorem dX5_playedOut_68 : decode cX5_playedOut 68 = .ok (.bipush (-9), 2) := by decide +kernel
theorem dX5_playedOut_70 : decode cX5_playedOut 70 = .ok (.if_icmp .eq 25, 3) := by decide +kernel
theorem dX5_playedOut_73 : decode cX5_playedOut 73 = .ok (.iload 4, 2) := by decide +kernel
theorem dX5_playedOut_75 : decode cX5_playedOut 75 = .ok (.ifCond .eq 13, 3) := by decide +kernel
theorem dX5_playedOut_78 : decode cX5_playedOut 78 = .ok (.iload 7, 2) := by decide +kernel
theorem dX5_playedOut_80 : decode cX5_playedOut 80 = .ok (.iload 5, 2) := by decide +kernel
theorem dX5_playedOut_82 : decode cX5_playedOut 82 = .ok (.if_icmp .le 17, 3) := by decide +kernel
theorem dX5_playedOut_85 : decode cX5_playedOut 85 = .ok (.goto 10, 3) := by decide +kernel
theorem dX5_playedOut_88 : decode cX5_playedOut 88 = .ok (.iload 7, 2) := by decide +kernel
theorem dX5_playedOut_90 : decode cX5_playedOut 90 = .ok (.iload 5, 2) := by decide +kernel
theorem dX5_playedOut_92 : decode cX5_playedOut 92 = .ok (.if_icmp .ge 7, 3) := by decide +kernel
theorem dX5_playedOut_95 : decode cX5_playedOut 95 = .ok (.iload 7, 2) := by decide +kernel
theorem dX5_playedOut_97 : decode cX5_playedOut 97 = .ok (.istore 5, 2) := by decide +kernel
theorem dX5_playedOut_99 : decode cX5_playedOut 99 = .ok (.iinc 6 1, 3) := by decide +kernel
theorem dX5_playedOut_102 : decode cX5_playedOut 102 = .ok (.goto (-91), 3) := by decide +kernel
theorem dX5_playedOut_105 : decode cX5_playedOut 105 = .ok (.iload 5, 2) := by decide +kernel
theorem dX5_playedOut_107 : decode cX5_playedOut 107 = .ok (.bipush (-9), 2) := by decide +kernel
theorem dX5_playedOut_109 : decode cX5_playedOut 109 = .ok (.if_icmp .ne 7, 3) := by decide +kernel
theorem dX5_playedOut_112 : decode cX5_playedOut 112 = .ok (.iload_n 3, 1) := by decide +kernel
theorem dX5_playedOut_113 : decode cX5_playedOut 113 = .ok (.goto 5, 3) := by decide +kernel
theorem dX5_playedOut_116 : decode cX5_playedOut 116 = .ok (.iload 5, 2) := by decide +kernel
theorem dX5_playedOut_118 : decode cX5_playedOut 118 = .ok (.ireturn, 1) := by decide +kernel
theorem dX6_init_0 : decode cX6_init 0 = .ok (.aload_n 0, 1) := by decide +kernel
theorem dX6_init_1 : decode cX6_init 1 = .ok (.invokespecial 3, 3) := by decide +kernel
theorem dX6_init_4 : decode cX6_init 4 = .ok (.return_, 1) := by decide +kernel
theorem dX6_shown_0 : decode cX6_shown 0 = .ok (.aload_n 0, 1) := by decide +kernel
theorem dX6_shown_1 : decode cX6_shown 1 = .ok (.iload_n 1, 1) := by decide +kernel
theorem dX6_shown_2 : decode cX6_shown 2 = .ok (.iload_n 2, 1) := by decide +kernel
theorem dX6_shown_3 : decode cX6_shown 3 = .ok (.iload_n 3, 1) := by decide +kernel
theorem dX6_shown_4 : decode cX6_shown 4 = .ok (.bipush 9, 2) := by decide +kernel
theorem dX6_shown_6 : decode cX6_shown 6 = .ok (.if_icmp .lt 7, 3) := by decide +kernel
theorem dX6_shown_9 : decode cX6_shown 9 = .ok (.iconst 1, 1) := by decide +kernel
theorem dX6_shown_10 : decode cX6_shown 10 = .ok (.goto 6, 3) := by decide +kernel
theorem dX6_shown_13 : decode cX6_shown 13 = .ok (.iload_n 3, 1) := by decide +kernel
theorem dX6_shown_14 : decode cX6_shown 14 = .ok (.iconst 1, 1) := by decide +kernel
theorem dX6_shown_15 : decode cX6_shown 15 = .ok (.iadd, 1) := by decide +kernel
theorem dX6_shown_16 : decode cX6_shown 16 = .ok (.invokespecial 9, 3) := by decide +kernel
theorem dX6_shown_19 : decode cX6_shown 19 = .ok (.ireturn, 1) := by decide +kernel
theorem dX7_init_0 : decode cX7_init 0 = .ok (.aload_n 0, 1) := by decide +kernel
theorem dX7_init_1 : decode cX7_init 1 = .ok (.invokespecial 3, 3) := by decide +kernel
theorem dX7_init_4 : decode cX7_init 4 = .ok (.aload_n 0, 1) := by decide +kernel
theorem dX7_init_5 : decode cX7_init 5 = .ok (.bipush 60, 2) := by decide +kernel
theorem dX7_init_7 : decode cX7_init 7 = .ok (.newarray .int, 2) := by decide +kernel
theorem dX7_init_9 : decode cX7_init 9 = .ok (.putfield 9, 3) := by decide +kernel
theorem dX7_init_12 : decode cX7_init 12 = .ok (.aload_n 0, 1) := by decide +kernel
theorem dX7_init_13 : decode cX7_init 13 = .ok (.iconst (-1), 1) := by decide +kernel
theorem dX7_init_14 : decode cX7_init 14 = .ok (.putfield 15, 3) := by decide +kernel
theorem dX7_init_17 : decode cX7_init 17 = .ok (.return_, 1) := by decide +kernel
theorem dX7_isThere_0 : decode cX7_isThere 0 = .ok (.aload_n 0, 1) := by decide +kernel
theorem dX7_isThere_1 : decode cX7_isThere 1 = .ok (.getfield 15, 3) := by decide +kernel
theorem dX7_isThere_4 : decode cX7_isThere 4 = .ok (.iconst (-1), 1) := by decide +kernel
theorem dX7_isThere_5 : decode cX7_isThere 5 = .ok (.if_icmp .eq 7, 3) := by decide +kernel
theorem dX7_isThere_8 : decode cX7_isThere 8 = .ok (.iconst 1, 1) := by decide +kernel
theorem dX7_isThere_9 : decode cX7_isThere 9 = .ok (.goto 4, 3) := by decide +kernel
theorem dX7_isThere_12 : decode cX7_isThere 12 = .ok (.iconst 0, 1) := by decide +kernel
theorem dX7_isThere_13 : decode cX7_isThere 13 = .ok (.ireturn, 1) := by decide +kernel
theorem dX7_holds_0 : decode cX7_holds 0 = .ok (.iload_n 1, 1) := by decide +kernel
theorem dX7_holds_1 : decode cX7_holds 1 = .ok (.ifCond .lt 17, 3) := by decide +kernel
theorem dX7_holds_4 : decode cX7_holds 4 = .ok (.iload_n 1, 1) := by decide +kernel
theorem dX7_holds_5 : decode cX7_holds 5 = .ok (.aload_n 0, 1) := by decide +kernel
theorem dX7_holds_6 : decode cX7_holds 6 = .ok (.getfield 15, 3) := by decide +kernel
theorem dX7_holds_9 : decode cX7_holds 9 = .ok (.iload_n 2, 1) := by decide +kernel
theorem dX7_holds_10 : decode cX7_holds 10 = .ok (.isub, 1) := by decide +kernel
theorem dX7_holds_11 : decode cX7_holds 11 = .ok (.if_icmp .gt 7, 3) := by decide +kernel
theorem dX7_holds_14 : decode cX7_holds 14 = .ok (.iconst 1, 1) := by decide +kernel
theorem dX7_holds_15 : decode cX7_holds 15 = .ok (.goto 4, 3) := by decide +kernel
theorem dX7_holds_18 : decode cX7_holds 18 = .ok (.iconst 0, 1) := by decide +kernel
theorem dX7_holds_19 : decode cX7_holds 19 = .ok (.ireturn, 1) := by decide +kernel
theorem dX7_make_0 : decode cX7_make 0 = .ok (.aload_n 0, 1) := by decide +kernel
theorem dX7_make_1 : decode cX7_make 1 = .ok (.iload_n 1, 1) := by decide +kernel
theorem dX7_make_2 : decode cX7_make 2 = .ok (.putfield 15, 3) := by decide +kernel
theorem dX7_make_5 : decode cX7_make 5 = .ok (.iconst 0, 1) := by decide +kernel
theorem dX7_make_6 : decode cX7_make 6 = .ok (.istore_n 3, 1) := by decide +kernel
theorem dX7_make_7 : decode cX7_make 7 = .ok (.iload_n 3, 1) := by decide +kernel
theorem dX7_make_8 : decode cX7_make 8 = .ok (.iload_n 1, 1) := by decide +kernel
theorem dX7_make_9 : decode cX7_make 9 = .ok (.if_icmp .ge 25, 3) := by decide +kernel
theorem dX7_make_12 : decode cX7_make 12 = .ok (.iload_n 3, 1) := by decide +kernel
theorem dX7_make_13 : decode cX7_make 13 = .ok (.aload_n 0, 1) := by decide +kernel
theorem dX7_make_14 : decode cX7_make 14 = .ok (.getfield 9, 3) := by decide +kernel
theorem dX7_make_17 : decode cX7_make 17 = .ok (.arraylength, 1) := by decide +kernel
theorem dX7_make_18 : decode cX7_make 18 = .ok (.if_icmp .ge 16, 3) := by decide +kernel
theorem dX7_make_21 : decode cX7_make 21 = .ok (.aload_n 0, 1) := by decide +kernel
theorem dX7_make_22 : decode cX7_make 22 = .ok (.getfield 9, 3) := by decide +kernel
theorem dX7_make_25 : decode cX7_make 25 = .ok (.iload_n 3, 1) := by decide +kernel
theorem dX7_make_26 : decode cX7_make 26 = .ok (.iload_n 2, 1) := by decide +kernel
theorem dX7_make_27 : decode cX7_make 27 = .ok (.iastore, 1) := by decide +kernel
theorem dX7_make_28 : decode cX7_make 28 = .ok (.iinc 3 1, 3) := by decide +kernel
theorem dX7_make_31 : decode cX7_make 31 = .ok (.goto (-24), 3) := by decide +kernel
theorem dX7_make_34 : decode cX7_make 34 = .ok (.return_, 1) := by decide +kernel
theorem dX7_take_0 : decode cX7_take 0 = .ok (.aload_n 0, 1) := by decide +kernel
theorem dX7_take_1 : decode cX7_take 1 = .ok (.iload_n 2, 1) := by decide +kernel
theorem dX7_take_2 : decode cX7_take 2 = .ok (.aload_n 1, 1) := by decide +kernel
theorem dX7_take_3 : decode cX7_take 3 = .ok (.arraylength, 1) := by decide +kernel
theorem dX7_take_4 : decode cX7_take 4 = .ok (.invokestatic 19, 3) := by decide +kernel
theorem dX7_take_7 : decode cX7_take 7 = .ok (.putfield 15, 3) := by decide +kernel
theorem dX7_take_10 : decode cX7_take 10 = .ok (.iconst 0, 1) := by decide +kernel
theorem dX7_take_11 : decode cX7_take 11 = .ok (.istore_n 3, 1) := by decide +kernel
theorem dX7_take_12 : decode cX7_take 12 = .ok (.iload_n 3, 1) := by decide +kernel
theorem dX7_take_13 : decode cX7_take 13 = .ok (.aload_n 0, 1) := by decide +kernel
theorem dX7_take_14 : decode cX7_take 14 = .ok (.getfield 15, 3) := by decide +kernel
theorem dX7_take_17 : decode cX7_take 17 = .ok (.if_icmp .ge 18, 3) := by decide +kernel
theorem dX7_take_20 : decode cX7_take 20 = .ok (.aload_n 0, 1) := by decide +kernel
theorem dX7_take_21 : decode cX7_take 21 = .ok (.getfield 9, 3) := by decide +kernel
theorem dX7_take_24 : decode cX7_take 24 = .ok (.iload_n 3, 1) := by decide +kernel
theorem dX7_take_25 : decode cX7_take 25 = .ok (.aload_n 1, 1) := by decide +kernel
theorem dX7_take_26 : decode cX7_take 26 = .ok (.iload_n 3, 1) := by decide +kernel
theorem dX7_take_27 : decode cX7_take 27 = .ok (.iaload, 1) := by decide +kernel
theorem dX7_take_28 : decode cX7_take 28 = .ok (.iastore, 1) := by decide +kernel
theorem dX7_take_29 : decode cX7_take 29 = .ok (.iinc 3 1, 3) := by decide +kernel
theorem dX7_take_32 : decode cX7_take 32 = .ok (.goto (-20), 3) := by decide +kernel
theorem dX7_take_35 : decode cX7_take 35 = .ok (.return_, 1) := by decide +kernel
theorem dX8_init_0 : decode cX8_init 0 = .ok (.aload_n 0, 1) := by decide +kernel
theorem dX8_init_1 : decode cX8_init 1 = .ok (.invokespecial 1, 3) := by decide +kernel
theorem dX8_init_4 : decode cX8_init 4 = .ok (.return_, 1) := by decide +kernel
theorem dX8_shown_0 : decode cX8_shown 0 = .ok (.aload_n 0, 1) := by decide +kernel
theorem dX8_shown_1 : decode cX8_shown 1 = .ok (.bipush 9, 2) := by decide +kernel
theorem dX8_shown_3 : decode cX8_shown 3 = .ok (.iload_n 1, 1) := by decide +kernel
theorem dX8_shown_4 : decode cX8_shown 4 = .ok (.isub, 1) := by decide +kernel
theorem dX8_shown_5 : decode cX8_shown 5 = .ok (.iload_n 2, 1) := by decide +kernel
theorem dX8_shown_6 : decode cX8_shown 6 = .ok (.iload_n 3, 1) := by decide +kernel
theorem dX8_shown_7 : decode cX8_shown 7 = .ok (.invokespecial 7, 3) := by decide +kernel
theorem dX8_shown_10 : decode cX8_shown 10 = .ok (.ireturn, 1) := by decide +kernel
theorem dX9_init_0 : decode cX9_init 0 = .ok (.aload_n 0, 1) := by decide +kernel
theorem dX9_init_1 : decode cX9_init 1 = .ok (.invokespecial 1, 3) := by decide +kernel
theorem dX9_init_4 : decode cX9_init 4 = .ok (.return_, 1) := by decide +kernel
theorem dX9_shown_0 : decode cX9_shown 0 = .ok (.aload_n 0, 1) := by decide +kernel
theorem dX9_shown_1 : decode cX9_shown 1 = .ok (.iload_n 1, 1) := by decide +kernel
theorem dX9_shown_2 : decode cX9_shown 2 = .ok (.iload_n 2, 1) := by decide +kernel
theorem dX9_shown_3 : decode cX9_shown 3 = .ok (.iload_n 3, 1) := by decide +kernel
theorem dX9_shown_4 : decode cX9_shown 4 = .ok (.invokespecial 7, 3) := by decide +kernel
theorem dX9_shown_7 : decode cX9_shown 7 = .ok (.istore 4, 2) := by decide +kernel
theorem dX9_shown_9 : decode cX9_shown 9 = .ok (.aload_n 0, 1) := by decide +kernel
theorem dX9_shown_10 : decode cX9_shown 10 = .ok (.iload_n 2, 1) := by decide +kernel
theorem dX9_shown_11 : decode cX9_shown 11 = .ok (.iload_n 3, 1) := by decide +kernel
theorem dX9_shown_12 : decode cX9_shown 12 = .ok (.invokevirtual 11, 3) := by decide +kernel
theorem dX9_shown_15 : decode cX9_shown 15 = .ok (.ifCond .eq 11, 3) := by decide +kernel
theorem dX9_shown_18 : decode cX9_shown 18 = .ok (.iload 4, 2) := by decide +kernel
theorem dX9_shown_20 : decode cX9_shown 20 = .ok (.bipush 10, 2) := by decide +kernel
theorem dX9_shown_22 : decode cX9_shown 22 = .ok (.irem, 1) := by decide +kernel
theorem dX9_shown_23 : decode cX9_shown 23 = .ok (.goto 5, 3) := by decide +kernel
theorem dX9_shown_26 : decode cX9_shown 26 = .ok (.iload 4, 2) := by decide +kernel
theorem dX9_shown_28 : decode cX9_shown 28 = .ok (.ireturn, 1) := by decide +kernel
theorem dX9_isWithoutTens_0 : decode cX9_isWithoutTens 0 = .ok (.iload_n 2, 1) := by decide +kernel
theorem dX9_isWithoutTens_1 : decode cX9_isWithoutTens 1 = .ok (.iload_n 1, 1) := by decide +kernel
theorem dX9_isWithoutTens_2 : decode cX9_isWithoutTens 2 = .ok (.if_icmp .ne 7, 3) := by decide +kernel
theorem dX9_isWithoutTens_5 : decode cX9_isWithoutTens 5 = .ok (.iconst 1, 1) := by decide +kernel
theorem dX9_isWithoutTens_6 : decode cX9_isWithoutTens 6 = .ok (.goto 4, 3) := by decide +kernel
theorem dX9_isWithoutTens_9 : decode cX9_isWithoutTens 9 = .ok (.iconst 0, 1) := by decide +kernel
theorem dX9_isWithoutTens_10 : decode cX9_isWithoutTens 10 = .ok (.ireturn, 1) := by decide +kernel
theorem dX10_init_0 : decode cX10_init 0 = .ok (.aload_n 0, 1) := by decide +kernel
theorem dX10_init_1 : decode cX10_init 1 = .ok (.invokespecial 1, 3) := by decide +kernel
theorem dX10_init_4 : decode cX10_init 4 = .ok (.aload_n 0, 1) := by decide +kernel
theorem dX10_init_5 : decode cX10_init 5 = .ok (.bipush 6, 2) := by decide +kernel
theorem dX10_init_7 : decode cX10_init 7 = .ok (.anewarray 9, 3) := by decide +kernel
theorem dX10_init_10 : decode cX10_init 10 = .ok (.putfield 11, 3) := by decide +kernel
theorem dX10_init_13 : decode cX10_init 13 = .ok (.iconst 0, 1) := by decide +kernel
theorem dX10_init_14 : decode cX10_init 14 = .ok (.istore_n 1, 1) := by decide +kernel
theorem dX10_init_15 : decode cX10_init 15 = .ok (.iload_n 1, 1) := by decide +kernel
theorem dX10_init_16 : decode cX10_init 16 = .ok (.bipush 6, 2) := by decide +kernel
theorem dX10_init_18 : decode cX10_init 18 = .ok (.if_icmp .ge 22, 3) := by decide +kernel
theorem dX10_init_21 : decode cX10_init 21 = .ok (.aload_n 0, 1) := by decide +kernel
theorem dX10_init_22 : decode cX10_init 22 = .ok (.getfield 11, 3) := by decide +kernel
theorem dX10_init_25 : decode cX10_init 25 = .ok (.iload_n 1, 1) := by decide +kernel
theorem dX10_init_26 : decode cX10_init 26 = .ok (.new 9, 3) := by decide +kernel
theorem dX10_init_29 : decode cX10_init 29 = .ok (.dup, 1) := by decide +kernel
theorem dX10_init_30 : decode cX10_init 30 = .ok (.invokespecial 15, 3) := by decide +kernel
theorem dX10_init_33 : decode cX10_init 33 = .ok (.aastore, 1) := by decide +kernel
theorem dX10_init_34 : decode cX10_init 34 = .ok (.iinc 1 1, 3) := by decide +kernel
theorem dX10_init_37 : decode cX10_init 37 = .ok (.goto (-22), 3) := by decide +kernel
theorem dX10_init_40 : decode cX10_init 40 = .ok (.aload_n 0, 1) := by decide +kernel
theorem dX10_init_41 : decode cX10_init 41 = .ok (.iconst 4, 1) := by decide +kernel
theorem dX10_init_42 : decode cX10_init 42 = .ok (.anewarray 9, 3) := by decide +kernel
theorem dX10_init_45 : decode cX10_init 45 = .ok (.putfield 16, 3) := by decide +kernel
theorem dX10_init_48 : decode cX10_init 48 = .ok (.iconst 0, 1) := by decide +kernel
theorem dX10_init_49 : decode cX10_init 49 = .ok (.istore_n 1, 1) := by decide +kernel
theorem dX10_init_50 : decode cX10_init 50 = .ok (.iload_n 1, 1) := by decide +kernel
theorem dX10_init_51 : decode cX10_init 51 = .ok (.iconst 4, 1) := by decide +kernel
theorem dX10_init_52 : decode cX10_init 52 = .ok (.if_icmp .ge 22, 3) := by decide +kernel
theorem dX10_init_55 : decode cX10_init 55 = .ok (.aload_n 0, 1) := by decide +kernel
theorem dX10_init_56 : decode cX10_init 56 = .ok (.getfield 16, 3) := by decide +kernel
theorem dX10_init_59 : decode cX10_init 59 = .ok (.iload_n 1, 1) := by decide +kernel
theorem dX10_init_60 : decode cX10_init 60 = .ok (.new 9, 3) := by decide +kernel
theorem dX10_init_63 : decode cX10_init 63 = .ok (.dup, 1) := by decide +kernel
theorem dX10_init_64 : decode cX10_init 64 = .ok (.invokespecial 15, 3) := by decide +kernel
theorem dX10_init_67 : decode cX10_init 67 = .ok (.aastore, 1) := by decide +kernel
theorem dX10_init_68 : decode cX10_init 68 = .ok (.iinc 1 1, 3) := by decide +kernel
theorem dX10_init_71 : decode cX10_init 71 = .ok (.goto (-21), 3) := by decide +kernel
theorem dX10_init_74 : decode cX10_init 74 = .ok (.aload_n 0, 1) := by decide +kernel
theorem dX10_init_75 : decode cX10_init 75 = .ok (.bipush 6, 2) := by decide +kernel
theorem dX10_init_77 : decode cX10_init 77 = .ok (.anewarray 19, 3) := by decide +kernel
theorem dX10_init_80 : decode cX10_init 80 = .ok (.putfield 21, 3) := by decide +kernel
theorem dX10_init_83 : decode cX10_init 83 = .ok (.aload_n 0, 1) := by decide +kernel
theorem dX10_init_84 : decode cX10_init 84 = .ok (.getfield 21, 3) := by decide +kernel
theorem dX10_init_87 : decode cX10_init 87 = .ok (.iconst 0, 1) := by decide +kernel
theorem dX10_init_88 : decode cX10_init 88 = .ok (.new 19, 3) := by decide +kernel
theorem dX10_init_91 : decode cX10_init 91 = .ok (.dup, 1) := by decide +kernel
theorem dX10_init_92 : decode cX10_init 92 = .ok (.invokespecial 25, 3) := by decide +kernel
theorem dX10_init_95 : decode cX10_init 95 = .ok (.aastore, 1) := by decide +kernel
theorem dX10_init_96 : decode cX10_init 96 = .ok (.aload_n 0, 1) := by decide +kernel
theorem dX10_init_97 : decode cX10_init 97 = .ok (.getfield 21, 3) := by decide +kernel
theorem dX10_init_100 : decode cX10_init 100 = .ok (.iconst 1, 1) := by decide +kernel
theorem dX10_init_101 : decode cX10_init 101 = .ok (.new 26, 3) := by decide +kernel
theorem dX10_init_104 : decode cX10_init 104 = .ok (.dup, 1) := by decide +kernel
theorem dX10_init_105 : decode cX10_init 105 = .ok (.invokespecial 28, 3) := by decide +kernel
theorem dX10_init_108 : decode cX10_init 108 = .ok (.aastore, 1) := by decide +kernel
theorem dX10_init_109 : decode cX10_init 109 = .ok (.aload_n 0, 1) := by decide +kernel
theorem dX10_init_110 : decode cX10_init 110 = .ok (.getfield 21, 3) := by decide +kernel
theorem dX10_init_113 : decode cX10_init 113 = .ok (.iconst 2, 1) := by decide +kernel
theorem dX10_init_114 : decode cX10_init 114 = .ok (.new 29, 3) := by decide +kernel
theorem dX10_init_117 : decode cX10_init 117 = .ok (.dup, 1) := by decide +kernel
theorem dX10_init_118 : decode cX10_init 118 = .ok (.invokespecial 31, 3) := by decide +kernel
theorem dX10_init_121 : decode cX10_init 121 = .ok (.aastore, 1) := by decide +kernel
theorem dX10_init_122 : decode cX10_init 122 = .ok (.aload_n 0, 1) := by decide +kernel
theorem dX10_init_123 : decode cX10_init 123 = .ok (.getfield 21, 3) := by decide +kernel
theorem dX10_init_126 : decode cX10_init 126 = .ok (.iconst 3, 1) := by decide +kernel
theorem dX10_init_127 : decode cX10_init 127 = .ok (.new 32, 3) := by decide +kernel
theorem dX10_init_130 : decode cX10_init 130 = .ok (.dup, 1) := by decide +kernel
theorem dX10_init_131 : decode cX10_init 131 = .ok (.invokespecial 34, 3) := by decide +kernel
theorem dX10_init_134 : decode cX10_init 134 = .ok (.aastore, 1) := by decide +kernel
theorem dX10_init_135 : decode cX10_init 135 = .ok (.aload_n 0, 1) := by decide +kernel
theorem dX10_init_136 : decode cX10_init 136 = .ok (.getfield 21, 3) := by decide +kernel
theorem dX10_init_139 : decode cX10_init 139 = .ok (.iconst 4, 1) := by decide +kernel
theorem dX10_init_140 : decode cX10_init 140 = .ok (.new 35, 3) := by decide +kernel
theorem dX10_init_143 : decode cX10_init 143 = .ok (.dup, 1) := by decide +kernel
theorem dX10_init_144 : decode cX10_init 144 = .ok (.invokespecial 37, 3) := by decide +kernel
theorem dX10_init_147 : decode cX10_init 147 = .ok (.aastore, 1) := by decide +kernel
theorem dX10_init_148 : decode cX10_init 148 = .ok (.aload_n 0, 1) := by decide +kernel
theorem dX10_init_149 : decode cX10_init 149 = .ok (.getfield 21, 3) := by decide +kernel
theorem dX10_init_152 : decode cX10_init 152 = .ok (.iconst 5, 1) := by decide +kernel
theorem dX10_init_153 : decode cX10_init 153 = .ok (.new 38, 3) := by decide +kernel
theorem dX10_init_156 : decode cX10_init 156 = .ok (.dup, 1) := by decide +kernel
theorem dX10_init_157 : decode cX10_init 157 = .ok (.invokespecial 40, 3) := by decide +kernel
theorem dX10_init_160 : decode cX10_init 160 = .ok (.aastore, 1) := by decide +kernel
theorem dX10_init_161 : decode cX10_init 161 = .ok (.aload_n 0, 1) := by decide +kernel
theorem dX10_init_162 : decode cX10_init 162 = .ok (.bipush 7, 2) := by decide +kernel
theorem dX10_init_164 : decode cX10_init 164 = .ok (.anewarray 41, 3) := by decide +kernel
theorem dX10_init_167 : decode cX10_init 167 = .ok (.putfield 43, 3) := by decide +kernel
theorem dX10_init_170 : decode cX10_init 170 = .ok (.iconst 0, 1) := by decide +kernel
theorem dX10_init_171 : decode cX10_init 171 = .ok (.istore_n 1, 1) := by decide +kernel
theorem dX10_init_172 : decode cX10_init 172 = .ok (.iload_n 1, 1) := by decide +kernel
theorem dX10_init_173 : decode cX10_init 173 = .ok (.bipush 7, 2) := by decide +kernel
theorem dX10_init_175 : decode cX10_init 175 = .ok (.if_icmp .ge 28, 3) := by decide +kernel
theorem dX10_init_178 : decode cX10_init 178 = .ok (.aload_n 0, 1) := by decide +kernel
theorem dX10_init_179 : decode cX10_init 179 = .ok (.getfield 43, 3) := by decide +kernel
theorem dX10_init_182 : decode cX10_init 182 = .ok (.iload_n 1, 1) := by decide +kernel
theorem dX10_init_183 : decode cX10_init 183 = .ok (.new 41, 3) := by decide +kernel
theorem dX10_init_186 : decode cX10_init 186 = .ok (.dup, 1) := by decide +kernel
theorem dX10_init_187 : decode cX10_init 187 = .ok (.aload_n 0, 1) := by decide +kernel
theorem dX10_init_188 : decode cX10_init 188 = .ok (.getfield 21, 3) := by decide +kernel
theorem dX10_init_191 : decode cX10_init 191 = .ok (.iconst 0, 1) := by decide +kernel
theorem dX10_init_192 : decode cX10_init 192 = .ok (.aaload, 1) := by decide +kernel
theorem dX10_init_193 : decode cX10_init 193 = .ok (.invokespecial 47, 3) := by decide +kernel
theorem dX10_init_196 : decode cX10_init 196 = .ok (.aastore, 1) := by decide +kernel
theorem dX10_init_197 : decode cX10_init 197 = .ok (.iinc 1 1, 3) := by decide +kernel
theorem dX10_init_200 : decode cX10_init 200 = .ok (.goto (-28), 3) := by decide +kernel
theorem dX10_init_203 : decode cX10_init 203 = .ok (.aload_n 0, 1) := by decide +kernel
theorem dX10_init_204 : decode cX10_init 204 = .ok (.new 50, 3) := by decide +kernel
theorem dX10_init_207 : decode cX10_init 207 = .ok (.dup, 1) := by decide +kernel
theorem dX10_init_208 : decode cX10_init 208 = .ok (.invokespecial 52, 3) := by decide +kernel
theorem dX10_init_211 : decode cX10_init 211 = .ok (.putfield 53, 3) := by decide +kernel
theorem dX10_init_214 : decode cX10_init 214 = .ok (.aload_n 0, 1) := by decide +kernel
theorem dX10_init_215 : decode cX10_init 215 = .ok (.iconst 3, 1) := by decide +kernel
theorem dX10_init_216 : decode cX10_init 216 = .ok (.anewarray 50, 3) := by decide +kernel
theorem dX10_init_219 : decode cX10_init 219 = .ok (.putfield 57, 3) := by decide +kernel
theorem dX10_init_222 : decode cX10_init 222 = .ok (.iconst 0, 1) := by decide +kernel
theorem dX10_init_223 : decode cX10_init 223 = .ok (.istore_n 1, 1) := by decide +kernel
theorem dX10_init_224 : decode cX10_init 224 = .ok (.iload_n 1, 1) := by decide +kernel
theorem dX10_init_225 : decode cX10_init 225 = .ok (.iconst 3, 1) := by decide +kernel
theorem dX10_init_226 : decode cX10_init 226 = .ok (.if_icmp .ge 22, 3) := by decide +kernel
theorem dX10_init_229 : decode cX10_init 229 = .ok (.aload_n 0, 1) := by decide +kernel
theorem dX10_init_230 : decode cX10_init 230 = .ok (.getfield 57, 3) := by decide +kernel
theorem dX10_init_233 : decode cX10_init 233 = .ok (.iload_n 1, 1) := by decide +kernel
theorem dX10_init_234 : decode cX10_init 234 = .ok (.new 50, 3) := by decide +kernel
theorem dX10_init_237 : decode cX10_init 237 = .ok (.dup, 1) := by decide +kernel
theorem dX10_init_238 : decode cX10_init 238 = .ok (.invokespecial 52, 3) := by decide +kernel
theorem dX10_init_241 : decode cX10_init 241 = .ok (.aastore, 1) := by decide +kernel
theorem dX10_init_242 : decode cX10_init 242 = .ok (.iinc 1 1, 3) := by decide +kernel
theorem dX10_init_245 : decode cX10_init 245 = .ok (.goto (-21), 3) := by decide +kernel
theorem dX10_init_248 : decode cX10_init 248 = .ok (.aload_n 0, 1) := by decide +kernel
theorem dX10_init_249 : decode cX10_init 249 = .ok (.new 61, 3) := by decide +kernel
theorem dX10_init_252 : decode cX10_init 252 = .ok (.dup, 1) := by decide +kernel
theorem dX10_init_253 : decode cX10_init 253 = .ok (.invokespecial 63, 3) := by decide +kernel
theorem dX10_init_256 : decode cX10_init 256 = .ok (.putfield 64, 3) := by decide +kernel
theorem dX10_init_259 : decode cX10_init 259 = .ok (.aload_n 0, 1) := by decide +kernel
theorem dX10_init_260 : decode cX10_init 260 = .ok (.lconst 1, 1) := by decide +kernel
theorem dX10_init_261 : decode cX10_init 261 = .ok (.putfield 68, 3) := by decide +kernel
theorem dX10_init_264 : decode cX10_init 264 = .ok (.aload_n 0, 1) := by decide +kernel
theorem dX10_init_265 : decode cX10_init 265 = .ok (.bipush 6, 2) := by decide +kernel
theorem dX10_init_267 : decode cX10_init 267 = .ok (.newarray .int, 2) := by decide +kernel
theorem dX10_init_269 : decode cX10_init 269 = .ok (.putfield 72, 3) := by decide +kernel
theorem dX10_init_272 : decode cX10_init 272 = .ok (.return_, 1) := by decide +kernel
theorem dX10_row_0 : decode cX10_row 0 = .ok (.iload_n 1, 1) := by decide +kernel
theorem dX10_row_1 : decode cX10_row 1 = .ok (.invokestatic 76, 3) := by decide +kernel
theorem dX10_row_4 : decode cX10_row 4 = .ok (.ifCond .eq 9, 3) := by decide +kernel
theorem dX10_row_7 : decode cX10_row 7 = .ok (.iload_n 2, 1) := by decide +kernel
theorem dX10_row_8 : decode cX10_row 8 = .ok (.bipush 40, 2) := by decide +kernel
theorem dX10_row_10 : decode cX10_row 10 = .ok (.if_icmp .le 5, 3) := by decide +kernel
theorem dX10_row_13 : decode cX10_row 13 = .ok (.iconst (-1), 1) := by decide +kernel
theorem dX10_row_14 : decode cX10_row 14 = .ok (.ireturn, 1) := by decide +kernel
theorem dX10_row_15 : decode cX10_row 15 = .ok (.iload_n 2, 1) := by decide +kernel
theorem dX10_row_16 : decode cX10_row 16 = .ok (.ifCond .ge 9, 3) := by decide +kernel
theorem dX10_row_19 : decode cX10_row 19 = .ok (.aload_n 0, 1) := by decide +kernel
theorem dX10_row_20 : decode cX10_row 20 = .ok (.iconst 5, 1) := by decide +kernel
theorem dX10_row_21 : decode cX10_row 21 = .ok (.invokevirtual 80, 3) := by decide +kernel
theorem dX10_row_24 : decode cX10_row 24 = .ok (.ireturn, 1) := by decide +kernel
theorem dX10_row_25 : decode cX10_row 25 = .ok (.aload_n 0, 1) := by decide +kernel
theorem dX10_row_26 : decode cX10_row 26 = .ok (.getfield 11, 3) := by decide +kernel
theorem dX10_row_29 : decode cX10_row 29 = .ok (.iload_n 1, 1) := by decide +kernel
theorem dX10_row_30 : decode cX10_row 30 = .ok (.aaload, 1) := by decide +kernel
theorem dX10_row_31 : decode cX10_row 31 = .ok (.iload_n 2, 1) := by decide +kernel
theorem dX10_row_32 : decode cX10_row 32 = .ok (.iconst 0, 1) := by decide +kernel
theorem dX10_row_33 : decode cX10_row 33 = .ok (.invokevirtual 84, 3) := by decide +kernel
theorem dX10_row_36 : decode cX10_row 36 = .ok (.iload_n 2, 1) := by decide +kernel
theorem dX10_row_37 : decode cX10_row 37 = .ok (.ireturn, 1) := by decide +kernel
theorem dX10_lay_0 : decode cX10_lay 0 = .ok (.iload_n 1, 1) := by decide +kernel
theorem dX10_lay_1 : decode cX10_lay 1 = .ok (.invokestatic 76, 3) := by decide +kernel
theorem dX10_lay_4 : decode cX10_lay 4 = .ok (.ifCond .ne 5, 3) := by decide +kernel
theorem dX10_lay_7 : decode cX10_lay 7 = .ok (.iconst (-1), 1) := by decide +kernel
theorem dX10_lay_8 : decode cX10_lay 8 = .ok (.ireturn, 1) := by decide +kernel
theorem dX10_lay_9 : decode cX10_lay 9 = .ok (.aload_n 0, 1) := by decide +kernel
theorem dX10_lay_10 : decode cX10_lay 10 = .ok (.getfield 11, 3) := by decide +kernel
theorem dX10_lay_13 : decode cX10_lay 13 = .ok (.iload_n 1, 1) := by decide +kernel
theorem dX10_lay_14 : decode cX10_lay 14 = .ok (.aaload, 1) := by decide +kernel
theorem dX10_lay_15 : decode cX10_lay 15 = .ok (.iload_n 2, 1) := by decide +kernel
theorem dX10_lay_16 : decode cX10_lay 16 = .ok (.invokestatic 88, 3) := by decide +kernel
theorem dX10_lay_19 : decode cX10_lay 19 = .ok (.istore 4, 2) := by decide +kernel
theorem dX10_lay_21 : decode cX10_lay 21 = .ok (.iload 4, 2) := by decide +kernel
theorem dX10_lay_23 : decode cX10_lay 23 = .ok (.ifCond .eq 10, 3) := by decide +kernel
theorem dX10_lay_26 : decode cX10_lay 26 = .ok (.aload_n 0, 1) := by decide +kernel
theorem dX10_lay_27 : decode cX10_lay 27 = .ok (.iload 4, 2) := by decide +kernel
theorem dX10_lay_29 : decode cX10_lay 29 = .ok (.invokevirtual 80, 3) := by decide +kernel
theorem dX10_lay_32 : decode cX10_lay 32 = .ok (.ireturn, 1) := by decide +kernel
theorem dX10_lay_33 : decode cX10_lay 33 = .ok (.aload_n 0, 1) := by decide +kernel
theorem dX10_lay_34 : decode cX10_lay 34 = .ok (.aload_n 0, 1) := by decide +kernel
theorem dX10_lay_35 : decode cX10_lay 35 = .ok (.getfield 11, 3) := by decide +kernel
theorem dX10_lay_38 : decode cX10_lay 38 = .ok (.iload_n 1, 1) := by decide +kernel
theorem dX10_lay_39 : decode cX10_lay 39 = .ok (.aaload, 1) := by decide +kernel
theorem dX10_lay_40 : decode cX10_lay 40 = .ok (.getfield 92, 3) := by decide +kernel
theorem dX10_lay_43 : decode cX10_lay 43 = .ok (.iload_n 2, 1) := by decide +kernel
theorem dX10_lay_44 : decode cX10_lay 44 = .ok (.iaload, 1) := by decide +kernel
theorem dX10_lay_45 : decode cX10_lay 45 = .ok (.putfield 95, 3) := by decide +kernel
theorem dX10_lay_48 : decode cX10_lay 48 = .ok (.aload_n 0, 1) := by decide +kernel
theorem dX10_lay_49 : decode cX10_lay 49 = .ok (.getfield 11, 3) := by decide +kernel
theorem dX10_lay_52 : decode cX10_lay 52 = .ok (.iload_n 1, 1) := by decide +kernel
theorem dX10_lay_53 : decode cX10_lay 53 = .ok (.aaload, 1) := by decide +kernel
theorem dX10_lay_54 : decode cX10_lay 54 = .ok (.getfield 92, 3) := by decide +kernel
theorem dX10_lay_57 : decode cX10_lay 57 = .ok (.iload_n 2, 1) := by decide +kernel
theorem dX10_lay_58 : decode cX10_lay 58 = .ok (.iload_n 3, 1) := by decide +kernel
theorem dX10_lay_59 : decode cX10_lay 59 = .ok (.iastore, 1) := by decide +kernel
theorem dX10_lay_60 : decode cX10_lay 60 = .ok (.iconst 1, 1) := by decide +kernel
theorem dX10_lay_61 : decode cX10_lay 61 = .ok (.ireturn, 1) := by decide +kernel
theorem dX10_at_0 : decode cX10_at 0 = .ok (.iload_n 1, 1) := by decide +kernel
theorem dX10_at_1 : decode cX10_at 1 = .ok (.invokestatic 76, 3) := by decide +kernel
theorem dX10_at_4 : decode cX10_at 4 = .ok (.ifCond .ne 5, 3) := by decide +kernel
theorem dX10_at_7 : decode cX10_at 7 = .ok (.iconst (-1), 1) := by decide +kernel
theorem dX10_at_8 : decode cX10_at 8 = .ok (.ireturn, 1) := by decide +kernel
theorem dX10_at_9 : decode cX10_at 9 = .ok (.aload_n 0, 1) := by decide +kernel
theorem dX10_at_10 : decode cX10_at 10 = .ok (.getfield 11, 3) := by decide +kernel
theorem dX10_at_13 : decode cX10_at 13 = .ok (.iload_n 1, 1) := by decide +kernel
theorem dX10_at_14 : decode cX10_at 14 = .ok (.aaload, 1) := by decide +kernel
theorem dX10_at_15 : decode cX10_at 15 = .ok (.iload_n 2, 1) := by decide +kernel
theorem dX10_at_16 : decode cX10_at 16 = .ok (.invokestatic 88, 3) := by decide +kernel
theorem dX10_at_19 : decode cX10_at 19 = .ok (.istore_n 3, 1) := by decide +kernel
theorem dX10_at_20 : decode cX10_at 20 = .ok (.iload_n 3, 1) := by decide +kernel
theorem dX10_at_21 : decode cX10_at 21 = .ok (.ifCond .eq 9, 3) := by decide +kernel
theorem dX10_at_24 : decode cX10_at 24 = .ok (.aload_n 0, 1) := by decide +kernel
theorem dX10_at_25 : decode cX10_at 25 = .ok (.iload_n 3, 1) := by decide +kernel
theorem dX10_at_26 : decode cX10_at 26 = .ok (.invokevirtual 80, 3) := by decide +kernel
theorem dX10_at_29 : decode cX10_at 29 = .ok (.ireturn, 1) := by decide +kernel
theorem dX10_at_30 : decode cX10_at 30 = .ok (.aload_n 0, 1) := by decide +kernel
theorem dX10_at_31 : decode cX10_at 31 = .ok (.aload_n 0, 1) := by decide +kernel
theorem dX10_at_32 : decode cX10_at 32 = .ok (.getfield 11, 3) := by decide +kernel
theorem dX10_at_35 : decode cX10_at 35 = .ok (.iload_n 1, 1) := by decide +kernel
theorem dX10_at_36 : decode cX10_at 36 = .ok (.aaload, 1) := by decide +kernel
theorem dX10_at_37 : decode cX10_at 37 = .ok (.getfield 92, 3) := by decide +kernel
theorem dX10_at_40 : decode cX10_at 40 = .ok (.iload_n 2, 1) := by decide +kernel
theorem dX10_at_41 : decode cX10_at 41 = .ok (.iaload, 1) := by decide +kernel
theorem dX10_at_42 : decode cX10_at 42 = .ok (.putfield 95, 3) := by decide +kernel
theorem dX10_at_45 : decode cX10_at 45 = .ok (.iconst 1, 1) := by decide +kernel
theorem dX10_at_46 : decode cX10_at 46 = .ok (.ireturn, 1) := by decide +kernel
theorem dX10_tear_0 : decode cX10_tear 0 = .ok (.iload_n 1, 1) := by decide +kernel
theorem dX10_tear_1 : decode cX10_tear 1 = .ok (.invokestatic 76, 3) := by decide +kernel
theorem dX10_tear_4 : decode cX10_tear 4 = .ok (.ifCond .ne 5, 3) := by decide +kernel
theorem dX10_tear_7 : decode cX10_tear 7 = .ok (.iconst (-1), 1) := by decide +kernel
theorem dX10_tear_8 : decode cX10_tear 8 = .ok (.ireturn, 1) := by decide +kernel
theorem dX10_tear_9 : decode cX10_tear 9 = .ok (.aload_n 0, 1) := by decide +kernel
theorem dX10_tear_10 : decode cX10_tear 10 = .ok (.getfield 11, 3) := by decide +kernel
theorem dX10_tear_13 : decode cX10_tear 13 = .ok (.iload_n 1, 1) := by decide +kernel
theorem dX10_tear_14 : decode cX10_tear 14 = .ok (.aaload, 1) := by decide +kernel
theorem dX10_tear_15 : decode cX10_tear 15 = .ok (.invokevirtual 99, 3) := by decide +kernel
theorem dX10_tear_18 : decode cX10_tear 18 = .ok (.ifCond .ne 9, 3) := by decide +kernel
theorem dX10_tear_21 : decode cX10_tear 21 = .ok (.aload_n 0, 1) := by decide +kernel
theorem dX10_tear_22 : decode cX10_tear 22 = .ok (.iconst 1, 1) := by decide +kernel
theorem dX10_tear_23 : decode cX10_tear 23 = .ok (.invokevirtual 80, 3) := by decide +kernel
theorem dX10_tear_26 : decode cX10_tear 26 = .ok (.ireturn, 1) := by decide +kernel
theorem dX10_tear_27 : decode cX10_tear 27 = .ok (.aload_n 0, 1) := by decide +kernel
theorem dX10_tear_28 : decode cX10_tear 28 = .ok (.getfield 11, 3) := by decide +kernel
theorem dX10_tear_31 : decode cX10_tear 31 = .ok (.iload_n 1, 1) := by decide +kernel
theorem dX10_tear_32 : decode cX10_tear 32 = .ok (.aaload, 1) := by decide +kernel
theorem dX10_tear_33 : decode cX10_tear 33 = .ok (.iconst (-1), 1) := by decide +kernel
theorem dX10_tear_34 : decode cX10_tear 34 = .ok (.putfield 103, 3) := by decide +kernel
theorem dX10_tear_37 : decode cX10_tear 37 = .ok (.iconst 1, 1) := by decide +kernel
theorem dX10_tear_38 : decode cX10_tear 38 = .ok (.ireturn, 1) := by decide +kernel
theorem dX10_copy_0 : decode cX10_copy 0 = .ok (.iload_n 1, 1) := by decide +kernel
theorem dX10_copy_1 : decode cX10_copy 1 = .ok (.invokestatic 76, 3) := by decide +kernel
theorem dX10_copy_4 : decode cX10_copy 4 = .ok (.ifCond .eq 10, 3) := by decide +kernel
theorem dX10_copy_7 : decode cX10_copy 7 = .ok (.iload_n 3, 1) := by decide +kernel
theorem dX10_copy_8 : decode cX10_copy 8 = .ok (.invokestatic 76, 3) := by decide +kernel
theorem dX10_copy_11 : decode cX10_copy 11 = .ok (.ifCond .ne 5, 3) := by decide +kernel
theorem dX10_copy_14 : decode cX10_copy 14 = .ok (.iconst (-1), 1) := by decide +kernel
theorem dX10_copy_15 : decode cX10_copy 15 = .ok (.ireturn, 1) := by decide +kernel
theorem dX10_copy_16 : decode cX10_copy 16 = .ok (.iload 5, 2) := by decide +kernel
theorem dX10_copy_18 : decode cX10_copy 18 = .ok (.ifCond .ge 9, 3) := by decide +kernel
theorem dX10_copy_21 : decode cX10_copy 21 = .ok (.aload_n 0, 1) := by decide +kernel
theorem dX10_copy_22 : decode cX10_copy 22 = .ok (.iconst 5, 1) := by decide +kernel
theorem dX10_copy_23 : decode cX10_copy 23 = .ok (.invokevirtual 80, 3) := by decide +kernel
theorem dX10_copy_26 : decode cX10_copy 26 = .ok (.ireturn, 1) := by decide +kernel
theorem dX10_copy_27 : decode cX10_copy 27 = .ok (.aload_n 0, 1) := by decide +kernel
theorem dX10_copy_28 : decode cX10_copy 28 = .ok (.getfield 11, 3) := by decide +kernel
theorem dX10_copy_31 : decode cX10_copy 31 = .ok (.iload_n 1, 1) := by decide +kernel
theorem dX10_copy_32 : decode cX10_copy 32 = .ok (.aaload, 1) := by decide +kernel
theorem dX10_copy_33 : decode cX10_copy 33 = .ok (.invokevirtual 99, 3) := by decide +kernel
theorem dX10_copy_36 : decode cX10_copy 36 = .ok (.ifCond .eq 15, 3) := by decide +kernel
theorem dX10_copy_39 : decode cX10_copy 39 = .ok (.aload_n 0, 1) := by decide +kernel
theorem dX10_copy_40 : decode cX10_copy 40 = .ok (.getfield 11, 3) := by decide +kernel
theorem dX10_copy_43 : decode cX10_copy 43 = .ok (.iload_n 3, 1) := by decide +kernel
theorem dX10_copy_44 : decode cX10_copy 44 = .ok (.aaload, 1) := by decide +kernel
theorem dX10_copy_45 : decode cX10_copy 45 = .ok (.invokevirtual 99, 3) := by decide +kernel
theorem dX10_copy_48 : decode cX10_copy 48 = .ok (.ifCond .ne 9, 3) := by decide +kernel
theorem dX10_copy_51 : decode cX10_copy 51 = .ok (.aload_n 0, 1) := by decide +kernel
theorem dX10_copy_52 : decode cX10_copy 52 = .ok (.iconst 1, 1) := by decide +kernel
theorem dX10_copy_53 : decode cX10_copy 53 = .ok (.invokevirtual 80, 3) := by decide +kernel
theorem dX10_copy_56 : decode cX10_copy 56 = .ok (.ireturn, 1) := by decide +kernel
theorem dX10_copy_57 : decode cX10_copy 57 = .ok (.aload_n 0, 1) := by decide +kernel
theorem dX10_copy_58 : decode cX10_copy 58 = .ok (.getfield 11, 3) := by decide +kernel
theorem dX10_copy_61 : decode cX10_copy 61 = .ok (.iload_n 1, 1) := by decide +kernel
theorem dX10_copy_62 : decode cX10_copy 62 = .ok (.aaload, 1) := by decide +kernel
theorem dX10_copy_63 : decode cX10_copy 63 = .ok (.iload_n 2, 1) := by decide +kernel
theorem dX10_copy_64 : decode cX10_copy 64 = .ok (.iload 5, 2) := by decide +kernel
theorem dX10_copy_66 : decode cX10_copy 66 = .ok (.invokevirtual 106, 3) := by decide +kernel
theorem dX10_copy_69 : decode cX10_copy 69 = .ok (.ifCond .eq 19, 3) := by decide +kernel
theorem dX10_copy_72 : decode cX10_copy 72 = .ok (.aload_n 0, 1) := by decide +kernel
theorem dX10_copy_73 : decode cX10_copy 73 = .ok (.getfield 11, 3) := by decide +kernel
theorem dX10_copy_76 : decode cX10_copy 76 = .ok (.iload_n 3, 1) := by decide +kernel
theorem dX10_copy_77 : decode cX10_copy 77 = .ok (.aaload, 1) := by decide +kernel
theorem dX10_copy_78 : decode cX10_copy 78 = .ok (.iload 4, 2) := by decide +kernel
theorem dX10_copy_80 : decode cX10_copy 80 = .ok (.iload 5, 2) := by decide +kernel
theorem dX10_copy_82 : decode cX10_copy 82 = .ok (.invokevirtual 106, 3) := by decide +kernel
theorem dX10_copy_85 : decode cX10_copy 85 = .ok (.ifCond .ne 9, 3) := by decide +kernel
theorem dX10_copy_88 : decode cX10_copy 88 = .ok (.aload_n 0, 1) := by decide +kernel
theorem dX10_copy_89 : decode cX10_copy 89 = .ok (.iconst 2, 1) := by decide +kernel
theorem dX10_copy_90 : decode cX10_copy 90 = .ok (.invokevirtual 80, 3) := by decide +kernel
theorem dX10_copy_93 : decode cX10_copy 93 = .ok (.ireturn, 1) := by decide +kernel
theorem dX10_copy_94 : decode cX10_copy 94 = .ok (.aload_n 0, 1) := by decide +kernel
theorem dX10_copy_95 : decode cX10_copy 95 = .ok (.getfield 11, 3) := by decide +kernel
theorem dX10_copy_98 : decode cX10_copy 98 = .ok (.iload_n 1, 1) := by decide +kernel
theorem dX10_copy_99 : decode cX10_copy 99 = .ok (.aaload, 1) := by decide +kernel
theorem dX10_copy_100 : decode cX10_copy 100 = .ok (.getfield 92, 3) := by decide +kernel
theorem dX10_copy_103 : decode cX10_copy 103 = .ok (.iload_n 2, 1) := by decide +kernel
theorem dX10_copy_104 : decode cX10_copy 104 = .ok (.aload_n 0, 1) := by decide +kernel
theorem dX10_copy_105 : decode cX10_copy 105 = .ok (.getfield 11, 3) := by decide +kernel
theorem dX10_copy_108 : decode cX10_copy 108 = .ok (.iload_n 3, 1) := by decide +kernel
theorem dX10_copy_109 : decode cX10_copy 109 = .ok (.aaload, 1) := by decide +kernel
theorem dX10_copy_110 : decode cX10_copy 110 = .ok (.getfield 92, 3) := by decide +kernel
theorem dX10_copy_113 : decode cX10_copy 113 = .ok (.iload 4, 2) := by decide +kernel
theorem dX10_copy_115 : decode cX10_copy 115 = .ok (.iload 5, 2) := by decide +kernel
theorem dX10_copy_117 : decode cX10_copy 117 = .ok (.invokestatic 110, 3) := by decide +kernel
theorem dX10_copy_120 : decode cX10_copy 120 = .ok (.iconst 1, 1) := by decide +kernel
theorem dX10_copy_121 : decode cX10_copy 121 = .ok (.ireturn, 1) := by decide +kernel
theorem dX10_mean_0 : decode cX10_mean 0 = .ok (.iload_n 1, 1) := by decide +kernel
theorem dX10_mean_1 : decode cX10_mean 1 = .ok (.invokestatic 76, 3) := by decide +kernel
theorem dX10_mean_4 : decode cX10_mean 4 = .ok (.ifCond .ne 5, 3) := by decide +kernel
theorem dX10_mean_7 : decode cX10_mean 7 = .ok (.iconst (-1), 1) := by decide +kernel
theorem dX10_mean_8 : decode cX10_mean 8 = .ok (.ireturn, 1) := by decide +kernel
theorem dX10_mean_9 : decode cX10_mean 9 = .ok (.aload_n 0, 1) := by decide +kernel
theorem dX10_mean_10 : decode cX10_mean 10 = .ok (.getfield 11, 3) := by decide +kernel
theorem dX10_mean_13 : decode cX10_mean 13 = .ok (.iload_n 1, 1) := by decide +kernel
theorem dX10_mean_14 : decode cX10_mean 14 = .ok (.aaload, 1) := by decide +kernel
theorem dX10_mean_15 : decode cX10_mean 15 = .ok (.invokevirtual 99, 3) := by decide +kernel
theorem dX10_mean_18 : decode cX10_mean 18 = .ok (.ifCond .ne 9, 3) := by decide +kernel
theorem dX10_mean_21 : decode cX10_mean 21 = .ok (.aload_n 0, 1) := by decide +kernel
theorem dX10_mean_22 : decode cX10_mean 22 = .ok (.iconst 1, 1) := by decide +kernel
theorem dX10_mean_23 : decode cX10_mean 23 = .ok (.invokevirtual 80, 3) := by decide +kernel
theorem dX10_mean_26 : decode cX10_mean 26 = .ok (.ireturn, 1) := by decide +kernel
theorem dX10_mean_27 : decode cX10_mean 27 = .ok (.aload_n 0, 1) := by decide +kernel
theorem dX10_mean_28 : decode cX10_mean 28 = .ok (.getfield 11, 3) := by decide +kernel
theorem dX10_mean_31 : decode cX10_mean 31 = .ok (.iload_n 1, 1) := by decide +kernel
theorem dX10_mean_32 : decode cX10_mean 32 = .ok (.aaload, 1) := by decide +kernel
theorem dX10_mean_33 : decode cX10_mean 33 = .ok (.getfield 103, 3) := by decide +kernel
theorem dX10_mean_36 : decode cX10_mean 36 = .ok (.ifCond .ne 9, 3) := by decide +kernel
theorem dX10_mean_39 : decode cX10_mean 39 = .ok (.aload_n 0, 1) := by decide +kernel
theorem dX10_mean_40 : decode cX10_mean 40 = .ok (.iconst 4, 1) := by decide +kernel
theorem dX10_mean_41 : decode cX10_mean 41 = .ok (.invokevirtual 80, 3) := by decide +kernel
theorem dX10_mean_44 : decode cX10_mean 44 = .ok (.ireturn, 1) := by decide +kernel
theorem dX10_mean_45 : decode cX10_mean 45 = .ok (.lconst 0, 1) := by decide +kernel
theorem dX10_mean_46 : decode cX10_mean 46 = .ok (.lstore_n 2, 1) := by decide +kernel
theorem dX10_mean_47 : decode cX10_mean 47 = .ok (.iconst 0, 1) := by decide +kernel
theorem dX10_mean_48 : decode cX10_mean 48 = .ok (.istore 4, 2) := by decide +kernel
theorem dX10_mean_50 : decode cX10_mean 50 = .ok (.iload 4, 2) := by decide +kernel
theorem dX10_mean_52 : decode cX10_mean 52 = .ok (.aload_n 0, 1) := by decide +kernel
theorem dX10_mean_53 : decode cX10_mean 53 = .ok (.getfield 11, 3) := by decide +kernel
theorem dX10_mean_56 : decode cX10_mean 56 = .ok (.iload_n 1, 1) := by decide +kernel
theorem dX10_mean_57 : decode cX10_mean 57 = .ok (.aaload, 1) := by decide +kernel
theorem dX10_mean_58 : decode cX10_mean 58 = .ok (.getfield 103, 3) := by decide +kernel
theorem dX10_mean_61 : decode cX10_mean 61 = .ok (.if_icmp .ge 25, 3) := by decide +kernel
theorem dX10_mean_64 : decode cX10_mean 64 = .ok (.lload_n 2, 1) := by decide +kernel
theorem dX10_mean_65 : decode cX10_mean 65 = .ok (.aload_n 0, 1) := by decide +kernel
theorem dX10_mean_66 : decode cX10_mean 66 = .ok (.getfield 11, 3) := by decide +kernel
theorem dX10_mean_69 : decode cX10_mean 69 = .ok (.iload_n 1, 1) := by decide +kernel
theorem dX10_mean_70 : decode cX10_mean 70 = .ok (.aaload, 1) := by decide +kernel
theorem dX10_mean_71 : decode cX10_mean 71 = .ok (.getfield 92, 3) := by decide +kernel
theorem dX10_mean_74 : decode cX10_mean 74 = .ok (.iload 4, 2) := by decide +kernel
theorem dX10_mean_76 : decode cX10_mean 76 = .ok (.iaload, 1) := by decide +kernel
theorem dX10_mean_77 : decode cX10_mean 77 = .ok (.i2l, 1) := by decide +kernel
theorem dX10_mean_78 : decode cX10_mean 78 = .ok (.ladd, 1) := by decide +kernel
theorem dX10_mean_79 : decode cX10_mean 79 = .ok (.lstore_n 2, 1) := by decide +kernel
theorem dX10_mean_80 : decode cX10_mean 80 = .ok (.iinc 4 1, 3) := by decide +kernel
theorem dX10_mean_83 : decode cX10_mean 83 = .ok (.goto (-33), 3) := by decide +kernel
theorem dX10_mean_86 : decode cX10_mean 86 = .ok (.aload_n 0, 1) := by decide +kernel
theorem dX10_mean_87 : decode cX10_mean 87 = .ok (.lload_n 2, 1) := by decide +kernel
theorem dX10_mean_88 : decode cX10_mean 88 = .ok (.aload_n 0, 1) := by decide +kernel
theorem dX10_mean_89 : decode cX10_mean 89 = .ok (.getfield 11, 3) := by decide +kernel
theorem dX10_mean_92 : decode cX10_mean 92 = .ok (.iload_n 1, 1) := by decide +kernel
theorem dX10_mean_93 : decode cX10_mean 93 = .ok (.aaload, 1) := by decide +kernel
theorem dX10_mean_94 : decode cX10_mean 94 = .ok (.getfield 103, 3) := by decide +kernel
theorem dX10_mean_97 : decode cX10_mean 97 = .ok (.i2l, 1) := by decide +kernel
theorem dX10_mean_98 : decode cX10_mean 98 = .ok (.ldiv, 1) := by decide +kernel
theorem dX10_mean_99 : decode cX10_mean 99 = .ok (.l2i, 1) := by decide +kernel
theorem dX10_mean_100 : decode cX10_mean 100 = .ok (.putfield 95, 3) := by decide +kernel
theorem dX10_mean_103 : decode cX10_mean 103 = .ok (.iconst 1, 1) := by decide +kernel
theorem dX10_mean_104 : decode cX10_mean 104 = .ok (.ireturn, 1) := by decide +kernel
theorem dX10_text_0 : decode cX10_text 0 = .ok (.iload_n 1, 1) := by decide +kernel
theorem dX10_text_1 : decode cX10_text 1 = .ok (.invokestatic 116, 3) := by decide +kernel
theorem dX10_text_4 : decode cX10_text 4 = .ok (.ifCond .eq 9, 3) := by decide +kernel
theorem dX10_text_7 : decode cX10_text 7 = .ok (.iload_n 2, 1) := by decide +kernel
theorem dX10_text_8 : decode cX10_text 8 = .ok (.bipush 60, 2) := by decide +kernel
theorem dX10_text_10 : decode cX10_text 10 = .ok (.if_icmp .le 5, 3) := by decide +kernel
theorem dX10_text_13 : decode cX10_text 13 = .ok (.iconst (-1), 1) := by decide +kernel
theorem dX10_text_14 : decode cX10_text 14 = .ok (.ireturn, 1) := by decide +kernel
theorem dX10_text_15 : decode cX10_text 15 = .ok (.iload_n 2, 1) := by decide +kernel
theorem dX10_text_16 : decode cX10_text 16 = .ok (.ifCond .ge 9, 3) := by decide +kernel
theorem dX10_text_19 : decode cX10_text 19 = .ok (.aload_n 0, 1) := by decide +kernel
theorem dX10_text_20 : decode cX10_text 20 = .ok (.iconst 5, 1) := by decide +kernel
theorem dX10_text_21 : decode cX10_text 21 = .ok (.invokevirtual 80, 3) := by decide +kernel
theorem dX10_text_24 : decode cX10_text 24 = .ok (.ireturn, 1) := by decide +kernel
theorem dX10_text_25 : decode cX10_text 25 = .ok (.aload_n 0, 1) := by decide +kernel
theorem dX10_text_26 : decode cX10_text 26 = .ok (.getfield 16, 3) := by decide +kernel
theorem dX10_text_29 : decode cX10_text 29 = .ok (.iload_n 1, 1) := by decide +kernel
theorem dX10_text_30 : decode cX10_text 30 = .ok (.aaload, 1) := by decide +kernel
theorem dX10_text_31 : decode cX10_text 31 = .ok (.iload_n 2, 1) := by decide +kernel
theorem dX10_text_32 : decode cX10_text 32 = .ok (.bipush 32, 2) := by decide +kernel
theorem dX10_text_34 : decode cX10_text 34 = .ok (.invokevirtual 84, 3) := by decide +kernel
theorem dX10_text_37 : decode cX10_text 37 = .ok (.iload_n 2, 1) := by decide +kernel
theorem dX10_text_38 : decode cX10_text 38 = .ok (.ireturn, 1) := by decide +kernel
theorem dX10_put_0 : decode cX10_put 0 = .ok (.iload_n 1, 1) := by decide +kernel
theorem dX10_put_1 : decode cX10_put 1 = .ok (.invokestatic 116, 3) := by decide +kernel
theorem dX10_put_4 : decode cX10_put 4 = .ok (.ifCond .ne 5, 3) := by decide +kernel
theorem dX10_put_7 : decode cX10_put 7 = .ok (.iconst (-1), 1) := by decide +kernel
theorem dX10_put_8 : decode cX10_put 8 = .ok (.ireturn, 1) := by decide +kernel
theorem dX10_put_9 : decode cX10_put 9 = .ok (.aload_n 0, 1) := by decide +kernel
theorem dX10_put_10 : decode cX10_put 10 = .ok (.getfield 16, 3) := by decide +kernel
theorem dX10_put_13 : decode cX10_put 13 = .ok (.iload_n 1, 1) := by decide +kernel
theorem dX10_put_14 : decode cX10_put 14 = .ok (.aaload, 1) := by decide +kernel
theorem dX10_put_15 : decode cX10_put 15 = .ok (.iload_n 2, 1) := by decide +kernel
theorem dX10_put_16 : decode cX10_put 16 = .ok (.invokestatic 88, 3) := by decide +kernel
theorem dX10_put_19 : decode cX10_put 19 = .ok (.istore 4, 2) := by decide +kernel
theorem dX10_put_21 : decode cX10_put 21 = .ok (.iload 4, 2) := by decide +kernel
theorem dX10_put_23 : decode cX10_put 23 = .ok (.ifCond .eq 10, 3) := by decide +kernel
theorem dX10_put_26 : decode cX10_put 26 = .ok (.aload_n 0, 1) := by decide +kernel
theorem dX10_put_27 : decode cX10_put 27 = .ok (.iload 4, 2) := by decide +kernel
theorem dX10_put_29 : decode cX10_put 29 = .ok (.invokevirtual 80, 3) := by decide +kernel
theorem dX10_put_32 : decode cX10_put 32 = .ok (.ireturn, 1) := by decide +kernel
theorem dX10_put_33 : decode cX10_put 33 = .ok (.aload_n 0, 1) := by decide +kernel
theorem dX10_put_34 : decode cX10_put 34 = .ok (.getfield 16, 3) := by decide +kernel
theorem dX10_put_37 : decode cX10_put 37 = .ok (.iload_n 1, 1) := by decide +kernel
theorem dX10_put_38 : decode cX10_put 38 = .ok (.aaload, 1) := by decide +kernel
theorem dX10_put_39 : decode cX10_put 39 = .ok (.getfield 92, 3) := by decide +kernel
theorem dX10_put_42 : decode cX10_put 42 = .ok (.iload_n 2, 1) := by decide +kernel
theorem dX10_put_43 : decode cX10_put 43 = .ok (.iaload, 1) := by decide +kernel
theorem dX10_put_44 : decode cX10_put 44 = .ok (.istore 5, 2) := by decide +kernel
theorem dX10_put_46 : decode cX10_put 46 = .ok (.aload_n 0, 1) := by decide +kernel
theorem dX10_put_47 : decode cX10_put 47 = .ok (.getfield 16, 3) := by decide +kernel
theorem dX10_put_50 : decode cX10_put 50 = .ok (.iload_n 1, 1) := by decide +kernel
theorem dX10_put_51 : decode cX10_put 51 = .ok (.aaload, 1) := by decide +kernel
theorem dX10_put_52 : decode cX10_put 52 = .ok (.getfield 92, 3) := by decide +kernel
theorem dX10_put_55 : decode cX10_put 55 = .ok (.iload_n 2, 1) := by decide +kernel
theorem dX10_put_56 : decode cX10_put 56 = .ok (.iload_n 3, 1) := by decide +kernel
theorem dX10_put_57 : decode cX10_put 57 = .ok (.i2b, 1) := by decide +kernel
theorem dX10_put_58 : decode cX10_put 58 = .ok (.iastore, 1) := by decide +kernel
theorem dX10_put_59 : decode cX10_put 59 = .ok (.iload 5, 2) := by decide +kernel
theorem dX10_put_61 : decode cX10_put 61 = .ok (.sipush 1000, 3) := by decide +kernel
theorem dX10_put_64 : decode cX10_put 64 = .ok (.iadd, 1) := by decide +kernel
theorem dX10_put_65 : decode cX10_put 65 = .ok (.ireturn, 1) := by decide +kernel
theorem dX10_fault_0 : decode cX10_fault 0 = .ok (.iload_n 1, 1) := by decide +kernel
theorem dX10_fault_1 : decode cX10_fault 1 = .ok (.invokestatic 116, 3) := by decide +kernel
theorem dX10_fault_4 : decode cX10_fault 4 = .ok (.ifCond .ne 5, 3) := by decide +kernel
theorem dX10_fault_7 : decode cX10_fault 7 = .ok (.iconst (-1), 1) := by decide +kernel
theorem dX10_fault_8 : decode cX10_fault 8 = .ok (.ireturn, 1) := by decide +kernel
theorem dX10_fault_9 : decode cX10_fault 9 = .ok (.aload_n 0, 1) := by decide +kernel
theorem dX10_fault_10 : decode cX10_fault 10 = .ok (.getfield 16, 3) := by decide +kernel
theorem dX10_fault_13 : decode cX10_fault 13 = .ok (.iload_n 1, 1) := by decide +kernel
theorem dX10_fault_14 : decode cX10_fault 14 = .ok (.aaload, 1) := by decide +kernel
theorem dX10_fault_15 : decode cX10_fault 15 = .ok (.invokevirtual 99, 3) := by decide +kernel
theorem dX10_fault_18 : decode cX10_fault 18 = .ok (.ifCond .ne 9, 3) := by decide +kernel
theorem dX10_fault_21 : decode cX10_fault 21 = .ok (.aload_n 0, 1) := by decide +kernel
theorem dX10_fault_22 : decode cX10_fault 22 = .ok (.iconst 1, 1) := by decide +kernel
theorem dX10_fault_23 : decode cX10_fault 23 = .ok (.invokevirtual 80, 3) := by decide +kernel
theorem dX10_fault_26 : decode cX10_fault 26 = .ok (.ireturn, 1) := by decide +kernel
theorem dX10_fault_27 : decode cX10_fault 27 = .ok (.aload_n 0, 1) := by decide +kernel
theorem dX10_fault_28 : decode cX10_fault 28 = .ok (.getfield 16, 3) := by decide +kernel
theorem dX10_fault_31 : decode cX10_fault 31 = .ok (.iload_n 1, 1) := by decide +kernel
theorem dX10_fault_32 : decode cX10_fault 32 = .ok (.aaload, 1) := by decide +kernel
theorem dX10_fault_33 : decode cX10_fault 33 = .ok (.invokestatic 119, 3) := by decide +kernel
theorem dX10_fault_36 : decode cX10_fault 36 = .ok (.ireturn, 1) := by decide +kernel
theorem dX10_box_0 : decode cX10_box 0 = .ok (.iload_n 1, 1) := by decide +kernel
theorem dX10_box_1 : decode cX10_box 1 = .ok (.invokestatic 116, 3) := by decide +kernel
theorem dX10_box_4 : decode cX10_box 4 = .ok (.ifCond .ne 5, 3) := by decide +kernel
theorem dX10_box_7 : decode cX10_box 7 = .ok (.iconst (-1), 1) := by decide +kernel
theorem dX10_box_8 : decode cX10_box 8 = .ok (.ireturn, 1) := by decide +kernel
theorem dX10_box_9 : decode cX10_box 9 = .ok (.aload_n 0, 1) := by decide +kernel
theorem dX10_box_10 : decode cX10_box 10 = .ok (.getfield 16, 3) := by decide +kernel
theorem dX10_box_13 : decode cX10_box 13 = .ok (.iload_n 1, 1) := by decide +kernel
theorem dX10_box_14 : decode cX10_box 14 = .ok (.aaload, 1) := by decide +kernel
theorem dX10_box_15 : decode cX10_box 15 = .ok (.invokevirtual 99, 3) := by decide +kernel
theorem dX10_box_18 : decode cX10_box 18 = .ok (.ifCond .ne 9, 3) := by decide +kernel
theorem dX10_box_21 : decode cX10_box 21 = .ok (.aload_n 0, 1) := by decide +kernel
theorem dX10_box_22 : decode cX10_box 22 = .ok (.iconst 1, 1) := by decide +kernel
theorem dX10_box_23 : decode cX10_box 23 = .ok (.invokevirtual 80, 3) := by decide +kernel
theorem dX10_box_26 : decode cX10_box 26 = .ok (.ireturn, 1) := by decide +kernel
theorem dX10_box_27 : decode cX10_box 27 = .ok (.aload_n 0, 1) := by decide +kernel
theorem dX10_box_28 : decode cX10_box 28 = .ok (.getfield 16, 3) := by decide +kernel
theorem dX10_box_31 : decode cX10_box 31 = .ok (.iload_n 1, 1) := by decide +kernel
theorem dX10_box_32 : decode cX10_box 32 = .ok (.aaload, 1) := by decide +kernel
theorem dX10_box_33 : decode cX10_box 33 = .ok (.invokestatic 119, 3) := by decide +kernel
theorem dX10_box_36 : decode cX10_box 36 = .ok (.bipush (-9), 2) := by decide +kernel
theorem dX10_box_38 : decode cX10_box 38 = .ok (.if_icmp .eq 6, 3) := by decide +kernel
theorem dX10_box_41 : decode cX10_box 41 = .ok (.bipush (-4), 2) := by decide +kernel
theorem dX10_box_43 : decode cX10_box 43 = .ok (.ireturn, 1) := by decide +kernel
theorem dX10_box_44 : decode cX10_box 44 = .ok (.aload_n 0, 1) := by decide +kernel
theorem dX10_box_45 : decode cX10_box 45 = .ok (.aload_n 0, 1) := by decide +kernel
theorem dX10_box_46 : decode cX10_box 46 = .ok (.getfield 16, 3) := by decide +kernel
theorem dX10_box_49 : decode cX10_box 49 = .ok (.iload_n 1, 1) := by decide +kernel
theorem dX10_box_50 : decode cX10_box 50 = .ok (.aaload, 1) := by decide +kernel
theorem dX10_box_51 : decode cX10_box 51 = .ok (.invokevirtual 123, 3) := by decide +kernel
theorem dX10_box_54 : decode cX10_box 54 = .ok (.aload_n 0, 1) := by decide +kernel
theorem dX10_box_55 : decode cX10_box 55 = .ok (.getfield 53, 3) := by decide +kernel
theorem dX10_box_58 : decode cX10_box 58 = .ok (.invokevirtual 127, 3) := by decide +kernel
theorem dX10_box_61 : decode cX10_box 61 = .ok (.iconst 0, 1) := by decide +kernel
theorem dX10_box_62 : decode cX10_box 62 = .ok (.istore_n 2, 1) := by decide +kernel
theorem dX10_box_63 : decode cX10_box 63 = .ok (.iload_n 2, 1) := by decide +kernel
theorem dX10_box_64 : decode cX10_box 64 = .ok (.iconst 3, 1) := by decide +kernel
theorem dX10_box_65 : decode cX10_box 65 = .ok (.if_icmp .ge 19, 3) := by decide +kernel
theorem dX10_box_68 : decode cX10_box 68 = .ok (.aload_n 0, 1) := by decide +kernel
theorem dX10_box_69 : decode cX10_box 69 = .ok (.getfield 57, 3) := by decide +kernel
theorem dX10_box_72 : decode cX10_box 72 = .ok (.iload_n 2, 1) := by decide +kernel
theorem dX10_box_73 : decode cX10_box 73 = .ok (.aaload, 1) := by decide +kernel
theorem dX10_box_74 : decode cX10_box 74 = .ok (.iconst 0, 1) := by decide +kernel
theorem dX10_box_75 : decode cX10_box 75 = .ok (.putfield 130, 3) := by decide +kernel
theorem dX10_box_78 : decode cX10_box 78 = .ok (.iinc 2 1, 3) := by decide +kernel
theorem dX10_box_81 : decode cX10_box 81 = .ok (.goto (-18), 3) := by decide +kernel
theorem dX10_box_84 : decode cX10_box 84 = .ok (.aload_n 0, 1) := by decide +kernel
theorem dX10_box_85 : decode cX10_box 85 = .ok (.getfield 134, 3) := by decide +kernel
theorem dX10_box_88 : decode cX10_box 88 = .ok (.ireturn, 1) := by decide +kernel
theorem dX10_rod_0 : decode cX10_rod 0 = .ok (.aload_n 0, 1) := by decide +kernel
theorem dX10_rod_1 : decode cX10_rod 1 = .ok (.iload_n 1, 1) := by decide +kernel
theorem dX10_rod_2 : decode cX10_rod 2 = .ok (.invokevirtual 137, 3) := by decide +kernel
theorem dX10_rod_5 : decode cX10_rod 5 = .ok (.ifCond .eq 12, 3) := by decide +kernel
theorem dX10_rod_8 : decode cX10_rod 8 = .ok (.iload_n 2, 1) := by decide +kernel
theorem dX10_rod_9 : decode cX10_rod 9 = .ok (.ifCond .lt 8, 3) := by decide +kernel
theorem dX10_rod_12 : decode cX10_rod 12 = .ok (.iload_n 2, 1) := by decide +kernel
theorem dX10_rod_13 : decode cX10_rod 13 = .ok (.iconst 5, 1) := by decide +kernel
theorem dX10_rod_14 : decode cX10_rod 14 = .ok (.if_icmp .lt 5, 3) := by decide +kernel
theorem dX10_rod_17 : decode cX10_rod 17 = .ok (.iconst (-1), 1) := by decide +kernel
theorem dX10_rod_18 : decode cX10_rod 18 = .ok (.ireturn, 1) := by decide +kernel
theorem dX10_rod_19 : decode cX10_rod 19 = .ok (.aload_n 0, 1) := by decide +kernel
theorem dX10_rod_20 : decode cX10_rod 20 = .ok (.aload_n 0, 1) := by decide +kernel
theorem dX10_rod_21 : decode cX10_rod 21 = .ok (.iload_n 1, 1) := by decide +kernel
theorem dX10_rod_22 : decode cX10_rod 22 = .ok (.iload_n 2, 1) := by decide +kernel
theorem dX10_rod_23 : decode cX10_rod 23 = .ok (.invokevirtual 140, 3) := by decide +kernel
theorem dX10_rod_26 : decode cX10_rod 26 = .ok (.putfield 95, 3) := by decide +kernel
theorem dX10_rod_29 : decode cX10_rod 29 = .ok (.iconst 1, 1) := by decide +kernel
theorem dX10_rod_30 : decode cX10_rod 30 = .ok (.ireturn, 1) := by decide +kernel
theorem dX10_mark_0 : decode cX10_mark 0 = .ok (.aload_n 0, 1) := by decide +kernel
theorem dX10_mark_1 : decode cX10_mark 1 = .ok (.iload_n 1, 1) := by decide +kernel
theorem dX10_mark_2 : decode cX10_mark 2 = .ok (.invokevirtual 137, 3) := by decide +kernel
theorem dX10_mark_5 : decode cX10_mark 5 = .ok (.ifCond .eq 13, 3) := by decide +kernel
theorem dX10_mark_8 : decode cX10_mark 8 = .ok (.iload_n 2, 1) := by decide +kernel
theorem dX10_mark_9 : decode cX10_mark 9 = .ok (.ifCond .le 9, 3) := by decide +kernel
theorem dX10_mark_12 : decode cX10_mark 12 = .ok (.iload_n 2, 1) := by decide +kernel
theorem dX10_mark_13 : decode cX10_mark 13 = .ok (.bipush 6, 2) := by decide +kernel
theorem dX10_mark_15 : decode cX10_mark 15 = .ok (.if_icmp .lt 5, 3) := by decide +kernel
theorem dX10_mark_18 : decode cX10_mark 18 = .ok (.iconst (-1), 1) := by decide +kernel
theorem dX10_mark_19 : decode cX10_mark 19 = .ok (.ireturn, 1) := by decide +kernel
theorem dX10_mark_20 : decode cX10_mark 20 = .ok (.aload_n 0, 1) := by decide +kernel
theorem dX10_mark_21 : decode cX10_mark 21 = .ok (.getfield 43, 3) := by decide +kernel
theorem dX10_mark_24 : decode cX10_mark 24 = .ok (.iload_n 1, 1) := by decide +kernel
theorem dX10_mark_25 : decode cX10_mark 25 = .ok (.aaload, 1) := by decide +kernel
theorem dX10_mark_26 : decode cX10_mark 26 = .ok (.getfield 144, 3) := by decide +kernel
theorem dX10_mark_29 : decode cX10_mark 29 = .ok (.iload_n 2, 1) := by decide +kernel
theorem dX10_mark_30 : decode cX10_mark 30 = .ok (.invokestatic 148, 3) := by decide +kernel
theorem dX10_mark_33 : decode cX10_mark 33 = .ok (.ifCond .ne 9, 3) := by decide +kernel
theorem dX10_mark_36 : decode cX10_mark 36 = .ok (.aload_n 0, 1) := by decide +kernel
theorem dX10_mark_37 : decode cX10_mark 37 = .ok (.iconst 3, 1) := by decide +kernel
theorem dX10_mark_38 : decode cX10_mark 38 = .ok (.invokevirtual 80, 3) := by decide +kernel
theorem dX10_mark_41 : decode cX10_mark 41 = .ok (.ireturn, 1) := by decide +kernel
theorem dX10_mark_42 : decode cX10_mark 42 = .ok (.iload_n 2, 1) := by decide +kernel
theorem dX10_mark_43 : decode cX10_mark 43 = .ok (.tableswitch 66 1 4 #[29, 38, 47, 57], 29) := by decide +kernel
theorem dX10_mark_72 : decode cX10_mark 72 = .ok (.aload_n 0, 1) := by decide +kernel
theorem dX10_mark_73 : decode cX10_mark 73 = .ok (.iload_n 1, 1) := by decide +kernel
theorem dX10_mark_74 : decode cX10_mark 74 = .ok (.iconst 0, 1) := by decide +kernel
theorem dX10_mark_75 : decode cX10_mark 75 = .ok (.iconst 1, 1) := by decide +kernel
theorem dX10_mark_76 : decode cX10_mark 76 = .ok (.iconst 0, 1) := by decide +kernel
theorem dX10_mark_77 : decode cX10_mark 77 = .ok (.invokevirtual 152, 3) := by decide +kernel
theorem dX10_mark_80 : decode cX10_mark 80 = .ok (.ireturn, 1) := by decide +kernel
theorem dX10_mark_81 : decode cX10_mark 81 = .ok (.aload_n 0, 1) := by decide +kernel
theorem dX10_mark_82 : decode cX10_mark 82 = .ok (.iload_n 1, 1) := by decide +kernel
theorem dX10_mark_83 : decode cX10_mark 83 = .ok (.iconst 0, 1) := by decide +kernel
theorem dX10_mark_84 : decode cX10_mark 84 = .ok (.iconst 0, 1) := by decide +kernel
theorem dX10_mark_85 : decode cX10_mark 85 = .ok (.iconst 1, 1) := by decide +kernel
theorem dX10_mark_86 : decode cX10_mark 86 = .ok (.invokevirtual 152, 3) := by decide +kernel
theorem dX10_mark_89 : decode cX10_mark 89 = .ok (.ireturn, 1) := by decide +kernel
theorem dX10_mark_90 : decode cX10_mark 90 = .ok (.sipush 500, 3) := by decide +kernel
theorem dX10_mark_93 : decode cX10_mark 93 = .ok (.aload_n 0, 1) := by decide +kernel
theorem dX10_mark_94 : decode cX10_mark 94 = .ok (.iload_n 1, 1) := by decide +kernel
theorem dX10_mark_95 : decode cX10_mark 95 = .ok (.invokevirtual 156, 3) := by decide +kernel
theorem dX10_mark_98 : decode cX10_mark 98 = .ok (.iadd, 1) := by decide +kernel
theorem dX10_mark_99 : decode cX10_mark 99 = .ok (.ireturn, 1) := by decide +kernel
theorem dX10_mark_100 : decode cX10_mark 100 = .ok (.aload_n 0, 1) := by decide +kernel
theorem dX10_mark_101 : decode cX10_mark 101 = .ok (.iload_n 1, 1) := by decide +kernel
theorem dX10_mark_102 : decode cX10_mark 102 = .ok (.iconst 1, 1) := by decide +kernel
theorem dX10_mark_103 : decode cX10_mark 103 = .ok (.iconst 1, 1) := by decide +kernel
theorem dX10_mark_104 : decode cX10_mark 104 = .ok (.iconst 0, 1) := by decide +kernel
theorem dX10_mark_105 : decode cX10_mark 105 = .ok (.invokevirtual 152, 3) := by decide +kernel
theorem dX10_mark_108 : decode cX10_mark 108 = .ok (.ireturn, 1) := by decide +kernel
theorem dX10_mark_109 : decode cX10_mark 109 = .ok (.aload_n 0, 1) := by decide +kernel
theorem dX10_mark_110 : decode cX10_mark 110 = .ok (.iload_n 1, 1) := by decide +kernel
theorem dX10_mark_111 : decode cX10_mark 111 = .ok (.iconst 2, 1) := by decide +kernel
theorem dX10_mark_112 : decode cX10_mark 112 = .ok (.iconst 1, 1) := by decide +kernel
theorem dX10_mark_113 : decode cX10_mark 113 = .ok (.iconst 1, 1) := by decide +kernel
theorem dX10_mark_114 : decode cX10_mark 114 = .ok (.invokevirtual 152, 3) := by decide +kernel
theorem dX10_mark_117 : decode cX10_mark 117 = .ok (.ireturn, 1) := by decide +kernel
theorem dX10_shows_0 : decode cX10_shows 0 = .ok (.aload_n 0, 1) := by decide +kernel
theorem dX10_shows_1 : decode cX10_shows 1 = .ok (.iload_n 1, 1) := by decide +kernel
theorem dX10_shows_2 : decode cX10_shows 2 = .ok (.invokevirtual 137, 3) := by decide +kernel
theorem dX10_shows_5 : decode cX10_shows 5 = .ok (.ifCond .eq 10, 3) := by decide +kernel
theorem dX10_shows_8 : decode cX10_shows 8 = .ok (.iload_n 2, 1) := by decide +kernel
theorem dX10_shows_9 : decode cX10_shows 9 = .ok (.invokestatic 159, 3) := by decide +kernel
theorem dX10_shows_12 : decode cX10_shows 12 = .ok (.ifCond .ne 5, 3) := by decide +kernel
theorem dX10_shows_15 : decode cX10_shows 15 = .ok (.iconst (-1), 1) := by decide +kernel
theorem dX10_shows_16 : decode cX10_shows 16 = .ok (.ireturn, 1) := by decide +kernel
theorem dX10_shows_17 : decode cX10_shows 17 = .ok (.aload_n 0, 1) := by decide +kernel
theorem dX10_shows_18 : decode cX10_shows 18 = .ok (.iload_n 1, 1) := by decide +kernel
theorem dX10_shows_19 : decode cX10_shows 19 = .ok (.iload_n 2, 1) := by decide +kernel
theorem dX10_shows_20 : decode cX10_shows 20 = .ok (.invokevirtual 162, 3) := by decide +kernel
theorem dX10_shows_23 : decode cX10_shows 23 = .ok (.ireturn, 1) := by decide +kernel
theorem dX10_laid_0 : decode cX10_laid 0 = .ok (.aload_n 0, 1) := by decide +kernel
theorem dX10_laid_1 : decode cX10_laid 1 = .ok (.iload_n 1, 1) := by decide +kernel
theorem dX10_laid_2 : decode cX10_laid 2 = .ok (.invokevirtual 137, 3) := by decide +kernel
theorem dX10_laid_5 : decode cX10_laid 5 = .ok (.ifCond .ne 5, 3) := by decide +kernel
theorem dX10_laid_8 : decode cX10_laid 8 = .ok (.iconst (-1), 1) := by decide +kernel
theorem dX10_laid_9 : decode cX10_laid 9 = .ok (.ireturn, 1) := by decide +kernel
theorem dX10_laid_10 : decode cX10_laid 10 = .ok (.aload_n 0, 1) := by decide +kernel
theorem dX10_laid_11 : decode cX10_laid 11 = .ok (.getfield 53, 3) := by decide +kernel
theorem dX10_laid_14 : decode cX10_laid 14 = .ok (.iload_n 1, 1) := by decide +kernel
theorem dX10_laid_15 : decode cX10_laid 15 = .ok (.invokevirtual 165, 3) := by decide +kernel
theorem dX10_laid_18 : decode cX10_laid 18 = .ok (.bipush (-9), 2) := by decide +kernel
theorem dX10_laid_20 : decode cX10_laid 20 = .ok (.if_icmp .eq 6, 3) := by decide +kernel
theorem dX10_laid_23 : decode cX10_laid 23 = .ok (.bipush (-4), 2) := by decide +kernel
theorem dX10_laid_25 : decode cX10_laid 25 = .ok (.ireturn, 1) := by decide +kernel
theorem dX10_laid_26 : decode cX10_laid 26 = .ok (.aload_n 0, 1) := by decide +kernel
theorem dX10_laid_27 : decode cX10_laid 27 = .ok (.getfield 53, 3) := by decide +kernel
theorem dX10_laid_30 : decode cX10_laid 30 = .ok (.invokevirtual 168, 3) := by decide +kernel
theorem dX10_laid_33 : decode cX10_laid 33 = .ok (.ifCond .eq 6, 3) := by decide +kernel
theorem dX10_laid_36 : decode cX10_laid 36 = .ok (.bipush (-2), 2) := by decide +kernel
theorem dX10_laid_38 : decode cX10_laid 38 = .ok (.ireturn, 1) := by decide +kernel
theorem dX10_laid_39 : decode cX10_laid 39 = .ok (.aload_n 0, 1) := by decide +kernel
theorem dX10_laid_40 : decode cX10_laid 40 = .ok (.getfield 53, 3) := by decide +kernel
theorem dX10_laid_43 : decode cX10_laid 43 = .ok (.iconst 1, 1) := by decide +kernel
theorem dX10_laid_44 : decode cX10_laid 44 = .ok (.iload_n 1, 1) := by decide +kernel
theorem dX10_laid_45 : decode cX10_laid 45 = .ok (.iconst 0, 1) := by decide +kernel
theorem dX10_laid_46 : decode cX10_laid 46 = .ok (.invokevirtual 171, 3) := by decide +kernel
theorem dX10_laid_49 : decode cX10_laid 49 = .ok (.aload_n 0, 1) := by decide +kernel
theorem dX10_laid_50 : decode cX10_laid 50 = .ok (.getfield 53, 3) := by decide +kernel
theorem dX10_laid_53 : decode cX10_laid 53 = .ok (.getfield 175, 3) := by decide +kernel
theorem dX10_laid_56 : decode cX10_laid 56 = .ok (.ireturn, 1) := by decide +kernel
theorem dX10_lift_0 : decode cX10_lift 0 = .ok (.aload_n 0, 1) := by decide +kernel
theorem dX10_lift_1 : decode cX10_lift 1 = .ok (.getfield 53, 3) := by decide +kernel
theorem dX10_lift_4 : decode cX10_lift 4 = .ok (.getfield 175, 3) := by decide +kernel
theorem dX10_lift_7 : decode cX10_lift 7 = .ok (.ifCond .ne 6, 3) := by decide +kernel
theorem dX10_lift_10 : decode cX10_lift 10 = .ok (.bipush (-4), 2) := by decide +kernel
theorem dX10_lift_12 : decode cX10_lift 12 = .ok (.ireturn, 1) := by decide +kernel
theorem dX10_lift_13 : decode cX10_lift 13 = .ok (.aload_n 0, 1) := by decide +kernel
theorem dX10_lift_14 : decode cX10_lift 14 = .ok (.getfield 53, 3) := by decide +kernel
theorem dX10_lift_17 : decode cX10_lift 17 = .ok (.invokevirtual 168, 3) := by decide +kernel
theorem dX10_lift_20 : decode cX10_lift 20 = .ok (.ifCond .eq 6, 3) := by decide +kernel
theorem dX10_lift_23 : decode cX10_lift 23 = .ok (.bipush (-2), 2) := by decide +kernel
theorem dX10_lift_25 : decode cX10_lift 25 = .ok (.ireturn, 1) := by decide +kernel
theorem dX10_lift_26 : decode cX10_lift 26 = .ok (.aload_n 0, 1) := by decide +kernel
theorem dX10_lift_27 : decode cX10_lift 27 = .ok (.getfield 53, 3) := by decide +kernel
theorem dX10_lift_30 : decode cX10_lift 30 = .ok (.invokevirtual 178, 3) := by decide +kernel
theorem dX10_lift_33 : decode cX10_lift 33 = .ok (.istore_n 1, 1) := by decide +kernel
theorem dX10_lift_34 : decode cX10_lift 34 = .ok (.aload_n 0, 1) := by decide +kernel
theorem dX10_lift_35 : decode cX10_lift 35 = .ok (.getfield 53, 3) := by decide +kernel
theorem dX10_lift_38 : decode cX10_lift 38 = .ok (.iconst 2, 1) := by decide +kernel
theorem dX10_lift_39 : decode cX10_lift 39 = .ok (.iload_n 1, 1) := by decide +kernel
theorem dX10_lift_40 : decode cX10_lift 40 = .ok (.iconst 0, 1) := by decide +kernel
theorem dX10_lift_41 : decode cX10_lift 41 = .ok (.invokevirtual 171, 3) := by decide +kernel
theorem dX10_lift_44 : decode cX10_lift 44 = .ok (.iload_n 1, 1) := by decide +kernel
theorem dX10_lift_45 : decode cX10_lift 45 = .ok (.ireturn, 1) := by decide +kernel
theorem dX10_change_0 : decode cX10_change 0 = .ok (.iload_n 1, 1) := by decide +kernel
theorem dX10_change_1 : decode cX10_change 1 = .ok (.iload_n 2, 1) := by decide +kernel
theorem dX10_change_2 : decode cX10_change 2 = .ok (.if_icmp .eq 25, 3) := by decide +kernel
theorem dX10_change_5 : decode cX10_change 5 = .ok (.aload_n 0, 1) := by decide +kernel
theorem dX10_change_6 : decode cX10_change 6 = .ok (.getfield 53, 3) := by decide +kernel
theorem dX10_change_9 : decode cX10_change 9 = .ok (.iload_n 1, 1) := by decide +kernel
theorem dX10_change_10 : decode cX10_change 10 = .ok (.invokevirtual 182, 3) := by decide +kernel
theorem dX10_change_13 : decode cX10_change 13 = .ok (.ifCond .eq 14, 3) := by decide +kernel
theorem dX10_change_16 : decode cX10_change 16 = .ok (.aload_n 0, 1) := by decide +kernel
theorem dX10_change_17 : decode cX10_change 17 = .ok (.getfield 53, 3) := by decide +kernel
theorem dX10_change_20 : decode cX10_change 20 = .ok (.iload_n 2, 1) := by decide +kernel
theorem dX10_change_21 : decode cX10_change 21 = .ok (.invokevirtual 182, 3) := by decide +kernel
theorem dX10_change_24 : decode cX10_change 24 = .ok (.ifCond .ne 5, 3) := by decide +kernel
theorem dX10_change_27 : decode cX10_change 27 = .ok (.iconst (-1), 1) := by decide +kernel
theorem dX10_change_28 : decode cX10_change 28 = .ok (.ireturn, 1) := by decide +kernel
theorem dX10_change_29 : decode cX10_change 29 = .ok (.aload_n 0, 1) := by decide +kernel
theorem dX10_change_30 : decode cX10_change 30 = .ok (.getfield 53, 3) := by decide +kernel
theorem dX10_change_33 : decode cX10_change 33 = .ok (.invokevirtual 168, 3) := by decide +kernel
theorem dX10_change_36 : decode cX10_change 36 = .ok (.ifCond .eq 6, 3) := by decide +kernel
theorem dX10_change_39 : decode cX10_change 39 = .ok (.bipush (-2), 2) := by decide +kernel
theorem dX10_change_41 : decode cX10_change 41 = .ok (.ireturn, 1) := by decide +kernel
theorem dX10_change_42 : decode cX10_change 42 = .ok (.aload_n 0, 1) := by decide +kernel
theorem dX10_change_43 : decode cX10_change 43 = .ok (.getfield 53, 3) := by decide +kernel
theorem dX10_change_46 : decode cX10_change 46 = .ok (.iconst 3, 1) := by decide +kernel
theorem dX10_change_47 : decode cX10_change 47 = .ok (.iload_n 1, 1) := by decide +kernel
theorem dX10_change_48 : decode cX10_change 48 = .ok (.iload_n 2, 1) := by decide +kernel
theorem dX10_change_49 : decode cX10_change 49 = .ok (.invokevirtual 171, 3) := by decide +kernel
theorem dX10_change_52 : decode cX10_change 52 = .ok (.aload_n 0, 1) := by decide +kernel
theorem dX10_change_53 : decode cX10_change 53 = .ok (.getfield 53, 3) := by decide +kernel
theorem dX10_change_56 : decode cX10_change 56 = .ok (.getfield 185, 3) := by decide +kernel
theorem dX10_change_59 : decode cX10_change 59 = .ok (.iload_n 1, 1) := by decide +kernel
theorem dX10_change_60 : decode cX10_change 60 = .ok (.iaload, 1) := by decide +kernel
theorem dX10_change_61 : decode cX10_change 61 = .ok (.ireturn, 1) := by decide +kernel
theorem dX10_over_0 : decode cX10_over 0 = .ok (.aload_n 0, 1) := by decide +kernel
theorem dX10_over_1 : decode cX10_over 1 = .ok (.iload_n 1, 1) := by decide +kernel
theorem dX10_over_2 : decode cX10_over 2 = .ok (.invokevirtual 137, 3) := by decide +kernel
theorem dX10_over_5 : decode cX10_over 5 = .ok (.ifCond .ne 5, 3) := by decide +kernel
theorem dX10_over_8 : decode cX10_over 8 = .ok (.iconst (-1), 1) := by decide +kernel
theorem dX10_over_9 : decode cX10_over 9 = .ok (.ireturn, 1) := by decide +kernel
theorem dX10_over_10 : decode cX10_over 10 = .ok (.aload_n 0, 1) := by decide +kernel
theorem dX10_over_11 : decode cX10_over 11 = .ok (.getfield 53, 3) := by decide +kernel
theorem dX10_over_14 : decode cX10_over 14 = .ok (.invokevirtual 168, 3) := by decide +kernel
theorem dX10_over_17 : decode cX10_over 17 = .ok (.ifCond .eq 6, 3) := by decide +kernel
theorem dX10_over_20 : decode cX10_over 20 = .ok (.bipush (-2), 2) := by decide +kernel
theorem dX10_over_22 : decode cX10_over 22 = .ok (.ireturn, 1) := by decide +kernel
theorem dX10_over_23 : decode cX10_over 23 = .ok (.aload_n 0, 1) := by decide +kernel
theorem dX10_over_24 : decode cX10_over 24 = .ok (.getfield 53, 3) := by decide +kernel
theorem dX10_over_27 : decode cX10_over 27 = .ok (.iconst 4, 1) := by decide +kernel
theorem dX10_over_28 : decode cX10_over 28 = .ok (.iload_n 1, 1) := by decide +kernel
theorem dX10_over_29 : decode cX10_over 29 = .ok (.iconst 0, 1) := by decide +kernel
theorem dX10_over_30 : decode cX10_over 30 = .ok (.invokevirtual 171, 3) := by decide +kernel
theorem dX10_over_33 : decode cX10_over 33 = .ok (.aload_n 0, 1) := by decide +kernel
theorem dX10_over_34 : decode cX10_over 34 = .ok (.iload_n 1, 1) := by decide +kernel
theorem dX10_over_35 : decode cX10_over 35 = .ok (.invokevirtual 188, 3) := by decide +kernel
theorem dX10_over_38 : decode cX10_over 38 = .ok (.ireturn, 1) := by decide +kernel
theorem dX10_undo_0 : decode cX10_undo 0 = .ok (.iload_n 1, 1) := by decide +kernel
theorem dX10_undo_1 : decode cX10_undo 1 = .ok (.ifCond .lt 14, 3) := by decide +kernel
theorem dX10_undo_4 : decode cX10_undo 4 = .ok (.iload_n 1, 1) := by decide +kernel
theorem dX10_undo_5 : decode cX10_undo 5 = .ok (.aload_n 0, 1) := by decide +kernel
theorem dX10_undo_6 : decode cX10_undo 6 = .ok (.getfield 53, 3) := by decide +kernel
theorem dX10_undo_9 : decode cX10_undo 9 = .ok (.getfield 191, 3) := by decide +kernel
theorem dX10_undo_12 : decode cX10_undo 12 = .ok (.if_icmp .le 5, 3) := by decide +kernel
theorem dX10_undo_15 : decode cX10_undo 15 = .ok (.iconst (-1), 1) := by decide +kernel
theorem dX10_undo_16 : decode cX10_undo 16 = .ok (.ireturn, 1) := by decide +kernel
theorem dX10_undo_17 : decode cX10_undo 17 = .ok (.aload_n 0, 1) := by decide +kernel
theorem dX10_undo_18 : decode cX10_undo 18 = .ok (.getfield 53, 3) := by decide +kernel
theorem dX10_undo_21 : decode cX10_undo 21 = .ok (.getfield 191, 3) := by decide +kernel
theorem dX10_undo_24 : decode cX10_undo 24 = .ok (.iload_n 1, 1) := by decide +kernel
theorem dX10_undo_25 : decode cX10_undo 25 = .ok (.isub, 1) := by decide +kernel
theorem dX10_undo_26 : decode cX10_undo 26 = .ok (.istore_n 2, 1) := by decide +kernel
theorem dX10_undo_27 : decode cX10_undo 27 = .ok (.iconst 0, 1) := by decide +kernel
theorem dX10_undo_28 : decode cX10_undo 28 = .ok (.istore_n 3, 1) := by decide +kernel
theorem dX10_undo_29 : decode cX10_undo 29 = .ok (.iload_n 3, 1) := by decide +kernel
theorem dX10_undo_30 : decode cX10_undo 30 = .ok (.iload_n 2, 1) := by decide +kernel
theorem dX10_undo_31 : decode cX10_undo 31 = .ok (.if_icmp .ge 16, 3) := by decide +kernel
theorem dX10_undo_34 : decode cX10_undo 34 = .ok (.aload_n 0, 1) := by decide +kernel
theorem dX10_undo_35 : decode cX10_undo 35 = .ok (.getfield 53, 3) := by decide +kernel
theorem dX10_undo_38 : decode cX10_undo 38 = .ok (.invokevirtual 194, 3) := by decide +kernel
theorem dX10_undo_41 : decode cX10_undo 41 = .ok (.iinc 3 1, 3) := by decide +kernel
theorem dX10_undo_44 : decode cX10_undo 44 = .ok (.goto (-15), 3) := by decide +kernel
theorem dX10_undo_47 : decode cX10_undo 47 = .ok (.iload_n 2, 1) := by decide +kernel
theorem dX10_undo_48 : decode cX10_undo 48 = .ok (.ireturn, 1) := by decide +kernel
theorem dX10_keep_0 : decode cX10_keep 0 = .ok (.iload_n 1, 1) := by decide +kernel
theorem dX10_keep_1 : decode cX10_keep 1 = .ok (.invokestatic 197, 3) := by decide +kernel
theorem dX10_keep_4 : decode cX10_keep 4 = .ok (.ifCond .ne 5, 3) := by decide +kernel
theorem dX10_keep_7 : decode cX10_keep 7 = .ok (.iconst (-1), 1) := by decide +kernel
theorem dX10_keep_8 : decode cX10_keep 8 = .ok (.ireturn, 1) := by decide +kernel
theorem dX10_keep_9 : decode cX10_keep 9 = .ok (.aload_n 0, 1) := by decide +kernel
theorem dX10_keep_10 : decode cX10_keep 10 = .ok (.getfield 134, 3) := by decide +kernel
theorem dX10_keep_13 : decode cX10_keep 13 = .ok (.ifCond .ne 6, 3) := by decide +kernel
theorem dX10_keep_16 : decode cX10_keep 16 = .ok (.bipush (-4), 2) := by decide +kernel
theorem dX10_keep_18 : decode cX10_keep 18 = .ok (.ireturn, 1) := by decide +kernel
theorem dX10_keep_19 : decode cX10_keep 19 = .ok (.aload_n 0, 1) := by decide +kernel
theorem dX10_keep_20 : decode cX10_keep 20 = .ok (.getfield 57, 3) := by decide +kernel
theorem dX10_keep_23 : decode cX10_keep 23 = .ok (.iload_n 1, 1) := by decide +kernel
theorem dX10_keep_24 : decode cX10_keep 24 = .ok (.aaload, 1) := by decide +kernel
theorem dX10_keep_25 : decode cX10_keep 25 = .ok (.aload_n 0, 1) := by decide +kernel
theorem dX10_keep_26 : decode cX10_keep 26 = .ok (.getfield 53, 3) := by decide +kernel
theorem dX10_keep_29 : decode cX10_keep 29 = .ok (.invokevirtual 200, 3) := by decide +kernel
theorem dX10_keep_32 : decode cX10_keep 32 = .ok (.aload_n 0, 1) := by decide +kernel
theorem dX10_keep_33 : decode cX10_keep 33 = .ok (.getfield 57, 3) := by decide +kernel
theorem dX10_keep_36 : decode cX10_keep 36 = .ok (.iload_n 1, 1) := by decide +kernel
theorem dX10_keep_37 : decode cX10_keep 37 = .ok (.aaload, 1) := by decide +kernel
theorem dX10_keep_38 : decode cX10_keep 38 = .ok (.iconst 1, 1) := by decide +kernel
theorem dX10_keep_39 : decode cX10_keep 39 = .ok (.putfield 130, 3) := by decide +kernel
theorem dX10_keep_42 : decode cX10_keep 42 = .ok (.aload_n 0, 1) := by decide +kernel
theorem dX10_keep_43 : decode cX10_keep 43 = .ok (.getfield 53, 3) := by decide +kernel
theorem dX10_keep_46 : decode cX10_keep 46 = .ok (.getfield 191, 3) := by decide +kernel
theorem dX10_keep_49 : decode cX10_keep 49 = .ok (.ireturn, 1) := by decide +kernel
theorem dX10_on_0 : decode cX10_on 0 = .ok (.iload_n 1, 1) := by decide +kernel
theorem dX10_on_1 : decode cX10_on 1 = .ok (.invokestatic 197, 3) := by decide +kernel
theorem dX10_on_4 : decode cX10_on 4 = .ok (.ifCond .ne 5, 3) := by decide +kernel
theorem dX10_on_7 : decode cX10_on 7 = .ok (.iconst (-1), 1) := by decide +kernel
theorem dX10_on_8 : decode cX10_on 8 = .ok (.ireturn, 1) := by decide +kernel
theorem dX10_on_9 : decode cX10_on 9 = .ok (.aload_n 0, 1) := by decide +kernel
theorem dX10_on_10 : decode cX10_on 10 = .ok (.getfield 57, 3) := by decide +kernel
theorem dX10_on_13 : decode cX10_on 13 = .ok (.iload_n 1, 1) := by decide +kernel
theorem dX10_on_14 : decode cX10_on 14 = .ok (.aaload, 1) := by decide +kernel
theorem dX10_on_15 : decode cX10_on 15 = .ok (.getfield 130, 3) := by decide +kernel
theorem dX10_on_18 : decode cX10_on 18 = .ok (.ifCond .ne 9, 3) := by decide +kernel
theorem dX10_on_21 : decode cX10_on 21 = .ok (.aload_n 0, 1) := by decide +kernel
theorem dX10_on_22 : decode cX10_on 22 = .ok (.iconst 1, 1) := by decide +kernel
theorem dX10_on_23 : decode cX10_on 23 = .ok (.invokevirtual 80, 3) := by decide +kernel
theorem dX10_on_26 : decode cX10_on 26 = .ok (.ireturn, 1) := by decide +kernel
theorem dX10_on_27 : decode cX10_on 27 = .ok (.aload_n 0, 1) := by decide +kernel
theorem dX10_on_28 : decode cX10_on 28 = .ok (.getfield 53, 3) := by decide +kernel
theorem dX10_on_31 : decode cX10_on 31 = .ok (.aload_n 0, 1) := by decide +kernel
theorem dX10_on_32 : decode cX10_on 32 = .ok (.getfield 57, 3) := by decide +kernel
theorem dX10_on_35 : decode cX10_on 35 = .ok (.iload_n 1, 1) := by decide +kernel
theorem dX10_on_36 : decode cX10_on 36 = .ok (.aaload, 1) := by decide +kernel
theorem dX10_on_37 : decode cX10_on 37 = .ok (.invokevirtual 200, 3) := by decide +kernel
theorem dX10_on_40 : decode cX10_on 40 = .ok (.aload_n 0, 1) := by decide +kernel
theorem dX10_on_41 : decode cX10_on 41 = .ok (.getfield 53, 3) := by decide +kernel
theorem dX10_on_44 : decode cX10_on 44 = .ok (.getfield 191, 3) := by decide +kernel
theorem dX10_on_47 : decode cX10_on 47 = .ok (.ireturn, 1) := by decide +kernel
theorem dX10_reads_0 : decode cX10_reads 0 = .ok (.iload_n 1, 1) := by decide +kernel
theorem dX10_reads_1 : decode cX10_reads 1 = .ok (.invokestatic 159, 3) := by decide +kernel
theorem dX10_reads_4 : decode cX10_reads 4 = .ok (.ifCond .ne 5, 3) := by decide +kernel
theorem dX10_reads_7 : decode cX10_reads 7 = .ok (.iconst (-1), 1) := by decide +kernel
theorem dX10_reads_8 : decode cX10_reads 8 = .ok (.ireturn, 1) := by decide +kernel
theorem dX10_reads_9 : decode cX10_reads 9 = .ok (.aload_n 0, 1) := by decide +kernel
theorem dX10_reads_10 : decode cX10_reads 10 = .ok (.aload_n 0, 1) := by decide +kernel
theorem dX10_reads_11 : decode cX10_reads 11 = .ok (.iload_n 1, 1) := by decide +kernel
theorem dX10_reads_12 : decode cX10_reads 12 = .ok (.invokevirtual 204, 3) := by decide +kernel
theorem dX10_reads_15 : decode cX10_reads 15 = .ok (.putfield 95, 3) := by decide +kernel
theorem dX10_reads_18 : decode cX10_reads 18 = .ok (.aload_n 0, 1) := by decide +kernel
theorem dX10_reads_19 : decode cX10_reads 19 = .ok (.iload_n 1, 1) := by decide +kernel
theorem dX10_reads_20 : decode cX10_reads 20 = .ok (.invokevirtual 207, 3) := by decide +kernel
theorem dX10_reads_23 : decode cX10_reads 23 = .ok (.ireturn, 1) := by decide +kernel
theorem dX10_wrong_0 : decode cX10_wrong 0 = .ok (.iconst 0, 1) := by decide +kernel
theorem dX10_wrong_1 : decode cX10_wrong 1 = .ok (.istore_n 1, 1) := by decide +kernel
theorem dX10_wrong_2 : decode cX10_wrong 2 = .ok (.iconst 1, 1) := by decide +kernel
theorem dX10_wrong_3 : decode cX10_wrong 3 = .ok (.istore_n 2, 1) := by decide +kernel
theorem dX10_wrong_4 : decode cX10_wrong 4 = .ok (.iload_n 2, 1) := by decide +kernel
theorem dX10_wrong_5 : decode cX10_wrong 5 = .ok (.bipush 9, 2) := by decide +kernel
theorem dX10_wrong_7 : decode cX10_wrong 7 = .ok (.if_icmp .gt 28, 3) := by decide +kernel
theorem dX10_wrong_10 : decode cX10_wrong 10 = .ok (.aload_n 0, 1) := by decide +kernel
theorem dX10_wrong_11 : decode cX10_wrong 11 = .ok (.iload_n 2, 1) := by decide +kernel
theorem dX10_wrong_12 : decode cX10_wrong 12 = .ok (.invokevirtual 207, 3) := by decide +kernel
theorem dX10_wrong_15 : decode cX10_wrong 15 = .ok (.aload_n 0, 1) := by decide +kernel
theorem dX10_wrong_16 : decode cX10_wrong 16 = .ok (.iload_n 2, 1) := by decide +kernel
theorem dX10_wrong_17 : decode cX10_wrong 17 = .ok (.invokevirtual 204, 3) := by decide +kernel
theorem dX10_wrong_20 : decode cX10_wrong 20 = .ok (.if_icmp .eq 9, 3) := by decide +kernel
theorem dX10_wrong_23 : decode cX10_wrong 23 = .ok (.iload_n 1, 1) := by decide +kernel
theorem dX10_wrong_24 : decode cX10_wrong 24 = .ok (.iconst 1, 1) := by decide +kernel
theorem dX10_wrong_25 : decode cX10_wrong 25 = .ok (.iload_n 2, 1) := by decide +kernel
theorem dX10_wrong_26 : decode cX10_wrong 26 = .ok (.ishl, 1) := by decide +kernel
theorem dX10_wrong_27 : decode cX10_wrong 27 = .ok (.ior, 1) := by decide +kernel
theorem dX10_wrong_28 : decode cX10_wrong 28 = .ok (.istore_n 1, 1) := by decide +kernel
theorem dX10_wrong_29 : decode cX10_wrong 29 = .ok (.iinc 2 1, 3) := by decide +kernel
theorem dX10_wrong_32 : decode cX10_wrong 32 = .ok (.goto (-28), 3) := by decide +kernel
theorem dX10_wrong_35 : decode cX10_wrong 35 = .ok (.iload_n 1, 1) := by decide +kernel
theorem dX10_wrong_36 : decode cX10_wrong 36 = .ok (.ireturn, 1) := by decide +kernel
theorem dX10_carries_0 : decode cX10_carries 0 = .ok (.iload_n 1, 1) := by decide +kernel
theorem dX10_carries_1 : decode cX10_carries 1 = .ok (.invokestatic 159, 3) := by decide +kernel
theorem dX10_carries_4 : decode cX10_carries 4 = .ok (.ifCond .ne 5, 3) := by decide +kernel
theorem dX10_carries_7 : decode cX10_carries 7 = .ok (.iconst (-1), 1) := by decide +kernel
theorem dX10_carries_8 : decode cX10_carries 8 = .ok (.ireturn, 1) := by decide +kernel
theorem dX10_carries_9 : decode cX10_carries 9 = .ok (.iconst 0, 1) := by decide +kernel
theorem dX10_carries_10 : decode cX10_carries 10 = .ok (.istore_n 2, 1) := by decide +kernel
theorem dX10_carries_11 : decode cX10_carries 11 = .ok (.iconst 0, 1) := by decide +kernel
theorem dX10_carries_12 : decode cX10_carries 12 = .ok (.istore_n 3, 1) := by decide +kernel
theorem dX10_carries_13 : decode cX10_carries 13 = .ok (.iconst 0, 1) := by decide +kernel
theorem dX10_carries_14 : decode cX10_carries 14 = .ok (.istore 4, 2) := by decide +kernel
theorem dX10_carries_16 : decode cX10_carries 16 = .ok (.aload_n 0, 1) := by decide +kernel
theorem dX10_carries_17 : decode cX10_carries 17 = .ok (.getfield 53, 3) := by decide +kernel
theorem dX10_carries_20 : decode cX10_carries 20 = .ok (.getfield 175, 3) := by decide +kernel
theorem dX10_carries_23 : decode cX10_carries 23 = .ok (.iconst 1, 1) := by decide +kernel
theorem dX10_carries_24 : decode cX10_carries 24 = .ok (.isub, 1) := by decide +kernel
theorem dX10_carries_25 : decode cX10_carries 25 = .ok (.istore 5, 2) := by decide +kernel
theorem dX10_carries_27 : decode cX10_carries 27 = .ok (.iload 5, 2) := by decide +kernel
theorem dX10_carries_29 : decode cX10_carries 29 = .ok (.ifCond .lt 47, 3) := by decide +kernel
theorem dX10_carries_32 : decode cX10_carries 32 = .ok (.aload_n 0, 1) := by decide +kernel
theorem dX10_carries_33 : decode cX10_carries 33 = .ok (.aload_n 0, 1) := by decide +kernel
theorem dX10_carries_34 : decode cX10_carries 34 = .ok (.getfield 53, 3) := by decide +kernel
theorem dX10_carries_37 : decode cX10_carries 37 = .ok (.getfield 185, 3) := by decide +kernel
theorem dX10_carries_40 : decode cX10_carries 40 = .ok (.iload 5, 2) := by decide +kernel
theorem dX10_carries_42 : decode cX10_carries 42 = .ok (.iaload, 1) := by decide +kernel
theorem dX10_carries_43 : decode cX10_carries 43 = .ok (.iload_n 1, 1) := by decide +kernel
theorem dX10_carries_44 : decode cX10_carries 44 = .ok (.invokevirtual 162, 3) := by decide +kernel
theorem dX10_carries_47 : decode cX10_carries 47 = .ok (.iload 4, 2) := by decide +kernel
theorem dX10_carries_49 : decode cX10_carries 49 = .ok (.iadd, 1) := by decide +kernel
theorem dX10_carries_50 : decode cX10_carries 50 = .ok (.bipush 10, 2) := by decide +kernel
theorem dX10_carries_52 : decode cX10_carries 52 = .ok (.idiv, 1) := by decide +kernel
theorem dX10_carries_53 : decode cX10_carries 53 = .ok (.istore 4, 2) := by decide +kernel
theorem dX10_carries_55 : decode cX10_carries 55 = .ok (.iload 4, 2) := by decide +kernel
theorem dX10_carries_57 : decode cX10_carries 57 = .ok (.ifCond .le 6, 3) := by decide +kernel
theorem dX10_carries_60 : decode cX10_carries 60 = .ok (.iinc 2 1, 3) := by decide +kernel
theorem dX10_carries_63 : decode cX10_carries 63 = .ok (.iload_n 3, 1) := by decide +kernel
theorem dX10_carries_64 : decode cX10_carries 64 = .ok (.iload 4, 2) := by decide +kernel
theorem dX10_carries_66 : decode cX10_carries 66 = .ok (.invokestatic 210, 3) := by decide +kernel
theorem dX10_carries_69 : decode cX10_carries 69 = .ok (.istore_n 3, 1) := by decide +kernel
theorem dX10_carries_70 : decode cX10_carries 70 = .ok (.iinc 5 (-1), 3) := by decide +kernel
theorem dX10_carries_73 : decode cX10_carries 73 = .ok (.goto (-46), 3) := by decide +kernel
theorem dX10_carries_76 : decode cX10_carries 76 = .ok (.aload_n 0, 1) := by decide +kernel
theorem dX10_carries_77 : decode cX10_carries 77 = .ok (.iload_n 3, 1) := by decide +kernel
theorem dX10_carries_78 : decode cX10_carries 78 = .ok (.putfield 95, 3) := by decide +kernel
theorem dX10_carries_81 : decode cX10_carries 81 = .ok (.iload_n 2, 1) := by decide +kernel
theorem dX10_carries_82 : decode cX10_carries 82 = .ok (.ireturn, 1) := by decide +kernel
theorem dX10_makes_0 : decode cX10_makes 0 = .ok (.iload_n 1, 1) := by decide +kernel
theorem dX10_makes_1 : decode cX10_makes 1 = .ok (.ifCond .lt 23, 3) := by decide +kernel
theorem dX10_makes_4 : decode cX10_makes 4 = .ok (.iload_n 1, 1) := by decide +kernel
theorem dX10_makes_5 : decode cX10_makes 5 = .ok (.ldc 215, 2) := by decide +kernel
theorem dX10_makes_7 : decode cX10_makes 7 = .ok (.if_icmp .gt 17, 3) := by decide +kernel
theorem dX10_makes_10 : decode cX10_makes 10 = .ok (.iload_n 2, 1) := by decide +kernel
theorem dX10_makes_11 : decode cX10_makes 11 = .ok (.invokestatic 159, 3) := by decide +kernel
theorem dX10_makes_14 : decode cX10_makes 14 = .ok (.ifCond .eq 10, 3) := by decide +kernel
theorem dX10_makes_17 : decode cX10_makes 17 = .ok (.iload_n 3, 1) := by decide +kernel
theorem dX10_makes_18 : decode cX10_makes 18 = .ok (.invokestatic 76, 3) := by decide +kernel
theorem dX10_makes_21 : decode cX10_makes 21 = .ok (.ifCond .ne 5, 3) := by decide +kernel
theorem dX10_makes_24 : decode cX10_makes 24 = .ok (.iconst (-1), 1) := by decide +kernel
theorem dX10_makes_25 : decode cX10_makes 25 = .ok (.ireturn, 1) := by decide +kernel
theorem dX10_makes_26 : decode cX10_makes 26 = .ok (.aload_n 0, 1) := by decide +kernel
theorem dX10_makes_27 : decode cX10_makes 27 = .ok (.getfield 134, 3) := by decide +kernel
theorem dX10_makes_30 : decode cX10_makes 30 = .ok (.ifCond .ne 6, 3) := by decide +kernel
theorem dX10_makes_33 : decode cX10_makes 33 = .ok (.bipush (-4), 2) := by decide +kernel
theorem dX10_makes_35 : decode cX10_makes 35 = .ok (.ireturn, 1) := by decide +kernel
theorem dX10_makes_36 : decode cX10_makes 36 = .ok (.aload_n 0, 1) := by decide +kernel
theorem dX10_makes_37 : decode cX10_makes 37 = .ok (.iload_n 2, 1) := by decide +kernel
theorem dX10_makes_38 : decode cX10_makes 38 = .ok (.invokevirtual 216, 3) := by decide +kernel
theorem dX10_makes_41 : decode cX10_makes 41 = .ok (.iconst 0, 1) := by decide +kernel
theorem dX10_makes_42 : decode cX10_makes 42 = .ok (.istore 4, 2) := by decide +kernel
theorem dX10_makes_44 : decode cX10_makes 44 = .ok (.iload 4, 2) := by decide +kernel
theorem dX10_makes_46 : decode cX10_makes 46 = .ok (.aload_n 0, 1) := by decide +kernel
theorem dX10_makes_47 : decode cX10_makes 47 = .ok (.getfield 134, 3) := by decide +kernel
theorem dX10_makes_50 : decode cX10_makes 50 = .ok (.if_icmp .gt 44, 3) := by decide +kernel
theorem dX10_makes_53 : decode cX10_makes 53 = .ok (.aload_n 0, 1) := by decide +kernel
theorem dX10_makes_54 : decode cX10_makes 54 = .ok (.getfield 64, 3) := by decide +kernel
theorem dX10_makes_57 : decode cX10_makes 57 = .ok (.iload_n 1, 1) := by decide +kernel
theorem dX10_makes_58 : decode cX10_makes 58 = .ok (.iload 4, 2) := by decide +kernel
theorem dX10_makes_60 : decode cX10_makes 60 = .ok (.iconst 1, 1) := by decide +kernel
theorem dX10_makes_61 : decode cX10_makes 61 = .ok (.invokevirtual 220, 3) := by decide +kernel
theorem dX10_makes_64 : decode cX10_makes 64 = .ok (.ifCond .ne 24, 3) := by decide +kernel
theorem dX10_makes_67 : decode cX10_makes 67 = .ok (.aload_n 0, 1) := by decide +kernel
theorem dX10_makes_68 : decode cX10_makes 68 = .ok (.getfield 11, 3) := by decide +kernel
theorem dX10_makes_71 : decode cX10_makes 71 = .ok (.iload_n 3, 1) := by decide +kernel
theorem dX10_makes_72 : decode cX10_makes 72 = .ok (.aaload, 1) := by decide +kernel
theorem dX10_makes_73 : decode cX10_makes 73 = .ok (.aload_n 0, 1) := by decide +kernel
theorem dX10_makes_74 : decode cX10_makes 74 = .ok (.getfield 64, 3) := by decide +kernel
theorem dX10_makes_77 : decode cX10_makes 77 = .ok (.getfield 224, 3) := by decide +kernel
theorem dX10_makes_80 : decode cX10_makes 80 = .ok (.iload 4, 2) := by decide +kernel
theorem dX10_makes_82 : decode cX10_makes 82 = .ok (.invokevirtual 227, 3) := by decide +kernel
theorem dX10_makes_85 : decode cX10_makes 85 = .ok (.iload 4, 2) := by decide +kernel
theorem dX10_makes_87 : decode cX10_makes 87 = .ok (.ireturn, 1) := by decide +kernel
theorem dX10_makes_88 : decode cX10_makes 88 = .ok (.iinc 4 1, 3) := by decide +kernel
theorem dX10_makes_91 : decode cX10_makes 91 = .ok (.goto (-47), 3) := by decide +kernel
theorem dX10_makes_94 : decode cX10_makes 94 = .ok (.bipush (-9), 2) := by decide +kernel
theorem dX10_makes_96 : decode cX10_makes 96 = .ok (.ireturn, 1) := by decide +kernel
theorem dX10_most_0 : decode cX10_most 0 = .ok (.iload_n 2, 1) := by decide +kernel
theorem dX10_most_1 : decode cX10_most 1 = .ok (.invokestatic 159, 3) := by decide +kernel
theorem dX10_most_4 : decode cX10_most 4 = .ok (.ifCond .eq 10, 3) := by decide +kernel
theorem dX10_most_7 : decode cX10_most 7 = .ok (.iload_n 3, 1) := by decide +kernel
theorem dX10_most_8 : decode cX10_most 8 = .ok (.invokestatic 76, 3) := by decide +kernel
theorem dX10_most_11 : decode cX10_most 11 = .ok (.ifCond .ne 5, 3) := by decide +kernel
theorem dX10_most_14 : decode cX10_most 14 = .ok (.iconst (-1), 1) := by decide +kernel
theorem dX10_most_15 : decode cX10_most 15 = .ok (.ireturn, 1) := by decide +kernel
theorem dX10_most_16 : decode cX10_most 16 = .ok (.aload_n 0, 1) := by decide +kernel
theorem dX10_most_17 : decode cX10_most 17 = .ok (.getfield 134, 3) := by decide +kernel
theorem dX10_most_20 : decode cX10_most 20 = .ok (.ifCond .ne 6, 3) := by decide +kernel
theorem dX10_most_23 : decode cX10_most 23 = .ok (.bipush (-4), 2) := by decide +kernel
theorem dX10_most_25 : decode cX10_most 25 = .ok (.ireturn, 1) := by decide +kernel
theorem dX10_most_26 : decode cX10_most 26 = .ok (.iload_n 1, 1) := by decide +kernel
theorem dX10_most_27 : decode cX10_most 27 = .ok (.iconst 1, 1) := by decide +kernel
theorem dX10_most_28 : decode cX10_most 28 = .ok (.if_icmp .lt 16, 3) := by decide +kernel
theorem dX10_most_31 : decode cX10_most 31 = .ok (.iload_n 1, 1) := by decide +kernel
theorem dX10_most_32 : decode cX10_most 32 = .ok (.iconst 5, 1) := by decide +kernel
theorem dX10_most_33 : decode cX10_most 33 = .ok (.if_icmp .gt 11, 3) := by decide +kernel
theorem dX10_most_36 : decode cX10_most 36 = .ok (.iload_n 1, 1) := by decide +kernel
theorem dX10_most_37 : decode cX10_most 37 = .ok (.aload_n 0, 1) := by decide +kernel
theorem dX10_most_38 : decode cX10_most 38 = .ok (.getfield 134, 3) := by decide +kernel
theorem dX10_most_41 : decode cX10_most 41 = .ok (.if_icmp .le 5, 3) := by decide +kernel
theorem dX10_most_44 : decode cX10_most 44 = .ok (.iconst (-1), 1) := by decide +kernel
theorem dX10_most_45 : decode cX10_most 45 = .ok (.ireturn, 1) := by decide +kernel
theorem dX10_most_46 : decode cX10_most 46 = .ok (.aload_n 0, 1) := by decide +kernel
theorem dX10_most_47 : decode cX10_most 47 = .ok (.iload_n 2, 1) := by decide +kernel
theorem dX10_most_48 : decode cX10_most 48 = .ok (.invokevirtual 216, 3) := by decide +kernel
theorem dX10_most_51 : decode cX10_most 51 = .ok (.ldc 215, 2) := by decide +kernel
theorem dX10_most_53 : decode cX10_most 53 = .ok (.aload_n 0, 1) := by decide +kernel
theorem dX10_most_54 : decode cX10_most 54 = .ok (.getfield 64, 3) := by decide +kernel
theorem dX10_most_57 : decode cX10_most 57 = .ok (.ldc 215, 2) := by decide +kernel
theorem dX10_most_59 : decode cX10_most 59 = .ok (.iload_n 1, 1) := by decide +kernel
theorem dX10_most_60 : decode cX10_most 60 = .ok (.ldc 231, 2) := by decide +kernel
theorem dX10_most_62 : decode cX10_most 62 = .ok (.invokevirtual 220, 3) := by decide +kernel
theorem dX10_most_65 : decode cX10_most 65 = .ok (.isub, 1) := by decide +kernel
theorem dX10_most_66 : decode cX10_most 66 = .ok (.istore 4, 2) := by decide +kernel
theorem dX10_most_68 : decode cX10_most 68 = .ok (.aload_n 0, 1) := by decide +kernel
theorem dX10_most_69 : decode cX10_most 69 = .ok (.getfield 11, 3) := by decide +kernel
theorem dX10_most_72 : decode cX10_most 72 = .ok (.iload_n 3, 1) := by decide +kernel
theorem dX10_most_73 : decode cX10_most 73 = .ok (.aaload, 1) := by decide +kernel
theorem dX10_most_74 : decode cX10_most 74 = .ok (.aload_n 0, 1) := by decide +kernel
theorem dX10_most_75 : decode cX10_most 75 = .ok (.getfield 64, 3) := by decide +kernel
theorem dX10_most_78 : decode cX10_most 78 = .ok (.getfield 224, 3) := by decide +kernel
theorem dX10_most_81 : decode cX10_most 81 = .ok (.iload_n 1, 1) := by decide +kernel
theorem dX10_most_82 : decode cX10_most 82 = .ok (.invokevirtual 227, 3) := by decide +kernel
theorem dX10_most_85 : decode cX10_most 85 = .ok (.iload 4, 2) := by decide +kernel
theorem dX10_most_87 : decode cX10_most 87 = .ok (.ireturn, 1) := by decide +kernel
theorem dX10_near_0 : decode cX10_near 0 = .ok (.iload_n 1, 1) := by decide +kernel
theorem dX10_near_1 : decode cX10_near 1 = .ok (.ifCond .lt 17, 3) := by decide +kernel
theorem dX10_near_4 : decode cX10_near 4 = .ok (.iload_n 1, 1) := by decide +kernel
theorem dX10_near_5 : decode cX10_near 5 = .ok (.sipush 9999, 3) := by decide +kernel
theorem dX10_near_8 : decode cX10_near 8 = .ok (.if_icmp .gt 10, 3) := by decide +kernel
theorem dX10_near_11 : decode cX10_near 11 = .ok (.iload_n 2, 1) := by decide +kernel
theorem dX10_near_12 : decode cX10_near 12 = .ok (.invokestatic 159, 3) := by decide +kernel
theorem dX10_near_15 : decode cX10_near 15 = .ok (.ifCond .ne 5, 3) := by decide +kernel
theorem dX10_near_18 : decode cX10_near 18 = .ok (.iconst (-1), 1) := by decide +kernel
theorem dX10_near_19 : decode cX10_near 19 = .ok (.ireturn, 1) := by decide +kernel
theorem dX10_near_20 : decode cX10_near 20 = .ok (.aload_n 0, 1) := by decide +kernel
theorem dX10_near_21 : decode cX10_near 21 = .ok (.getfield 134, 3) := by decide +kernel
theorem dX10_near_24 : decode cX10_near 24 = .ok (.ifCond .ne 6, 3) := by decide +kernel
theorem dX10_near_27 : decode cX10_near 27 = .ok (.bipush (-4), 2) := by decide +kernel
theorem dX10_near_29 : decode cX10_near 29 = .ok (.ireturn, 1) := by decide +kernel
theorem dX10_near_30 : decode cX10_near 30 = .ok (.aload_n 0, 1) := by decide +kernel
theorem dX10_near_31 : decode cX10_near 31 = .ok (.iload_n 2, 1) := by decide +kernel
theorem dX10_near_32 : decode cX10_near 32 = .ok (.invokevirtual 216, 3) := by decide +kernel
theorem dX10_near_35 : decode cX10_near 35 = .ok (.iconst 3, 1) := by decide +kernel
theorem dX10_near_36 : decode cX10_near 36 = .ok (.aload_n 0, 1) := by decide +kernel
theorem dX10_near_37 : decode cX10_near 37 = .ok (.getfield 134, 3) := by decide +kernel
theorem dX10_near_40 : decode cX10_near 40 = .ok (.invokestatic 232, 3) := by decide +kernel
theorem dX10_near_43 : decode cX10_near 43 = .ok (.istore_n 3, 1) := by decide +kernel
theorem dX10_near_44 : decode cX10_near 44 = .ok (.aload_n 0, 1) := by decide +kernel
theorem dX10_near_45 : decode cX10_near 45 = .ok (.getfield 64, 3) := by decide +kernel
theorem dX10_near_48 : decode cX10_near 48 = .ok (.iload_n 1, 1) := by decide +kernel
theorem dX10_near_49 : decode cX10_near 49 = .ok (.iload_n 3, 1) := by decide +kernel
theorem dX10_near_50 : decode cX10_near 50 = .ok (.ldc 215, 2) := by decide +kernel
theorem dX10_near_52 : decode cX10_near 52 = .ok (.invokevirtual 220, 3) := by decide +kernel
theorem dX10_near_55 : decode cX10_near 55 = .ok (.istore 4, 2) := by decide +kernel
theorem dX10_near_57 : decode cX10_near 57 = .ok (.iconst 0, 1) := by decide +kernel
theorem dX10_near_58 : decode cX10_near 58 = .ok (.istore 5, 2) := by decide +kernel
theorem dX10_near_60 : decode cX10_near 60 = .ok (.iconst 0, 1) := by decide +kernel
theorem dX10_near_61 : decode cX10_near 61 = .ok (.istore 6, 2) := by decide +kernel
theorem dX10_near_63 : decode cX10_near 63 = .ok (.iload 6, 2) := by decide +kernel
theorem dX10_near_65 : decode cX10_near 65 = .ok (.iload_n 3, 1) := by decide +kernel
theorem dX10_near_66 : decode cX10_near 66 = .ok (.if_icmp .ge 27, 3) := by decide +kernel
theorem dX10_near_69 : decode cX10_near 69 = .ok (.bipush 10, 2) := by decide +kernel
theorem dX10_near_71 : decode cX10_near 71 = .ok (.iload 5, 2) := by decide +kernel
theorem dX10_near_73 : decode cX10_near 73 = .ok (.imul, 1) := by decide +kernel
theorem dX10_near_74 : decode cX10_near 74 = .ok (.aload_n 0, 1) := by decide +kernel
theorem dX10_near_75 : decode cX10_near 75 = .ok (.getfield 64, 3) := by decide +kernel
theorem dX10_near_78 : decode cX10_near 78 = .ok (.getfield 224, 3) := by decide +kernel
theorem dX10_near_81 : decode cX10_near 81 = .ok (.iload 6, 2) := by decide +kernel
theorem dX10_near_83 : decode cX10_near 83 = .ok (.iaload, 1) := by decide +kernel
theorem dX10_near_84 : decode cX10_near 84 = .ok (.iadd, 1) := by decide +kernel
theorem dX10_near_85 : decode cX10_near 85 = .ok (.istore 5, 2) := by decide +kernel
theorem dX10_near_87 : decode cX10_near 87 = .ok (.iinc 6 1, 3) := by decide +kernel
theorem dX10_near_90 : decode cX10_near 90 = .ok (.goto (-27), 3) := by decide +kernel
theorem dX10_near_93 : decode cX10_near 93 = .ok (.aload_n 0, 1) := by decide +kernel
theorem dX10_near_94 : decode cX10_near 94 = .ok (.iload 5, 2) := by decide +kernel
theorem dX10_near_96 : decode cX10_near 96 = .ok (.putfield 95, 3) := by decide +kernel
theorem dX10_near_99 : decode cX10_near 99 = .ok (.iload 4, 2) := by decide +kernel
theorem dX10_near_101 : decode cX10_near 101 = .ok (.ireturn, 1) := by decide +kernel
theorem dX10_digits_0 : decode cX10_digits 0 = .ok (.aload_n 0, 1) := by decide +kernel
theorem dX10_digits_1 : decode cX10_digits 1 = .ok (.iload_n 1, 1) := by decide +kernel
theorem dX10_digits_2 : decode cX10_digits 2 = .ok (.invokevirtual 137, 3) := by decide +kernel
theorem dX10_digits_5 : decode cX10_digits 5 = .ok (.ifCond .eq 10, 3) := by decide +kernel
theorem dX10_digits_8 : decode cX10_digits 8 = .ok (.iload_n 2, 1) := by decide +kernel
theorem dX10_digits_9 : decode cX10_digits 9 = .ok (.invokestatic 76, 3) := by decide +kernel
theorem dX10_digits_12 : decode cX10_digits 12 = .ok (.ifCond .ne 5, 3) := by decide +kernel
theorem dX10_digits_15 : decode cX10_digits 15 = .ok (.iconst (-1), 1) := by decide +kernel
theorem dX10_digits_16 : decode cX10_digits 16 = .ok (.ireturn, 1) := by decide +kernel
theorem dX10_digits_17 : decode cX10_digits 17 = .ok (.aload_n 0, 1) := by decide +kernel
theorem dX10_digits_18 : decode cX10_digits 18 = .ok (.getfield 11, 3) := by decide +kernel
theorem dX10_digits_21 : decode cX10_digits 21 = .ok (.iload_n 2, 1) := by decide +kernel
theorem dX10_digits_22 : decode cX10_digits 22 = .ok (.aaload, 1) := by decide +kernel
theorem dX10_digits_23 : decode cX10_digits 23 = .ok (.invokestatic 235, 3) := by decide +kernel
theorem dX10_digits_26 : decode cX10_digits 26 = .ok (.istore_n 3, 1) := by decide +kernel
theorem dX10_digits_27 : decode cX10_digits 27 = .ok (.iload_n 3, 1) := by decide +kernel
theorem dX10_digits_28 : decode cX10_digits 28 = .ok (.ifCond .eq 9, 3) := by decide +kernel
theorem dX10_digits_31 : decode cX10_digits 31 = .ok (.aload_n 0, 1) := by decide +kernel
theorem dX10_digits_32 : decode cX10_digits 32 = .ok (.iload_n 3, 1) := by decide +kernel
theorem dX10_digits_33 : decode cX10_digits 33 = .ok (.invokevirtual 80, 3) := by decide +kernel
theorem dX10_digits_36 : decode cX10_digits 36 = .ok (.ireturn, 1) := by decide +kernel
theorem dX10_digits_37 : decode cX10_digits 37 = .ok (.iconst 0, 1) := by decide +kernel
theorem dX10_digits_38 : decode cX10_digits 38 = .ok (.istore 4, 2) := by decide +kernel
theorem dX10_digits_40 : decode cX10_digits 40 = .ok (.iconst 0, 1) := by decide +kernel
theorem dX10_digits_41 : decode cX10_digits 41 = .ok (.istore 5, 2) := by decide +kernel
theorem dX10_digits_43 : decode cX10_digits 43 = .ok (.iload 5, 2) := by decide +kernel
theorem dX10_digits_45 : decode cX10_digits 45 = .ok (.bipush 10, 2) := by decide +kernel
theorem dX10_digits_47 : decode cX10_digits 47 = .ok (.if_icmp .ge 50, 3) := by decide +kernel
theorem dX10_digits_50 : decode cX10_digits 50 = .ok (.aload_n 0, 1) := by decide +kernel
theorem dX10_digits_51 : decode cX10_digits 51 = .ok (.getfield 43, 3) := by decide +kernel
theorem dX10_digits_54 : decode cX10_digits 54 = .ok (.iload_n 1, 1) := by decide +kernel
theorem dX10_digits_55 : decode cX10_digits 55 = .ok (.aaload, 1) := by decide +kernel
theorem dX10_digits_56 : decode cX10_digits 56 = .ok (.getfield 144, 3) := by decide +kernel
theorem dX10_digits_59 : decode cX10_digits 59 = .ok (.iload 5, 2) := by decide +kernel
theorem dX10_digits_61 : decode cX10_digits 61 = .ok (.aload_n 0, 1) := by decide +kernel
theorem dX10_digits_62 : decode cX10_digits 62 = .ok (.getfield 43, 3) := by decide +kernel
theorem dX10_digits_65 : decode cX10_digits 65 = .ok (.iload_n 1, 1) := by decide +kernel
theorem dX10_digits_66 : decode cX10_digits 66 = .ok (.aaload, 1) := by decide +kernel
theorem dX10_digits_67 : decode cX10_digits 67 = .ok (.getfield 238, 3) := by decide +kernel
theorem dX10_digits_70 : decode cX10_digits 70 = .ok (.aload_n 0, 1) := by decide +kernel
theorem dX10_digits_71 : decode cX10_digits 71 = .ok (.getfield 11, 3) := by decide +kernel
theorem dX10_digits_74 : decode cX10_digits 74 = .ok (.iload_n 2, 1) := by decide +kernel
theorem dX10_digits_75 : decode cX10_digits 75 = .ok (.aaload, 1) := by decide +kernel
theorem dX10_digits_76 : decode cX10_digits 76 = .ok (.invokestatic 241, 3) := by decide +kernel
theorem dX10_digits_79 : decode cX10_digits 79 = .ok (.ifCond .eq 12, 3) := by decide +kernel
theorem dX10_digits_82 : decode cX10_digits 82 = .ok (.iload 4, 2) := by decide +kernel
theorem dX10_digits_84 : decode cX10_digits 84 = .ok (.iconst 1, 1) := by decide +kernel
theorem dX10_digits_85 : decode cX10_digits 85 = .ok (.iload 5, 2) := by decide +kernel
theorem dX10_digits_87 : decode cX10_digits 87 = .ok (.ishl, 1) := by decide +kernel
theorem dX10_digits_88 : decode cX10_digits 88 = .ok (.ior, 1) := by decide +kernel
theorem dX10_digits_89 : decode cX10_digits 89 = .ok (.istore 4, 2) := by decide +kernel
theorem dX10_digits_91 : decode cX10_digits 91 = .ok (.iinc 5 1, 3) := by decide +kernel
theorem dX10_digits_94 : decode cX10_digits 94 = .ok (.goto (-51), 3) := by decide +kernel
theorem dX10_digits_97 : decode cX10_digits 97 = .ok (.iload 4, 2) := by decide +kernel
theorem dX10_digits_99 : decode cX10_digits 99 = .ok (.ireturn, 1) := by decide +kernel
theorem dX10_kinds_0 : decode cX10_kinds 0 = .ok (.aload_n 0, 1) := by decide +kernel
theorem dX10_kinds_1 : decode cX10_kinds 1 = .ok (.iload_n 1, 1) := by decide +kernel
theorem dX10_kinds_2 : decode cX10_kinds 2 = .ok (.invokevirtual 137, 3) := by decide +kernel
theorem dX10_kinds_5 : decode cX10_kinds 5 = .ok (.ifCond .eq 10, 3) := by decide +kernel
theorem dX10_kinds_8 : decode cX10_kinds 8 = .ok (.iload_n 2, 1) := by decide +kernel
theorem dX10_kinds_9 : decode cX10_kinds 9 = .ok (.invokestatic 76, 3) := by decide +kernel
theorem dX10_kinds_12 : decode cX10_kinds 12 = .ok (.ifCond .ne 5, 3) := by decide +kernel
theorem dX10_kinds_15 : decode cX10_kinds 15 = .ok (.iconst (-1), 1) := by decide +kernel
theorem dX10_kinds_16 : decode cX10_kinds 16 = .ok (.ireturn, 1) := by decide +kernel
theorem dX10_kinds_17 : decode cX10_kinds 17 = .ok (.aload_n 0, 1) := by decide +kernel
theorem dX10_kinds_18 : decode cX10_kinds 18 = .ok (.getfield 11, 3) := by decide +kernel
theorem dX10_kinds_21 : decode cX10_kinds 21 = .ok (.iload_n 2, 1) := by decide +kernel
theorem dX10_kinds_22 : decode cX10_kinds 22 = .ok (.aaload, 1) := by decide +kernel
theorem dX10_kinds_23 : decode cX10_kinds 23 = .ok (.invokestatic 235, 3) := by decide +kernel
theorem dX10_kinds_26 : decode cX10_kinds 26 = .ok (.istore_n 3, 1) := by decide +kernel
theorem dX10_kinds_27 : decode cX10_kinds 27 = .ok (.iload_n 3, 1) := by decide +kernel
theorem dX10_kinds_28 : decode cX10_kinds 28 = .ok (.ifCond .eq 9, 3) := by decide +kernel
theorem dX10_kinds_31 : decode cX10_kinds 31 = .ok (.aload_n 0, 1) := by decide +kernel
theorem dX10_kinds_32 : decode cX10_kinds 32 = .ok (.iload_n 3, 1) := by decide +kernel
theorem dX10_kinds_33 : decode cX10_kinds 33 = .ok (.invokevirtual 80, 3) := by decide +kernel
theorem dX10_kinds_36 : decode cX10_kinds 36 = .ok (.ireturn, 1) := by decide +kernel
theorem dX10_kinds_37 : decode cX10_kinds 37 = .ok (.aload_n 0, 1) := by decide +kernel
theorem dX10_kinds_38 : decode cX10_kinds 38 = .ok (.iload_n 1, 1) := by decide +kernel
theorem dX10_kinds_39 : decode cX10_kinds 39 = .ok (.aload_n 0, 1) := by decide +kernel
theorem dX10_kinds_40 : decode cX10_kinds 40 = .ok (.getfield 11, 3) := by decide +kernel
theorem dX10_kinds_43 : decode cX10_kinds 43 = .ok (.iload_n 2, 1) := by decide +kernel
theorem dX10_kinds_44 : decode cX10_kinds 44 = .ok (.aaload, 1) := by decide +kernel
theorem dX10_kinds_45 : decode cX10_kinds 45 = .ok (.invokevirtual 245, 3) := by decide +kernel
theorem dX10_kinds_48 : decode cX10_kinds 48 = .ok (.ireturn, 1) := by decide +kernel
theorem dX10_test_0 : decode cX10_test 0 = .ok (.aload_n 0, 1) := by decide +kernel
theorem dX10_test_1 : decode cX10_test 1 = .ok (.iload_n 1, 1) := by decide +kernel
theorem dX10_test_2 : decode cX10_test 2 = .ok (.invokevirtual 137, 3) := by decide +kernel
theorem dX10_test_5 : decode cX10_test 5 = .ok (.ifCond .eq 10, 3) := by decide +kernel
theorem dX10_test_8 : decode cX10_test 8 = .ok (.iload_n 2, 1) := by decide +kernel
theorem dX10_test_9 : decode cX10_test 9 = .ok (.invokestatic 76, 3) := by decide +kernel
theorem dX10_test_12 : decode cX10_test 12 = .ok (.ifCond .ne 5, 3) := by decide +kernel
theorem dX10_test_15 : decode cX10_test 15 = .ok (.iconst (-1), 1) := by decide +kernel
theorem dX10_test_16 : decode cX10_test 16 = .ok (.ireturn, 1) := by decide +kernel
theorem dX10_test_17 : decode cX10_test 17 = .ok (.aload_n 0, 1) := by decide +kernel
theorem dX10_test_18 : decode cX10_test 18 = .ok (.getfield 11, 3) := by decide +kernel
theorem dX10_test_21 : decode cX10_test 21 = .ok (.iload_n 2, 1) := by decide +kernel
theorem dX10_test_22 : decode cX10_test 22 = .ok (.aaload, 1) := by decide +kernel
theorem dX10_test_23 : decode cX10_test 23 = .ok (.invokestatic 235, 3) := by decide +kernel
theorem dX10_test_26 : decode cX10_test 26 = .ok (.istore_n 3, 1) := by decide +kernel
theorem dX10_test_27 : decode cX10_test 27 = .ok (.iload_n 3, 1) := by decide +kernel
theorem dX10_test_28 : decode cX10_test 28 = .ok (.ifCond .eq 9, 3) := by decide +kernel
theorem dX10_test_31 : decode cX10_test 31 = .ok (.aload_n 0, 1) := by decide +kernel
theorem dX10_test_32 : decode cX10_test 32 = .ok (.iload_n 3, 1) := by decide +kernel
theorem dX10_test_33 : decode cX10_test 33 = .ok (.invokevirtual 80, 3) := by decide +kernel
theorem dX10_test_36 : decode cX10_test 36 = .ok (.ireturn, 1) := by decide +kernel
theorem dX10_test_37 : decode cX10_test 37 = .ok (.aload_n 0, 1) := by decide +kernel
theorem dX10_test_38 : decode cX10_test 38 = .ok (.iload_n 1, 1) := by decide +kernel
theorem dX10_test_39 : decode cX10_test 39 = .ok (.aload_n 0, 1) := by decide +kernel
theorem dX10_test_40 : decode cX10_test 40 = .ok (.getfield 11, 3) := by decide +kernel
theorem dX10_test_43 : decode cX10_test 43 = .ok (.iload_n 2, 1) := by decide +kernel
theorem dX10_test_44 : decode cX10_test 44 = .ok (.aaload, 1) := by decide +kernel
theorem dX10_test_45 : decode cX10_test 45 = .ok (.invokevirtual 245, 3) := by decide +kernel
theorem dX10_test_48 : decode cX10_test 48 = .ok (.istore 4, 2) := by decide +kernel
theorem dX10_test_50 : decode cX10_test 50 = .ok (.iload 4, 2) := by decide +kernel
theorem dX10_test_52 : decode cX10_test 52 = .ok (.ifCond .ne 6, 3) := by decide +kernel
theorem dX10_test_55 : decode cX10_test 55 = .ok (.bipush (-9), 2) := by decide +kernel
theorem dX10_test_57 : decode cX10_test 57 = .ok (.ireturn, 1) := by decide +kernel
theorem dX10_test_58 : decode cX10_test 58 = .ok (.iconst 1, 1) := by decide +kernel
theorem dX10_test_59 : decode cX10_test 59 = .ok (.istore 5, 2) := by decide +kernel
theorem dX10_test_61 : decode cX10_test 61 = .ok (.aload_n 0, 1) := by decide +kernel
theorem dX10_test_62 : decode cX10_test 62 = .ok (.iload_n 1, 1) := by decide +kernel
theorem dX10_test_63 : decode cX10_test 63 = .ok (.iload 4, 2) := by decide +kernel
theorem dX10_test_65 : decode cX10_test 65 = .ok (.iconst 1, 1) := by decide +kernel
theorem dX10_test_66 : decode cX10_test 66 = .ok (.invokevirtual 249, 3) := by decide +kernel
theorem dX10_test_69 : decode cX10_test 69 = .ok (.istore 6, 2) := by decide +kernel
theorem dX10_test_71 : decode cX10_test 71 = .ok (.iconst 2, 1) := by decide +kernel
theorem dX10_test_72 : decode cX10_test 72 = .ok (.istore 7, 2) := by decide +kernel
theorem dX10_test_74 : decode cX10_test 74 = .ok (.iload 7, 2) := by decide +kernel
theorem dX10_test_76 : decode cX10_test 76 = .ok (.bipush 9, 2) := by decide +kernel
theorem dX10_test_78 : decode cX10_test 78 = .ok (.if_icmp .gt 35, 3) := by decide +kernel
theorem dX10_test_81 : decode cX10_test 81 = .ok (.aload_n 0, 1) := by decide +kernel
theorem dX10_test_82 : decode cX10_test 82 = .ok (.iload_n 1, 1) := by decide +kernel
theorem dX10_test_83 : decode cX10_test 83 = .ok (.iload 4, 2) := by decide +kernel
theorem dX10_test_85 : decode cX10_test 85 = .ok (.iload 7, 2) := by decide +kernel
theorem dX10_test_87 : decode cX10_test 87 = .ok (.invokevirtual 249, 3) := by decide +kernel
theorem dX10_test_90 : decode cX10_test 90 = .ok (.istore 8, 2) := by decide +kernel
theorem dX10_test_92 : decode cX10_test 92 = .ok (.iload 8, 2) := by decide +kernel
theorem dX10_test_94 : decode cX10_test 94 = .ok (.iload 6, 2) := by decide +kernel
theorem dX10_test_96 : decode cX10_test 96 = .ok (.if_icmp .ge 11, 3) := by decide +kernel
theorem dX10_test_99 : decode cX10_test 99 = .ok (.iload 8, 2) := by decide +kernel
theorem dX10_test_101 : decode cX10_test 101 = .ok (.istore 6, 2) := by decide +kernel
theorem dX10_test_103 : decode cX10_test 103 = .ok (.iload 7, 2) := by decide +kernel
theorem dX10_test_105 : decode cX10_test 105 = .ok (.istore 5, 2) := by decide +kernel
theorem dX10_test_107 : decode cX10_test 107 = .ok (.iinc 7 1, 3) := by decide +kernel
theorem dX10_test_110 : decode cX10_test 110 = .ok (.goto (-36), 3) := by decide +kernel
theorem dX10_test_113 : decode cX10_test 113 = .ok (.aload_n 0, 1) := by decide +kernel
theorem dX10_test_114 : decode cX10_test 114 = .ok (.iload 6, 2) := by decide +kernel
theorem dX10_test_116 : decode cX10_test 116 = .ok (.putfield 95, 3) := by decide +kernel
theorem dX10_test_119 : decode cX10_test 119 = .ok (.iload 5, 2) := by decide +kernel
theorem dX10_test_121 : decode cX10_test 121 = .ok (.ireturn, 1) := by decide +kernel
theorem dX10_other_0 : decode cX10_other 0 = .ok (.iload_n 1, 1) := by decide +kernel
theorem dX10_other_1 : decode cX10_other 1 = .ok (.invokestatic 76, 3) := by decide +kernel
theorem dX10_other_4 : decode cX10_other 4 = .ok (.ifCond .ne 5, 3) := by decide +kernel
theorem dX10_other_7 : decode cX10_other 7 = .ok (.iconst (-1), 1) := by decide +kernel
theorem dX10_other_8 : decode cX10_other 8 = .ok (.ireturn, 1) := by decide +kernel
theorem dX10_other_9 : decode cX10_other 9 = .ok (.aload_n 0, 1) := by decide +kernel
theorem dX10_other_10 : decode cX10_other 10 = .ok (.getfield 11, 3) := by decide +kernel
theorem dX10_other_13 : decode cX10_other 13 = .ok (.iload_n 1, 1) := by decide +kernel
theorem dX10_other_14 : decode cX10_other 14 = .ok (.aaload, 1) := by decide +kernel
theorem dX10_other_15 : decode cX10_other 15 = .ok (.invokestatic 235, 3) := by decide +kernel
theorem dX10_other_18 : decode cX10_other 18 = .ok (.istore_n 2, 1) := by decide +kernel
theorem dX10_other_19 : decode cX10_other 19 = .ok (.iload_n 2, 1) := by decide +kernel
theorem dX10_other_20 : decode cX10_other 20 = .ok (.ifCond .eq 9, 3) := by decide +kernel
theorem dX10_other_23 : decode cX10_other 23 = .ok (.aload_n 0, 1) := by decide +kernel
theorem dX10_other_24 : decode cX10_other 24 = .ok (.iload_n 2, 1) := by decide +kernel
theorem dX10_other_25 : decode cX10_other 25 = .ok (.invokevirtual 80, 3) := by decide +kernel
theorem dX10_other_28 : decode cX10_other 28 = .ok (.ireturn, 1) := by decide +kernel
theorem dX10_other_29 : decode cX10_other 29 = .ok (.iconst 0, 1) := by decide +kernel
theorem dX10_other_30 : decode cX10_other 30 = .ok (.istore_n 3, 1) := by decide +kernel
theorem dX10_other_31 : decode cX10_other 31 = .ok (.iconst 0, 1) := by decide +kernel
theorem dX10_other_32 : decode cX10_other 32 = .ok (.istore 4, 2) := by decide +kernel
theorem dX10_other_34 : decode cX10_other 34 = .ok (.iconst 0, 1) := by decide +kernel
theorem dX10_other_35 : decode cX10_other 35 = .ok (.istore 5, 2) := by decide +kernel
theorem dX10_other_37 : decode cX10_other 37 = .ok (.iload 5, 2) := by decide +kernel
theorem dX10_other_39 : decode cX10_other 39 = .ok (.aload_n 0, 1) := by decide +kernel
theorem dX10_other_40 : decode cX10_other 40 = .ok (.getfield 53, 3) := by decide +kernel
theorem dX10_other_43 : decode cX10_other 43 = .ok (.getfield 175, 3) := by decide +kernel
theorem dX10_other_46 : decode cX10_other 46 = .ok (.if_icmp .ge 78, 3) := by decide +kernel
theorem dX10_other_49 : decode cX10_other 49 = .ok (.iconst 0, 1) := by decide +kernel
theorem dX10_other_50 : decode cX10_other 50 = .ok (.istore 6, 2) := by decide +kernel
theorem dX10_other_52 : decode cX10_other 52 = .ok (.iload 6, 2) := by decide +kernel
theorem dX10_other_54 : decode cX10_other 54 = .ok (.bipush 10, 2) := by decide +kernel
theorem dX10_other_56 : decode cX10_other 56 = .ok (.if_icmp .ge 62, 3) := by decide +kernel
theorem dX10_other_59 : decode cX10_other 59 = .ok (.iload 6, 2) := by decide +kernel
theorem dX10_other_61 : decode cX10_other 61 = .ok (.aload_n 0, 1) := by decide +kernel
theorem dX10_other_62 : decode cX10_other 62 = .ok (.aload_n 0, 1) := by decide +kernel
theorem dX10_other_63 : decode cX10_other 63 = .ok (.getfield 53, 3) := by decide +kernel
theorem dX10_other_66 : decode cX10_other 66 = .ok (.getfield 185, 3) := by decide +kernel
theorem dX10_other_69 : decode cX10_other 69 = .ok (.iload 5, 2) := by decide +kernel
theorem dX10_other_71 : decode cX10_other 71 = .ok (.iaload, 1) := by decide +kernel
theorem dX10_other_72 : decode cX10_other 72 = .ok (.invokevirtual 188, 3) := by decide +kernel
theorem dX10_other_75 : decode cX10_other 75 = .ok (.if_icmp .eq 37, 3) := by decide +kernel
theorem dX10_other_78 : decode cX10_other 78 = .ok (.aload_n 0, 1) := by decide +kernel
theorem dX10_other_79 : decode cX10_other 79 = .ok (.iload 5, 2) := by decide +kernel
theorem dX10_other_81 : decode cX10_other 81 = .ok (.iload 6, 2) := by decide +kernel
theorem dX10_other_83 : decode cX10_other 83 = .ok (.aload_n 0, 1) := by decide +kernel
theorem dX10_other_84 : decode cX10_other 84 = .ok (.getfield 11, 3) := by decide +kernel
theorem dX10_other_87 : decode cX10_other 87 = .ok (.iload_n 1, 1) := by decide +kernel
theorem dX10_other_88 : decode cX10_other 88 = .ok (.aaload, 1) := by decide +kernel
theorem dX10_other_89 : decode cX10_other 89 = .ok (.invokevirtual 252, 3) := by decide +kernel
theorem dX10_other_92 : decode cX10_other 92 = .ok (.ifCond .eq 20, 3) := by decide +kernel
theorem dX10_other_95 : decode cX10_other 95 = .ok (.iload_n 3, 1) := by decide +kernel
theorem dX10_other_96 : decode cX10_other 96 = .ok (.ifCond .ne 13, 3) := by decide +kernel
theorem dX10_other_99 : decode cX10_other 99 = .ok (.bipush 10, 2) := by decide +kernel
theorem dX10_other_101 : decode cX10_other 101 = .ok (.iload 5, 2) := by decide +kernel
theorem dX10_other_103 : decode cX10_other 103 = .ok (.imul, 1) := by decide +kernel
theorem dX10_other_104 : decode cX10_other 104 = .ok (.iload 6, 2) := by decide +kernel
theorem dX10_other_106 : decode cX10_other 106 = .ok (.iadd, 1) := by decide +kernel
theorem dX10_other_107 : decode cX10_other 107 = .ok (.istore 4, 2) := by decide +kernel
theorem dX10_other_109 : decode cX10_other 109 = .ok (.iinc 3 1, 3) := by decide +kernel
theorem dX10_other_112 : decode cX10_other 112 = .ok (.iinc 6 1, 3) := by decide +kernel
theorem dX10_other_115 : decode cX10_other 115 = .ok (.goto (-63), 3) := by decide +kernel
theorem dX10_other_118 : decode cX10_other 118 = .ok (.iinc 5 1, 3) := by decide +kernel
theorem dX10_other_121 : decode cX10_other 121 = .ok (.goto (-84), 3) := by decide +kernel
theorem dX10_other_124 : decode cX10_other 124 = .ok (.iload_n 3, 1) := by decide +kernel
theorem dX10_other_125 : decode cX10_other 125 = .ok (.ifCond .ne 6, 3) := by decide +kernel
theorem dX10_other_128 : decode cX10_other 128 = .ok (.bipush (-9), 2) := by decide +kernel
theorem dX10_other_130 : decode cX10_other 130 = .ok (.ireturn, 1) := by decide +kernel
theorem dX10_other_131 : decode cX10_other 131 = .ok (.aload_n 0, 1) := by decide +kernel
theorem dX10_other_132 : decode cX10_other 132 = .ok (.iload 4, 2) := by decide +kernel
theorem dX10_other_134 : decode cX10_other 134 = .ok (.putfield 95, 3) := by decide +kernel
theorem dX10_other_137 : decode cX10_other 137 = .ok (.iload_n 3, 1) := by decide +kernel
theorem dX10_other_138 : decode cX10_other 138 = .ok (.ireturn, 1) := by decide +kernel
theorem dX10_duel_0 : decode cX10_duel 0 = .ok (.iload_n 1, 1) := by decide +kernel
theorem dX10_duel_1 : decode cX10_duel 1 = .ok (.ifCond .lt 15, 3) := by decide +kernel
theorem dX10_duel_4 : decode cX10_duel 4 = .ok (.iload_n 1, 1) := by decide +kernel
theorem dX10_duel_5 : decode cX10_duel 5 = .ok (.iconst 5, 1) := by decide +kernel
theorem dX10_duel_6 : decode cX10_duel 6 = .ok (.if_icmp .gt 10, 3) := by decide +kernel
theorem dX10_duel_9 : decode cX10_duel 9 = .ok (.iload_n 2, 1) := by decide +kernel
theorem dX10_duel_10 : decode cX10_duel 10 = .ok (.invokestatic 159, 3) := by decide +kernel
theorem dX10_duel_13 : decode cX10_duel 13 = .ok (.ifCond .ne 5, 3) := by decide +kernel
theorem dX10_duel_16 : decode cX10_duel 16 = .ok (.iconst (-1), 1) := by decide +kernel
theorem dX10_duel_17 : decode cX10_duel 17 = .ok (.ireturn, 1) := by decide +kernel
theorem dX10_duel_18 : decode cX10_duel 18 = .ok (.aload_n 0, 1) := by decide +kernel
theorem dX10_duel_19 : decode cX10_duel 19 = .ok (.getfield 134, 3) := by decide +kernel
theorem dX10_duel_22 : decode cX10_duel 22 = .ok (.ifCond .ne 6, 3) := by decide +kernel
theorem dX10_duel_25 : decode cX10_duel 25 = .ok (.bipush (-4), 2) := by decide +kernel
theorem dX10_duel_27 : decode cX10_duel 27 = .ok (.ireturn, 1) := by decide +kernel
theorem dX10_duel_28 : decode cX10_duel 28 = .ok (.aload_n 0, 1) := by decide +kernel
theorem dX10_duel_29 : decode cX10_duel 29 = .ok (.iload_n 2, 1) := by decide +kernel
theorem dX10_duel_30 : decode cX10_duel 30 = .ok (.invokevirtual 216, 3) := by decide +kernel
theorem dX10_duel_33 : decode cX10_duel 33 = .ok (.aload_n 0, 1) := by decide +kernel
theorem dX10_duel_34 : decode cX10_duel 34 = .ok (.getfield 64, 3) := by decide +kernel
theorem dX10_duel_37 : decode cX10_duel 37 = .ok (.iload_n 1, 1) := by decide +kernel
theorem dX10_duel_38 : decode cX10_duel 38 = .ok (.aload_n 0, 1) := by decide +kernel
theorem dX10_duel_39 : decode cX10_duel 39 = .ok (.getfield 53, 3) := by decide +kernel
theorem dX10_duel_42 : decode cX10_duel 42 = .ok (.invokevirtual 256, 3) := by decide +kernel
theorem dX10_duel_45 : decode cX10_duel 45 = .ok (.aload_n 0, 1) := by decide +kernel
theorem dX10_duel_46 : decode cX10_duel 46 = .ok (.iload_n 2, 1) := by decide +kernel
theorem dX10_duel_47 : decode cX10_duel 47 = .ok (.invokevirtual 207, 3) := by decide +kernel
theorem dX10_duel_50 : decode cX10_duel 50 = .ok (.iconst 1, 1) := by decide +kernel
theorem dX10_duel_51 : decode cX10_duel 51 = .ok (.invokevirtual 259, 3) := by decide +kernel
theorem dX10_duel_54 : decode cX10_duel 54 = .ok (.ireturn, 1) := by decide +kernel
theorem dX10_odds_0 : decode cX10_odds 0 = .ok (.iload_n 1, 1) := by decide +kernel
theorem dX10_odds_1 : decode cX10_odds 1 = .ok (.invokestatic 159, 3) := by decide +kernel
theorem dX10_odds_4 : decode cX10_odds 4 = .ok (.ifCond .eq 10, 3) := by decide +kernel
theorem dX10_odds_7 : decode cX10_odds 7 = .ok (.iload_n 2, 1) := by decide +kernel
theorem dX10_odds_8 : decode cX10_odds 8 = .ok (.invokestatic 263, 3) := by decide +kernel
theorem dX10_odds_11 : decode cX10_odds 11 = .ok (.ifCond .ne 5, 3) := by decide +kernel
theorem dX10_odds_14 : decode cX10_odds 14 = .ok (.iconst (-1), 1) := by decide +kernel
theorem dX10_odds_15 : decode cX10_odds 15 = .ok (.ireturn, 1) := by decide +kernel
theorem dX10_odds_16 : decode cX10_odds 16 = .ok (.aload_n 0, 1) := by decide +kernel
theorem dX10_odds_17 : decode cX10_odds 17 = .ok (.getfield 134, 3) := by decide +kernel
theorem dX10_odds_20 : decode cX10_odds 20 = .ok (.ifCond .ne 6, 3) := by decide +kernel
theorem dX10_odds_23 : decode cX10_odds 23 = .ok (.bipush (-4), 2) := by decide +kernel
theorem dX10_odds_25 : decode cX10_odds 25 = .ok (.ireturn, 1) := by decide +kernel
theorem dX10_odds_26 : decode cX10_odds 26 = .ok (.aload_n 0, 1) := by decide +kernel
theorem dX10_odds_27 : decode cX10_odds 27 = .ok (.iload_n 1, 1) := by decide +kernel
theorem dX10_odds_28 : decode cX10_odds 28 = .ok (.invokevirtual 204, 3) := by decide +kernel
theorem dX10_odds_31 : decode cX10_odds 31 = .ok (.istore_n 3, 1) := by decide +kernel
theorem dX10_odds_32 : decode cX10_odds 32 = .ok (.lconst 0, 1) := by decide +kernel
theorem dX10_odds_33 : decode cX10_odds 33 = .ok (.lstore 4, 2) := by decide +kernel
theorem dX10_odds_35 : decode cX10_odds 35 = .ok (.iconst 0, 1) := by decide +kernel
theorem dX10_odds_36 : decode cX10_odds 36 = .ok (.istore 6, 2) := by decide +kernel
theorem dX10_odds_38 : decode cX10_odds 38 = .ok (.iload 6, 2) := by decide +kernel
theorem dX10_odds_40 : decode cX10_odds 40 = .ok (.iconst 1, 1) := by decide +kernel
theorem dX10_odds_41 : decode cX10_odds 41 = .ok (.aload_n 0, 1) := by decide +kernel
theorem dX10_odds_42 : decode cX10_odds 42 = .ok (.getfield 53, 3) := by decide +kernel
theorem dX10_odds_45 : decode cX10_odds 45 = .ok (.getfield 175, 3) := by decide +kernel
theorem dX10_odds_48 : decode cX10_odds 48 = .ok (.ishl, 1) := by decide +kernel
theorem dX10_odds_49 : decode cX10_odds 49 = .ok (.if_icmp .ge 34, 3) := by decide +kernel
theorem dX10_odds_52 : decode cX10_odds 52 = .ok (.iconst 2, 1) := by decide +kernel
theorem dX10_odds_53 : decode cX10_odds 53 = .ok (.aload_n 0, 1) := by decide +kernel
theorem dX10_odds_54 : decode cX10_odds 54 = .ok (.iload_n 1, 1) := by decide +kernel
theorem dX10_odds_55 : decode cX10_odds 55 = .ok (.iload 6, 2) := by decide +kernel
theorem dX10_odds_57 : decode cX10_odds 57 = .ok (.invokevirtual 266, 3) := by decide +kernel
theorem dX10_odds_60 : decode cX10_odds 60 = .ok (.imul, 1) := by decide +kernel
theorem dX10_odds_61 : decode cX10_odds 61 = .ok (.iload_n 3, 1) := by decide +kernel
end
section
theorem dX10_odds_62 : decode cX10_odds 62 = .ok (.if_icmp .lt 15, 3) := by decide +kernel
theorem dX10_odds_65 : decode cX10_odds 65 = .ok (.lload 4, 2) := by decide +kernel
theorem dX10_odds_67 : decode cX10_odds 67 = .ok (.aload_n 0, 1) := by decide +kernel
theorem dX10_odds_68 : decode cX10_odds 68 = .ok (.iload 6, 2) := by decide +kernel
theorem dX10_odds_70 : decode cX10_odds 70 = .ok (.iload_n 2, 1) := by decide +kernel
theorem dX10_odds_71 : decode cX10_odds 71 = .ok (.invokevirtual 269, 3) := by decide +kernel
theorem dX10_odds_74 : decode cX10_odds 74 = .ok (.ladd, 1) := by decide +kernel
theorem dX10_odds_75 : decode cX10_odds 75 = .ok (.lstore 4, 2) := by decide +kernel
theorem dX10_odds_77 : decode cX10_odds 77 = .ok (.iinc 6 1, 3) := by decide +kernel
theorem dX10_odds_80 : decode cX10_odds 80 = .ok (.goto (-42), 3) := by decide +kernel
theorem dX10_odds_83 : decode cX10_odds 83 = .ok (.lconst 1, 1) := by decide +kernel
theorem dX10_odds_84 : decode cX10_odds 84 = .ok (.lstore 6, 2) := by decide +kernel
theorem dX10_odds_86 : decode cX10_odds 86 = .ok (.iconst 0, 1) := by decide +kernel
theorem dX10_odds_87 : decode cX10_odds 87 = .ok (.istore 8, 2) := by decide +kernel
theorem dX10_odds_89 : decode cX10_odds 89 = .ok (.iload 8, 2) := by decide +kernel
theorem dX10_odds_91 : decode cX10_odds 91 = .ok (.aload_n 0, 1) := by decide +kernel
theorem dX10_odds_92 : decode cX10_odds 92 = .ok (.getfield 53, 3) := by decide +kernel
theorem dX10_odds_95 : decode cX10_odds 95 = .ok (.getfield 175, 3) := by decide +kernel
theorem dX10_odds_98 : decode cX10_odds 98 = .ok (.if_icmp .ge 17, 3) := by decide +kernel
theorem dX10_odds_101 : decode cX10_odds 101 = .ok (.lload 6, 2) := by decide +kernel
theorem dX10_odds_103 : decode cX10_odds 103 = .ok (.ldc2_w 273, 3) := by decide +kernel
theorem dX10_odds_106 : decode cX10_odds 106 = .ok (.lmul, 1) := by decide +kernel
theorem dX10_odds_107 : decode cX10_odds 107 = .ok (.lstore 6, 2) := by decide +kernel
theorem dX10_odds_109 : decode cX10_odds 109 = .ok (.iinc 8 1, 3) := by decide +kernel
theorem dX10_odds_112 : decode cX10_odds 112 = .ok (.goto (-23), 3) := by decide +kernel
theorem dX10_odds_115 : decode cX10_odds 115 = .ok (.aload_n 0, 1) := by decide +kernel
theorem dX10_odds_116 : decode cX10_odds 116 = .ok (.lload 4, 2) := by decide +kernel
theorem dX10_odds_118 : decode cX10_odds 118 = .ok (.lload 6, 2) := by decide +kernel
theorem dX10_odds_120 : decode cX10_odds 120 = .ok (.invokevirtual 275, 3) := by decide +kernel
theorem dX10_odds_123 : decode cX10_odds 123 = .ok (.iconst 1, 1) := by decide +kernel
theorem dX10_odds_124 : decode cX10_odds 124 = .ok (.ireturn, 1) := by decide +kernel
theorem dX10_mid_0 : decode cX10_mid 0 = .ok (.iload_n 1, 1) := by decide +kernel
theorem dX10_mid_1 : decode cX10_mid 1 = .ok (.invokestatic 159, 3) := by decide +kernel
theorem dX10_mid_4 : decode cX10_mid 4 = .ok (.ifCond .eq 10, 3) := by decide +kernel
theorem dX10_mid_7 : decode cX10_mid 7 = .ok (.iload_n 2, 1) := by decide +kernel
theorem dX10_mid_8 : decode cX10_mid 8 = .ok (.invokestatic 263, 3) := by decide +kernel
theorem dX10_mid_11 : decode cX10_mid 11 = .ok (.ifCond .ne 5, 3) := by decide +kernel
theorem dX10_mid_14 : decode cX10_mid 14 = .ok (.iconst (-1), 1) := by decide +kernel
theorem dX10_mid_15 : decode cX10_mid 15 = .ok (.ireturn, 1) := by decide +kernel
theorem dX10_mid_16 : decode cX10_mid 16 = .ok (.aload_n 0, 1) := by decide +kernel
theorem dX10_mid_17 : decode cX10_mid 17 = .ok (.getfield 134, 3) := by decide +kernel
theorem dX10_mid_20 : decode cX10_mid 20 = .ok (.ifCond .ne 6, 3) := by decide +kernel
theorem dX10_mid_23 : decode cX10_mid 23 = .ok (.bipush (-4), 2) := by decide +kernel
theorem dX10_mid_25 : decode cX10_mid 25 = .ok (.ireturn, 1) := by decide +kernel
theorem dX10_mid_26 : decode cX10_mid 26 = .ok (.aload_n 0, 1) := by decide +kernel
theorem dX10_mid_27 : decode cX10_mid 27 = .ok (.aload_n 0, 1) := by decide +kernel
theorem dX10_mid_28 : decode cX10_mid 28 = .ok (.iload_n 1, 1) := by decide +kernel
theorem dX10_mid_29 : decode cX10_mid 29 = .ok (.invokevirtual 207, 3) := by decide +kernel
theorem dX10_mid_32 : decode cX10_mid 32 = .ok (.i2l, 1) := by decide +kernel
theorem dX10_mid_33 : decode cX10_mid 33 = .ok (.bipush 12, 2) := by decide +kernel
theorem dX10_mid_35 : decode cX10_mid 35 = .ok (.iload_n 2, 1) := by decide +kernel
theorem dX10_mid_36 : decode cX10_mid 36 = .ok (.isub, 1) := by decide +kernel
theorem dX10_mid_37 : decode cX10_mid 37 = .ok (.i2l, 1) := by decide +kernel
theorem dX10_mid_38 : decode cX10_mid 38 = .ok (.lmul, 1) := by decide +kernel
theorem dX10_mid_39 : decode cX10_mid 39 = .ok (.ldc2_w 273, 3) := by decide +kernel
theorem dX10_mid_42 : decode cX10_mid 42 = .ok (.invokevirtual 275, 3) := by decide +kernel
theorem dX10_mid_45 : decode cX10_mid 45 = .ok (.iconst 1, 1) := by decide +kernel
theorem dX10_mid_46 : decode cX10_mid 46 = .ok (.ireturn, 1) := by decide +kernel
theorem dX10_lots_0 : decode cX10_lots 0 = .ok (.iload_n 1, 1) := by decide +kernel
theorem dX10_lots_1 : decode cX10_lots 1 = .ok (.iconst 1, 1) := by decide +kernel
theorem dX10_lots_2 : decode cX10_lots 2 = .ok (.if_icmp .lt 23, 3) := by decide +kernel
theorem dX10_lots_5 : decode cX10_lots 5 = .ok (.iload_n 1, 1) := by decide +kernel
theorem dX10_lots_6 : decode cX10_lots 6 = .ok (.bipush 20, 2) := by decide +kernel
theorem dX10_lots_8 : decode cX10_lots 8 = .ok (.if_icmp .gt 17, 3) := by decide +kernel
theorem dX10_lots_11 : decode cX10_lots 11 = .ok (.iload_n 2, 1) := by decide +kernel
theorem dX10_lots_12 : decode cX10_lots 12 = .ok (.iconst 1, 1) := by decide +kernel
theorem dX10_lots_13 : decode cX10_lots 13 = .ok (.if_icmp .lt 12, 3) := by decide +kernel
theorem dX10_lots_16 : decode cX10_lots 16 = .ok (.iload_n 2, 1) := by decide +kernel
theorem dX10_lots_17 : decode cX10_lots 17 = .ok (.i2l, 1) := by decide +kernel
theorem dX10_lots_18 : decode cX10_lots 18 = .ok (.ldc2_w 279, 3) := by decide +kernel
theorem dX10_lots_21 : decode cX10_lots 21 = .ok (.lcmp, 1) := by decide +kernel
theorem dX10_lots_22 : decode cX10_lots 22 = .ok (.ifCond .lt 5, 3) := by decide +kernel
theorem dX10_lots_25 : decode cX10_lots 25 = .ok (.iconst (-1), 1) := by decide +kernel
theorem dX10_lots_26 : decode cX10_lots 26 = .ok (.ireturn, 1) := by decide +kernel
theorem dX10_lots_27 : decode cX10_lots 27 = .ok (.aload_n 0, 1) := by decide +kernel
theorem dX10_lots_28 : decode cX10_lots 28 = .ok (.getfield 134, 3) := by decide +kernel
theorem dX10_lots_31 : decode cX10_lots 31 = .ok (.ifCond .ne 6, 3) := by decide +kernel
theorem dX10_lots_34 : decode cX10_lots 34 = .ok (.bipush (-4), 2) := by decide +kernel
theorem dX10_lots_36 : decode cX10_lots 36 = .ok (.ireturn, 1) := by decide +kernel
theorem dX10_lots_37 : decode cX10_lots 37 = .ok (.aload_n 0, 1) := by decide +kernel
theorem dX10_lots_38 : decode cX10_lots 38 = .ok (.getfield 53, 3) := by decide +kernel
theorem dX10_lots_41 : decode cX10_lots 41 = .ok (.getfield 191, 3) := by decide +kernel
theorem dX10_lots_44 : decode cX10_lots 44 = .ok (.iload_n 1, 1) := by decide +kernel
theorem dX10_lots_45 : decode cX10_lots 45 = .ok (.iadd, 1) := by decide +kernel
theorem dX10_lots_46 : decode cX10_lots 46 = .ok (.bipush 40, 2) := by decide +kernel
theorem dX10_lots_48 : decode cX10_lots 48 = .ok (.if_icmp .le 6, 3) := by decide +kernel
theorem dX10_lots_51 : decode cX10_lots 51 = .ok (.bipush (-2), 2) := by decide +kernel
theorem dX10_lots_53 : decode cX10_lots 53 = .ok (.ireturn, 1) := by decide +kernel
theorem dX10_lots_54 : decode cX10_lots 54 = .ok (.iload_n 2, 1) := by decide +kernel
theorem dX10_lots_55 : decode cX10_lots 55 = .ok (.i2l, 1) := by decide +kernel
theorem dX10_lots_56 : decode cX10_lots 56 = .ok (.lstore_n 3, 1) := by decide +kernel
theorem dX10_lots_57 : decode cX10_lots 57 = .ok (.iconst 0, 1) := by decide +kernel
theorem dX10_lots_58 : decode cX10_lots 58 = .ok (.istore 5, 2) := by decide +kernel
theorem dX10_lots_60 : decode cX10_lots 60 = .ok (.iload 5, 2) := by decide +kernel
theorem dX10_lots_62 : decode cX10_lots 62 = .ok (.iload_n 1, 1) := by decide +kernel
theorem dX10_lots_63 : decode cX10_lots 63 = .ok (.if_icmp .ge 24, 3) := by decide +kernel
theorem dX10_lots_66 : decode cX10_lots 66 = .ok (.lload_n 3, 1) := by decide +kernel
theorem dX10_lots_67 : decode cX10_lots 67 = .ok (.ldc2_w 281, 3) := by decide +kernel
theorem dX10_lots_70 : decode cX10_lots 70 = .ok (.lmul, 1) := by decide +kernel
theorem dX10_lots_71 : decode cX10_lots 71 = .ok (.ldc2_w 279, 3) := by decide +kernel
theorem dX10_lots_74 : decode cX10_lots 74 = .ok (.lrem, 1) := by decide +kernel
theorem dX10_lots_75 : decode cX10_lots 75 = .ok (.lstore_n 3, 1) := by decide +kernel
theorem dX10_lots_76 : decode cX10_lots 76 = .ok (.aload_n 0, 1) := by decide +kernel
theorem dX10_lots_77 : decode cX10_lots 77 = .ok (.lload_n 3, 1) := by decide +kernel
theorem dX10_lots_78 : decode cX10_lots 78 = .ok (.invokevirtual 283, 3) := by decide +kernel
theorem dX10_lots_81 : decode cX10_lots 81 = .ok (.iinc 5 1, 3) := by decide +kernel
theorem dX10_lots_84 : decode cX10_lots 84 = .ok (.goto (-24), 3) := by decide +kernel
theorem dX10_lots_87 : decode cX10_lots 87 = .ok (.aload_n 0, 1) := by decide +kernel
theorem dX10_lots_88 : decode cX10_lots 88 = .ok (.iconst 1, 1) := by decide +kernel
theorem dX10_lots_89 : decode cX10_lots 89 = .ok (.invokevirtual 207, 3) := by decide +kernel
theorem dX10_lots_92 : decode cX10_lots 92 = .ok (.ireturn, 1) := by decide +kernel
theorem dX10_asked_0 : decode cX10_asked 0 = .ok (.aload_n 0, 1) := by decide +kernel
theorem dX10_asked_1 : decode cX10_asked 1 = .ok (.getfield 95, 3) := by decide +kernel
theorem dX10_asked_4 : decode cX10_asked 4 = .ok (.ireturn, 1) := by decide +kernel
theorem dX10_upper_0 : decode cX10_upper 0 = .ok (.aload_n 0, 1) := by decide +kernel
theorem dX10_upper_1 : decode cX10_upper 1 = .ok (.getfield 287, 3) := by decide +kernel
theorem dX10_upper_4 : decode cX10_upper 4 = .ok (.lreturn, 1) := by decide +kernel
theorem dX10_lower_0 : decode cX10_lower 0 = .ok (.aload_n 0, 1) := by decide +kernel
theorem dX10_lower_1 : decode cX10_lower 1 = .ok (.getfield 68, 3) := by decide +kernel
theorem dX10_lower_4 : decode cX10_lower 4 = .ok (.lreturn, 1) := by decide +kernel
theorem dX10_count_0 : decode cX10_count 0 = .ok (.iload_n 1, 1) := by decide +kernel
theorem dX10_count_1 : decode cX10_count 1 = .ok (.tableswitch 135 0 10 #[59, 64, 72, 80, 86, 94, 102, 110, 118, 123, 129], 59) := by decide +kernel
theorem dX10_count_60 : decode cX10_count 60 = .ok (.aload_n 0, 1) := by decide +kernel
theorem dX10_count_61 : decode cX10_count 61 = .ok (.getfield 134, 3) := by decide +kernel
theorem dX10_count_64 : decode cX10_count 64 = .ok (.ireturn, 1) := by decide +kernel
theorem dX10_count_65 : decode cX10_count 65 = .ok (.aload_n 0, 1) := by decide +kernel
theorem dX10_count_66 : decode cX10_count 66 = .ok (.getfield 53, 3) := by decide +kernel
theorem dX10_count_69 : decode cX10_count 69 = .ok (.getfield 175, 3) := by decide +kernel
theorem dX10_count_72 : decode cX10_count 72 = .ok (.ireturn, 1) := by decide +kernel
theorem dX10_count_73 : decode cX10_count 73 = .ok (.aload_n 0, 1) := by decide +kernel
theorem dX10_count_74 : decode cX10_count 74 = .ok (.getfield 53, 3) := by decide +kernel
theorem dX10_count_77 : decode cX10_count 77 = .ok (.getfield 191, 3) := by decide +kernel
theorem dX10_count_80 : decode cX10_count 80 = .ok (.ireturn, 1) := by decide +kernel
theorem dX10_count_81 : decode cX10_count 81 = .ok (.aload_n 0, 1) := by decide +kernel
theorem dX10_count_82 : decode cX10_count 82 = .ok (.iconst 1, 1) := by decide +kernel
theorem dX10_count_83 : decode cX10_count 83 = .ok (.invokevirtual 207, 3) := by decide +kernel
theorem dX10_count_86 : decode cX10_count 86 = .ok (.ireturn, 1) := by decide +kernel
theorem dX10_count_87 : decode cX10_count 87 = .ok (.aload_n 0, 1) := by decide +kernel
theorem dX10_count_88 : decode cX10_count 88 = .ok (.getfield 53, 3) := by decide +kernel
theorem dX10_count_91 : decode cX10_count 91 = .ok (.invokevirtual 256, 3) := by decide +kernel
theorem dX10_count_94 : decode cX10_count 94 = .ok (.ireturn, 1) := by decide +kernel
theorem dX10_count_95 : decode cX10_count 95 = .ok (.aload_n 0, 1) := by decide +kernel
theorem dX10_count_96 : decode cX10_count 96 = .ok (.getfield 53, 3) := by decide +kernel
theorem dX10_count_99 : decode cX10_count 99 = .ok (.getfield 290, 3) := by decide +kernel
theorem dX10_count_102 : decode cX10_count 102 = .ok (.ireturn, 1) := by decide +kernel
theorem dX10_count_103 : decode cX10_count 103 = .ok (.aload_n 0, 1) := by decide +kernel
theorem dX10_count_104 : decode cX10_count 104 = .ok (.getfield 11, 3) := by decide +kernel
theorem dX10_count_107 : decode cX10_count 107 = .ok (.invokestatic 293, 3) := by decide +kernel
theorem dX10_count_110 : decode cX10_count 110 = .ok (.ireturn, 1) := by decide +kernel
theorem dX10_count_111 : decode cX10_count 111 = .ok (.aload_n 0, 1) := by decide +kernel
theorem dX10_count_112 : decode cX10_count 112 = .ok (.getfield 16, 3) := by decide +kernel
theorem dX10_count_115 : decode cX10_count 115 = .ok (.invokestatic 293, 3) := by decide +kernel
theorem dX10_count_118 : decode cX10_count 118 = .ok (.ireturn, 1) := by decide +kernel
theorem dX10_count_119 : decode cX10_count 119 = .ok (.aload_n 0, 1) := by decide +kernel
theorem dX10_count_120 : decode cX10_count 120 = .ok (.invokevirtual 297, 3) := by decide +kernel
theorem dX10_count_123 : decode cX10_count 123 = .ok (.ireturn, 1) := by decide +kernel
theorem dX10_count_124 : decode cX10_count 124 = .ok (.aload_n 0, 1) := by decide +kernel
theorem dX10_count_125 : decode cX10_count 125 = .ok (.iconst 1, 1) := by decide +kernel
theorem dX10_count_126 : decode cX10_count 126 = .ok (.invokevirtual 300, 3) := by decide +kernel
theorem dX10_count_129 : decode cX10_count 129 = .ok (.ireturn, 1) := by decide +kernel
theorem dX10_count_130 : decode cX10_count 130 = .ok (.aload_n 0, 1) := by decide +kernel
theorem dX10_count_131 : decode cX10_count 131 = .ok (.iconst 2, 1) := by decide +kernel
theorem dX10_count_132 : decode cX10_count 132 = .ok (.invokevirtual 300, 3) := by decide +kernel
theorem dX10_count_135 : decode cX10_count 135 = .ok (.ireturn, 1) := by decide +kernel
theorem dX10_count_136 : decode cX10_count 136 = .ok (.iconst (-1), 1) := by decide +kernel
theorem dX10_count_137 : decode cX10_count 137 = .ok (.ireturn, 1) := by decide +kernel
theorem dX10_finding_0 : decode cX10_finding 0 = .ok (.aload_n 0, 1) := by decide +kernel
theorem dX10_finding_1 : decode cX10_finding 1 = .ok (.getfield 303, 3) := by decide +kernel
theorem dX10_finding_4 : decode cX10_finding 4 = .ok (.ireturn, 1) := by decide +kernel
theorem dX10_findings_0 : decode cX10_findings 0 = .ok (.iload_n 1, 1) := by decide +kernel
theorem dX10_findings_1 : decode cX10_findings 1 = .ok (.iconst 1, 1) := by decide +kernel
theorem dX10_findings_2 : decode cX10_findings 2 = .ok (.if_icmp .lt 8, 3) := by decide +kernel
theorem dX10_findings_5 : decode cX10_findings 5 = .ok (.iload_n 1, 1) := by decide +kernel
theorem dX10_findings_6 : decode cX10_findings 6 = .ok (.iconst 5, 1) := by decide +kernel
theorem dX10_findings_7 : decode cX10_findings 7 = .ok (.if_icmp .le 5, 3) := by decide +kernel
theorem dX10_findings_10 : decode cX10_findings 10 = .ok (.iconst (-1), 1) := by decide +kernel
theorem dX10_findings_11 : decode cX10_findings 11 = .ok (.ireturn, 1) := by decide +kernel
theorem dX10_findings_12 : decode cX10_findings 12 = .ok (.aload_n 0, 1) := by decide +kernel
theorem dX10_findings_13 : decode cX10_findings 13 = .ok (.getfield 72, 3) := by decide +kernel
theorem dX10_findings_16 : decode cX10_findings 16 = .ok (.iload_n 1, 1) := by decide +kernel
theorem dX10_findings_17 : decode cX10_findings 17 = .ok (.iaload, 1) := by decide +kernel
theorem dX10_findings_18 : decode cX10_findings 18 = .ok (.ireturn, 1) := by decide +kernel
theorem dX10_digest_0 : decode cX10_digest 0 = .ok (.ldc2_w 306, 3) := by decide +kernel
theorem dX10_digest_3 : decode cX10_digest 3 = .ok (.lstore_n 1, 1) := by decide +kernel
theorem dX10_digest_4 : decode cX10_digest 4 = .ok (.iconst 0, 1) := by decide +kernel
theorem dX10_digest_5 : decode cX10_digest 5 = .ok (.istore_n 3, 1) := by decide +kernel
theorem dX10_digest_6 : decode cX10_digest 6 = .ok (.iload_n 3, 1) := by decide +kernel
theorem dX10_digest_7 : decode cX10_digest 7 = .ok (.bipush 11, 2) := by decide +kernel
theorem dX10_digest_9 : decode cX10_digest 9 = .ok (.if_icmp .ge 22, 3) := by decide +kernel
theorem dX10_digest_12 : decode cX10_digest 12 = .ok (.ldc2_w 308, 3) := by decide +kernel
theorem dX10_digest_15 : decode cX10_digest 15 = .ok (.lload_n 1, 1) := by decide +kernel
theorem dX10_digest_16 : decode cX10_digest 16 = .ok (.lmul, 1) := by decide +kernel
theorem dX10_digest_17 : decode cX10_digest 17 = .ok (.aload_n 0, 1) := by decide +kernel
theorem dX10_digest_18 : decode cX10_digest 18 = .ok (.iload_n 3, 1) := by decide +kernel
theorem dX10_digest_19 : decode cX10_digest 19 = .ok (.invokevirtual 310, 3) := by decide +kernel
theorem dX10_digest_22 : decode cX10_digest 22 = .ok (.i2l, 1) := by decide +kernel
theorem dX10_digest_23 : decode cX10_digest 23 = .ok (.ladd, 1) := by decide +kernel
theorem dX10_digest_24 : decode cX10_digest 24 = .ok (.lstore_n 1, 1) := by decide +kernel
theorem dX10_digest_25 : decode cX10_digest 25 = .ok (.iinc 3 1, 3) := by decide +kernel
theorem dX10_digest_28 : decode cX10_digest 28 = .ok (.goto (-22), 3) := by decide +kernel
theorem dX10_digest_31 : decode cX10_digest 31 = .ok (.iconst 0, 1) := by decide +kernel
theorem dX10_digest_32 : decode cX10_digest 32 = .ok (.istore_n 3, 1) := by decide +kernel
theorem dX10_digest_33 : decode cX10_digest 33 = .ok (.iload_n 3, 1) := by decide +kernel
theorem dX10_digest_34 : decode cX10_digest 34 = .ok (.aload_n 0, 1) := by decide +kernel
theorem dX10_digest_35 : decode cX10_digest 35 = .ok (.getfield 134, 3) := by decide +kernel
theorem dX10_digest_38 : decode cX10_digest 38 = .ok (.if_icmp .ge 39, 3) := by decide +kernel
theorem dX10_digest_41 : decode cX10_digest 41 = .ok (.iconst 0, 1) := by decide +kernel
theorem dX10_digest_42 : decode cX10_digest 42 = .ok (.istore 4, 2) := by decide +kernel
theorem dX10_digest_44 : decode cX10_digest 44 = .ok (.iload 4, 2) := by decide +kernel
theorem dX10_digest_46 : decode cX10_digest 46 = .ok (.iconst 5, 1) := by decide +kernel
theorem dX10_digest_47 : decode cX10_digest 47 = .ok (.if_icmp .ge 24, 3) := by decide +kernel
theorem dX10_digest_50 : decode cX10_digest 50 = .ok (.ldc2_w 308, 3) := by decide +kernel
theorem dX10_digest_53 : decode cX10_digest 53 = .ok (.lload_n 1, 1) := by decide +kernel
theorem dX10_digest_54 : decode cX10_digest 54 = .ok (.lmul, 1) := by decide +kernel
theorem dX10_digest_55 : decode cX10_digest 55 = .ok (.aload_n 0, 1) := by decide +kernel
theorem dX10_digest_56 : decode cX10_digest 56 = .ok (.iload_n 3, 1) := by decide +kernel
theorem dX10_digest_57 : decode cX10_digest 57 = .ok (.iload 4, 2) := by decide +kernel
theorem dX10_digest_59 : decode cX10_digest 59 = .ok (.invokevirtual 140, 3) := by decide +kernel
theorem dX10_digest_62 : decode cX10_digest 62 = .ok (.i2l, 1) := by decide +kernel
theorem dX10_digest_63 : decode cX10_digest 63 = .ok (.ladd, 1) := by decide +kernel
theorem dX10_digest_64 : decode cX10_digest 64 = .ok (.lstore_n 1, 1) := by decide +kernel
theorem dX10_digest_65 : decode cX10_digest 65 = .ok (.iinc 4 1, 3) := by decide +kernel
theorem dX10_digest_68 : decode cX10_digest 68 = .ok (.goto (-24), 3) := by decide +kernel
theorem dX10_digest_71 : decode cX10_digest 71 = .ok (.iinc 3 1, 3) := by decide +kernel
theorem dX10_digest_74 : decode cX10_digest 74 = .ok (.goto (-41), 3) := by decide +kernel
theorem dX10_digest_77 : decode cX10_digest 77 = .ok (.iconst 0, 1) := by decide +kernel
theorem dX10_digest_78 : decode cX10_digest 78 = .ok (.istore_n 3, 1) := by decide +kernel
theorem dX10_digest_79 : decode cX10_digest 79 = .ok (.iload_n 3, 1) := by decide +kernel
theorem dX10_digest_80 : decode cX10_digest 80 = .ok (.iconst 3, 1) := by decide +kernel
theorem dX10_digest_81 : decode cX10_digest 81 = .ok (.if_icmp .ge 42, 3) := by decide +kernel
theorem dX10_digest_84 : decode cX10_digest 84 = .ok (.ldc2_w 308, 3) := by decide +kernel
theorem dX10_digest_87 : decode cX10_digest 87 = .ok (.lload_n 1, 1) := by decide +kernel
theorem dX10_digest_88 : decode cX10_digest 88 = .ok (.lmul, 1) := by decide +kernel
theorem dX10_digest_89 : decode cX10_digest 89 = .ok (.aload_n 0, 1) := by decide +kernel
theorem dX10_digest_90 : decode cX10_digest 90 = .ok (.getfield 57, 3) := by decide +kernel
theorem dX10_digest_93 : decode cX10_digest 93 = .ok (.iload_n 3, 1) := by decide +kernel
theorem dX10_digest_94 : decode cX10_digest 94 = .ok (.aaload, 1) := by decide +kernel
theorem dX10_digest_95 : decode cX10_digest 95 = .ok (.getfield 130, 3) := by decide +kernel
theorem dX10_digest_98 : decode cX10_digest 98 = .ok (.ifCond .eq 15, 3) := by decide +kernel
theorem dX10_digest_101 : decode cX10_digest 101 = .ok (.aload_n 0, 1) := by decide +kernel
theorem dX10_digest_102 : decode cX10_digest 102 = .ok (.getfield 57, 3) := by decide +kernel
theorem dX10_digest_105 : decode cX10_digest 105 = .ok (.iload_n 3, 1) := by decide +kernel
theorem dX10_digest_106 : decode cX10_digest 106 = .ok (.aaload, 1) := by decide +kernel
theorem dX10_digest_107 : decode cX10_digest 107 = .ok (.getfield 191, 3) := by decide +kernel
theorem dX10_digest_110 : decode cX10_digest 110 = .ok (.goto 4, 3) := by decide +kernel
theorem dX10_digest_113 : decode cX10_digest 113 = .ok (.iconst (-1), 1) := by decide +kernel
theorem dX10_digest_114 : decode cX10_digest 114 = .ok (.i2l, 1) := by decide +kernel
theorem dX10_digest_115 : decode cX10_digest 115 = .ok (.ladd, 1) := by decide +kernel
theorem dX10_digest_116 : decode cX10_digest 116 = .ok (.lstore_n 1, 1) := by decide +kernel
theorem dX10_digest_117 : decode cX10_digest 117 = .ok (.iinc 3 1, 3) := by decide +kernel
theorem dX10_digest_120 : decode cX10_digest 120 = .ok (.goto (-41), 3) := by decide +kernel
theorem dX10_digest_123 : decode cX10_digest 123 = .ok (.lload_n 1, 1) := by decide +kernel
theorem dX10_digest_124 : decode cX10_digest 124 = .ok (.aload_n 0, 1) := by decide +kernel
theorem dX10_digest_125 : decode cX10_digest 125 = .ok (.getfield 11, 3) := by decide +kernel
theorem dX10_digest_128 : decode cX10_digest 128 = .ok (.invokestatic 313, 3) := by decide +kernel
theorem dX10_digest_131 : decode cX10_digest 131 = .ok (.aload_n 0, 1) := by decide +kernel
theorem dX10_digest_132 : decode cX10_digest 132 = .ok (.getfield 16, 3) := by decide +kernel
theorem dX10_digest_135 : decode cX10_digest 135 = .ok (.invokestatic 313, 3) := by decide +kernel
theorem dX10_digest_138 : decode cX10_digest 138 = .ok (.lreturn, 1) := by decide +kernel
theorem dX10_isRow_0 : decode cX10_isRow 0 = .ok (.iload_n 0, 1) := by decide +kernel
theorem dX10_isRow_1 : decode cX10_isRow 1 = .ok (.ifCond .lt 13, 3) := by decide +kernel
theorem dX10_isRow_4 : decode cX10_isRow 4 = .ok (.iload_n 0, 1) := by decide +kernel
theorem dX10_isRow_5 : decode cX10_isRow 5 = .ok (.bipush 6, 2) := by decide +kernel
theorem dX10_isRow_7 : decode cX10_isRow 7 = .ok (.if_icmp .ge 7, 3) := by decide +kernel
theorem dX10_isRow_10 : decode cX10_isRow 10 = .ok (.iconst 1, 1) := by decide +kernel
theorem dX10_isRow_11 : decode cX10_isRow 11 = .ok (.goto 4, 3) := by decide +kernel
theorem dX10_isRow_14 : decode cX10_isRow 14 = .ok (.iconst 0, 1) := by decide +kernel
theorem dX10_isRow_15 : decode cX10_isRow 15 = .ok (.ireturn, 1) := by decide +kernel
theorem dX10_isText_0 : decode cX10_isText 0 = .ok (.iload_n 0, 1) := by decide +kernel
theorem dX10_isText_1 : decode cX10_isText 1 = .ok (.ifCond .lt 12, 3) := by decide +kernel
theorem dX10_isText_4 : decode cX10_isText 4 = .ok (.iload_n 0, 1) := by decide +kernel
theorem dX10_isText_5 : decode cX10_isText 5 = .ok (.iconst 4, 1) := by decide +kernel
theorem dX10_isText_6 : decode cX10_isText 6 = .ok (.if_icmp .ge 7, 3) := by decide +kernel
theorem dX10_isText_9 : decode cX10_isText 9 = .ok (.iconst 1, 1) := by decide +kernel
theorem dX10_isText_10 : decode cX10_isText 10 = .ok (.goto 4, 3) := by decide +kernel
theorem dX10_isText_13 : decode cX10_isText 13 = .ok (.iconst 0, 1) := by decide +kernel
theorem dX10_isText_14 : decode cX10_isText 14 = .ok (.ireturn, 1) := by decide +kernel
theorem dX10_isKeepingPlace_0 : decode cX10_isKeepingPlace 0 = .ok (.iload_n 0, 1) := by decide +kernel
theorem dX10_isKeepingPlace_1 : decode cX10_isKeepingPlace 1 = .ok (.ifCond .lt 12, 3) := by decide +kernel
theorem dX10_isKeepingPlace_4 : decode cX10_isKeepingPlace 4 = .ok (.iload_n 0, 1) := by decide +kernel
theorem dX10_isKeepingPlace_5 : decode cX10_isKeepingPlace 5 = .ok (.iconst 3, 1) := by decide +kernel
theorem dX10_isKeepingPlace_6 : decode cX10_isKeepingPlace 6 = .ok (.if_icmp .ge 7, 3) := by decide +kernel
theorem dX10_isKeepingPlace_9 : decode cX10_isKeepingPlace 9 = .ok (.iconst 1, 1) := by decide +kernel
theorem dX10_isKeepingPlace_10 : decode cX10_isKeepingPlace 10 = .ok (.goto 4, 3) := by decide +kernel
theorem dX10_isKeepingPlace_13 : decode cX10_isKeepingPlace 13 = .ok (.iconst 0, 1) := by decide +kernel
theorem dX10_isKeepingPlace_14 : decode cX10_isKeepingPlace 14 = .ok (.ireturn, 1) := by decide +kernel
theorem dX10_isLine_0 : decode cX10_isLine 0 = .ok (.iload_n 0, 1) := by decide +kernel
theorem dX10_isLine_1 : decode cX10_isLine 1 = .ok (.iconst 1, 1) := by decide +kernel
theorem dX10_isLine_2 : decode cX10_isLine 2 = .ok (.if_icmp .lt 13, 3) := by decide +kernel
theorem dX10_isLine_5 : decode cX10_isLine 5 = .ok (.iload_n 0, 1) := by decide +kernel
theorem dX10_isLine_6 : decode cX10_isLine 6 = .ok (.bipush 9, 2) := by decide +kernel
theorem dX10_isLine_8 : decode cX10_isLine 8 = .ok (.if_icmp .gt 7, 3) := by decide +kernel
theorem dX10_isLine_11 : decode cX10_isLine 11 = .ok (.iconst 1, 1) := by decide +kernel
theorem dX10_isLine_12 : decode cX10_isLine 12 = .ok (.goto 4, 3) := by decide +kernel
theorem dX10_isLine_15 : decode cX10_isLine 15 = .ok (.iconst 0, 1) := by decide +kernel
theorem dX10_isLine_16 : decode cX10_isLine 16 = .ok (.ireturn, 1) := by decide +kernel
theorem dX10_isTwelfths_0 : decode cX10_isTwelfths 0 = .ok (.iload_n 0, 1) := by decide +kernel
theorem dX10_isTwelfths_1 : decode cX10_isTwelfths 1 = .ok (.ifCond .lt 13, 3) := by decide +kernel
theorem dX10_isTwelfths_4 : decode cX10_isTwelfths 4 = .ok (.iload_n 0, 1) := by decide +kernel
theorem dX10_isTwelfths_5 : decode cX10_isTwelfths 5 = .ok (.bipush 12, 2) := by decide +kernel
theorem dX10_isTwelfths_7 : decode cX10_isTwelfths 7 = .ok (.if_icmp .gt 7, 3) := by decide +kernel
theorem dX10_isTwelfths_10 : decode cX10_isTwelfths 10 = .ok (.iconst 1, 1) := by decide +kernel
theorem dX10_isTwelfths_11 : decode cX10_isTwelfths 11 = .ok (.goto 4, 3) := by decide +kernel
theorem dX10_isTwelfths_14 : decode cX10_isTwelfths 14 = .ok (.iconst 0, 1) := by decide +kernel
theorem dX10_isTwelfths_15 : decode cX10_isTwelfths 15 = .ok (.ireturn, 1) := by decide +kernel
theorem dX10_isRod_0 : decode cX10_isRod 0 = .ok (.iload_n 1, 1) := by decide +kernel
theorem dX10_isRod_1 : decode cX10_isRod 1 = .ok (.ifCond .lt 15, 3) := by decide +kernel
theorem dX10_isRod_4 : decode cX10_isRod 4 = .ok (.iload_n 1, 1) := by decide +kernel
theorem dX10_isRod_5 : decode cX10_isRod 5 = .ok (.aload_n 0, 1) := by decide +kernel
theorem dX10_isRod_6 : decode cX10_isRod 6 = .ok (.getfield 134, 3) := by decide +kernel
theorem dX10_isRod_9 : decode cX10_isRod 9 = .ok (.if_icmp .ge 7, 3) := by decide +kernel
theorem dX10_isRod_12 : decode cX10_isRod 12 = .ok (.iconst 1, 1) := by decide +kernel
theorem dX10_isRod_13 : decode cX10_isRod 13 = .ok (.goto 4, 3) := by decide +kernel
theorem dX10_isRod_16 : decode cX10_isRod 16 = .ok (.iconst 0, 1) := by decide +kernel
theorem dX10_isRod_17 : decode cX10_isRod 17 = .ok (.ireturn, 1) := by decide +kernel
theorem dX10_found_0 : decode cX10_found 0 = .ok (.aload_n 0, 1) := by decide +kernel
theorem dX10_found_1 : decode cX10_found 1 = .ok (.iload_n 1, 1) := by decide +kernel
theorem dX10_found_2 : decode cX10_found 2 = .ok (.putfield 303, 3) := by decide +kernel
theorem dX10_found_5 : decode cX10_found 5 = .ok (.aload_n 0, 1) := by decide +kernel
theorem dX10_found_6 : decode cX10_found 6 = .ok (.getfield 72, 3) := by decide +kernel
theorem dX10_found_9 : decode cX10_found 9 = .ok (.iload_n 1, 1) := by decide +kernel
theorem dX10_found_10 : decode cX10_found 10 = .ok (.dup2, 1) := by decide +kernel
theorem dX10_found_11 : decode cX10_found 11 = .ok (.iaload, 1) := by decide +kernel
theorem dX10_found_12 : decode cX10_found 12 = .ok (.iconst 1, 1) := by decide +kernel
theorem dX10_found_13 : decode cX10_found 13 = .ok (.iadd, 1) := by decide +kernel
theorem dX10_found_14 : decode cX10_found 14 = .ok (.iastore, 1) := by decide +kernel
theorem dX10_found_15 : decode cX10_found 15 = .ok (.bipush (-3), 2) := by decide +kernel
theorem dX10_found_17 : decode cX10_found 17 = .ok (.ireturn, 1) := by decide +kernel
theorem dX10_unfitPlace_0 : decode cX10_unfitPlace 0 = .ok (.aload_n 0, 1) := by decide +kernel
theorem dX10_unfitPlace_1 : decode cX10_unfitPlace 1 = .ok (.invokevirtual 99, 3) := by decide +kernel
theorem dX10_unfitPlace_4 : decode cX10_unfitPlace 4 = .ok (.ifCond .ne 5, 3) := by decide +kernel
theorem dX10_unfitPlace_7 : decode cX10_unfitPlace 7 = .ok (.iconst 1, 1) := by decide +kernel
theorem dX10_unfitPlace_8 : decode cX10_unfitPlace 8 = .ok (.ireturn, 1) := by decide +kernel
theorem dX10_unfitPlace_9 : decode cX10_unfitPlace 9 = .ok (.aload_n 0, 1) := by decide +kernel
theorem dX10_unfitPlace_10 : decode cX10_unfitPlace 10 = .ok (.iload_n 1, 1) := by decide +kernel
theorem dX10_unfitPlace_11 : decode cX10_unfitPlace 11 = .ok (.iconst 1, 1) := by decide +kernel
theorem dX10_unfitPlace_12 : decode cX10_unfitPlace 12 = .ok (.invokevirtual 106, 3) := by decide +kernel
theorem dX10_unfitPlace_15 : decode cX10_unfitPlace 15 = .ok (.ifCond .eq 7, 3) := by decide +kernel
theorem dX10_unfitPlace_18 : decode cX10_unfitPlace 18 = .ok (.iconst 0, 1) := by decide +kernel
theorem dX10_unfitPlace_19 : decode cX10_unfitPlace 19 = .ok (.goto 4, 3) := by decide +kernel
theorem dX10_unfitPlace_22 : decode cX10_unfitPlace 22 = .ok (.iconst 2, 1) := by decide +kernel
theorem dX10_unfitPlace_23 : decode cX10_unfitPlace 23 = .ok (.ireturn, 1) := by decide +kernel
theorem dX10_unfitPairs_0 : decode cX10_unfitPairs 0 = .ok (.aload_n 0, 1) := by decide +kernel
theorem dX10_unfitPairs_1 : decode cX10_unfitPairs 1 = .ok (.invokevirtual 99, 3) := by decide +kernel
theorem dX10_unfitPairs_4 : decode cX10_unfitPairs 4 = .ok (.ifCond .ne 5, 3) := by decide +kernel
theorem dX10_unfitPairs_7 : decode cX10_unfitPairs 7 = .ok (.iconst 1, 1) := by decide +kernel
theorem dX10_unfitPairs_8 : decode cX10_unfitPairs 8 = .ok (.ireturn, 1) := by decide +kernel
theorem dX10_unfitPairs_9 : decode cX10_unfitPairs 9 = .ok (.aload_n 0, 1) := by decide +kernel
theorem dX10_unfitPairs_10 : decode cX10_unfitPairs 10 = .ok (.getfield 103, 3) := by decide +kernel
theorem dX10_unfitPairs_13 : decode cX10_unfitPairs 13 = .ok (.iconst 2, 1) := by decide +kernel
theorem dX10_unfitPairs_14 : decode cX10_unfitPairs 14 = .ok (.irem, 1) := by decide +kernel
theorem dX10_unfitPairs_15 : decode cX10_unfitPairs 15 = .ok (.ifCond .eq 5, 3) := by decide +kernel
theorem dX10_unfitPairs_18 : decode cX10_unfitPairs 18 = .ok (.iconst 5, 1) := by decide +kernel
theorem dX10_unfitPairs_19 : decode cX10_unfitPairs 19 = .ok (.ireturn, 1) := by decide +kernel
theorem dX10_unfitPairs_20 : decode cX10_unfitPairs 20 = .ok (.iconst 0, 1) := by decide +kernel
theorem dX10_unfitPairs_21 : decode cX10_unfitPairs 21 = .ok (.istore_n 1, 1) := by decide +kernel
theorem dX10_unfitPairs_22 : decode cX10_unfitPairs 22 = .ok (.iload_n 1, 1) := by decide +kernel
theorem dX10_unfitPairs_23 : decode cX10_unfitPairs 23 = .ok (.iconst 1, 1) := by decide +kernel
theorem dX10_unfitPairs_24 : decode cX10_unfitPairs 24 = .ok (.iadd, 1) := by decide +kernel
theorem dX10_unfitPairs_25 : decode cX10_unfitPairs 25 = .ok (.aload_n 0, 1) := by decide +kernel
theorem dX10_unfitPairs_26 : decode cX10_unfitPairs 26 = .ok (.getfield 103, 3) := by decide +kernel
theorem dX10_unfitPairs_29 : decode cX10_unfitPairs 29 = .ok (.if_icmp .ge 43, 3) := by decide +kernel
theorem dX10_unfitPairs_32 : decode cX10_unfitPairs 32 = .ok (.aload_n 0, 1) := by decide +kernel
theorem dX10_unfitPairs_33 : decode cX10_unfitPairs 33 = .ok (.getfield 92, 3) := by decide +kernel
theorem dX10_unfitPairs_36 : decode cX10_unfitPairs 36 = .ok (.iload_n 1, 1) := by decide +kernel
theorem dX10_unfitPairs_37 : decode cX10_unfitPairs 37 = .ok (.iconst 1, 1) := by decide +kernel
theorem dX10_unfitPairs_38 : decode cX10_unfitPairs 38 = .ok (.iadd, 1) := by decide +kernel
theorem dX10_unfitPairs_39 : decode cX10_unfitPairs 39 = .ok (.iaload, 1) := by decide +kernel
theorem dX10_unfitPairs_40 : decode cX10_unfitPairs 40 = .ok (.istore_n 2, 1) := by decide +kernel
theorem dX10_unfitPairs_41 : decode cX10_unfitPairs 41 = .ok (.aload_n 0, 1) := by decide +kernel
theorem dX10_unfitPairs_42 : decode cX10_unfitPairs 42 = .ok (.getfield 92, 3) := by decide +kernel
theorem dX10_unfitPairs_45 : decode cX10_unfitPairs 45 = .ok (.iload_n 1, 1) := by decide +kernel
theorem dX10_unfitPairs_46 : decode cX10_unfitPairs 46 = .ok (.iaload, 1) := by decide +kernel
theorem dX10_unfitPairs_47 : decode cX10_unfitPairs 47 = .ok (.invokestatic 159, 3) := by decide +kernel
theorem dX10_unfitPairs_50 : decode cX10_unfitPairs 50 = .ok (.ifCond .eq 14, 3) := by decide +kernel
theorem dX10_unfitPairs_53 : decode cX10_unfitPairs 53 = .ok (.iload_n 2, 1) := by decide +kernel
theorem dX10_unfitPairs_54 : decode cX10_unfitPairs 54 = .ok (.ifCond .lt 10, 3) := by decide +kernel
theorem dX10_unfitPairs_57 : decode cX10_unfitPairs 57 = .ok (.iload_n 2, 1) := by decide +kernel
theorem dX10_unfitPairs_58 : decode cX10_unfitPairs 58 = .ok (.ldc_w 317, 3) := by decide +kernel
theorem dX10_unfitPairs_61 : decode cX10_unfitPairs 61 = .ok (.if_icmp .le 5, 3) := by decide +kernel
theorem dX10_unfitPairs_64 : decode cX10_unfitPairs 64 = .ok (.iconst 3, 1) := by decide +kernel
theorem dX10_unfitPairs_65 : decode cX10_unfitPairs 65 = .ok (.ireturn, 1) := by decide +kernel
theorem dX10_unfitPairs_66 : decode cX10_unfitPairs 66 = .ok (.iinc 1 2, 3) := by decide +kernel
theorem dX10_unfitPairs_69 : decode cX10_unfitPairs 69 = .ok (.goto (-47), 3) := by decide +kernel
theorem dX10_unfitPairs_72 : decode cX10_unfitPairs 72 = .ok (.iconst 0, 1) := by decide +kernel
theorem dX10_unfitPairs_73 : decode cX10_unfitPairs 73 = .ok (.ireturn, 1) := by decide +kernel
theorem dX10_kindByLetter_0 : decode cX10_kindByLetter 0 = .ok (.iconst 0, 1) := by decide +kernel
theorem dX10_kindByLetter_1 : decode cX10_kindByLetter 1 = .ok (.istore_n 1, 1) := by decide +kernel
theorem dX10_kindByLetter_2 : decode cX10_kindByLetter 2 = .ok (.iload_n 1, 1) := by decide +kernel
theorem dX10_kindByLetter_3 : decode cX10_kindByLetter 3 = .ok (.bipush 6, 2) := by decide +kernel
theorem dX10_kindByLetter_5 : decode cX10_kindByLetter 5 = .ok (.if_icmp .ge 20, 3) := by decide +kernel
theorem dX10_kindByLetter_8 : decode cX10_kindByLetter 8 = .ok (.getstatic 318, 3) := by decide +kernel
theorem dX10_kindByLetter_11 : decode cX10_kindByLetter 11 = .ok (.iload_n 1, 1) := by decide +kernel
theorem dX10_kindByLetter_12 : decode cX10_kindByLetter 12 = .ok (.iaload, 1) := by decide +kernel
theorem dX10_kindByLetter_13 : decode cX10_kindByLetter 13 = .ok (.iload_n 0, 1) := by decide +kernel
theorem dX10_kindByLetter_14 : decode cX10_kindByLetter 14 = .ok (.if_icmp .ne 5, 3) := by decide +kernel
theorem dX10_kindByLetter_17 : decode cX10_kindByLetter 17 = .ok (.iload_n 1, 1) := by decide +kernel
theorem dX10_kindByLetter_18 : decode cX10_kindByLetter 18 = .ok (.ireturn, 1) := by decide +kernel
theorem dX10_kindByLetter_19 : decode cX10_kindByLetter 19 = .ok (.iinc 1 1, 3) := by decide +kernel
theorem dX10_kindByLetter_22 : decode cX10_kindByLetter 22 = .ok (.goto (-20), 3) := by decide +kernel
theorem dX10_kindByLetter_25 : decode cX10_kindByLetter 25 = .ok (.bipush (-9), 2) := by decide +kernel
theorem dX10_kindByLetter_27 : decode cX10_kindByLetter 27 = .ok (.ireturn, 1) := by decide +kernel
theorem dX10_isFigure_0 : decode cX10_isFigure 0 = .ok (.iload_n 0, 1) := by decide +kernel
theorem dX10_isFigure_1 : decode cX10_isFigure 1 = .ok (.bipush 48, 2) := by decide +kernel
theorem dX10_isFigure_3 : decode cX10_isFigure 3 = .ok (.if_icmp .lt 13, 3) := by decide +kernel
theorem dX10_isFigure_6 : decode cX10_isFigure 6 = .ok (.iload_n 0, 1) := by decide +kernel
theorem dX10_isFigure_7 : decode cX10_isFigure 7 = .ok (.bipush 58, 2) := by decide +kernel
theorem dX10_isFigure_9 : decode cX10_isFigure 9 = .ok (.if_icmp .ge 7, 3) := by decide +kernel
theorem dX10_isFigure_12 : decode cX10_isFigure 12 = .ok (.iconst 1, 1) := by decide +kernel
theorem dX10_isFigure_13 : decode cX10_isFigure 13 = .ok (.goto 4, 3) := by decide +kernel
theorem dX10_isFigure_16 : decode cX10_isFigure 16 = .ok (.iconst 0, 1) := by decide +kernel
theorem dX10_isFigure_17 : decode cX10_isFigure 17 = .ok (.ireturn, 1) := by decide +kernel
theorem dX10_firstFault_0 : decode cX10_firstFault 0 = .ok (.iconst 0, 1) := by decide +kernel
theorem dX10_firstFault_1 : decode cX10_firstFault 1 = .ok (.istore_n 1, 1) := by decide +kernel
theorem dX10_firstFault_2 : decode cX10_firstFault 2 = .ok (.iconst 0, 1) := by decide +kernel
theorem dX10_firstFault_3 : decode cX10_firstFault 3 = .ok (.istore_n 2, 1) := by decide +kernel
theorem dX10_firstFault_4 : decode cX10_firstFault 4 = .ok (.iconst 0, 1) := by decide +kernel
theorem dX10_firstFault_5 : decode cX10_firstFault 5 = .ok (.istore_n 3, 1) := by decide +kernel
theorem dX10_firstFault_6 : decode cX10_firstFault 6 = .ok (.iload_n 3, 1) := by decide +kernel
theorem dX10_firstFault_7 : decode cX10_firstFault 7 = .ok (.aload_n 0, 1) := by decide +kernel
theorem dX10_firstFault_8 : decode cX10_firstFault 8 = .ok (.getfield 103, 3) := by decide +kernel
theorem dX10_firstFault_11 : decode cX10_firstFault 11 = .ok (.if_icmp .ge 70, 3) := by decide +kernel
theorem dX10_firstFault_14 : decode cX10_firstFault 14 = .ok (.aload_n 0, 1) := by decide +kernel
theorem dX10_firstFault_15 : decode cX10_firstFault 15 = .ok (.getfield 92, 3) := by decide +kernel
theorem dX10_firstFault_18 : decode cX10_firstFault 18 = .ok (.iload_n 3, 1) := by decide +kernel
theorem dX10_firstFault_19 : decode cX10_firstFault 19 = .ok (.iaload, 1) := by decide +kernel
theorem dX10_firstFault_20 : decode cX10_firstFault 20 = .ok (.istore 4, 2) := by decide +kernel
theorem dX10_firstFault_22 : decode cX10_firstFault 22 = .ok (.iload_n 2, 1) := by decide +kernel
theorem dX10_firstFault_23 : decode cX10_firstFault 23 = .ok (.ifCond .le 22, 3) := by decide +kernel
theorem dX10_firstFault_26 : decode cX10_firstFault 26 = .ok (.iload 4, 2) := by decide +kernel
theorem dX10_firstFault_28 : decode cX10_firstFault 28 = .ok (.invokestatic 321, 3) := by decide +kernel
theorem dX10_firstFault_31 : decode cX10_firstFault 31 = .ok (.ifCond .ne 5, 3) := by decide +kernel
theorem dX10_firstFault_34 : decode cX10_firstFault 34 = .ok (.iload_n 3, 1) := by decide +kernel
theorem dX10_firstFault_35 : decode cX10_firstFault 35 = .ok (.ireturn, 1) := by decide +kernel
theorem dX10_firstFault_36 : decode cX10_firstFault 36 = .ok (.iload_n 2, 1) := by decide +kernel
theorem dX10_firstFault_37 : decode cX10_firstFault 37 = .ok (.iconst 1, 1) := by decide +kernel
theorem dX10_firstFault_38 : decode cX10_firstFault 38 = .ok (.iadd, 1) := by decide +kernel
theorem dX10_firstFault_39 : decode cX10_firstFault 39 = .ok (.iconst 3, 1) := by decide +kernel
theorem dX10_firstFault_40 : decode cX10_firstFault 40 = .ok (.irem, 1) := by decide +kernel
theorem dX10_firstFault_41 : decode cX10_firstFault 41 = .ok (.istore_n 2, 1) := by decide +kernel
theorem dX10_firstFault_42 : decode cX10_firstFault 42 = .ok (.goto 33, 3) := by decide +kernel
theorem dX10_firstFault_45 : decode cX10_firstFault 45 = .ok (.iload 4, 2) := by decide +kernel
theorem dX10_firstFault_47 : decode cX10_firstFault 47 = .ok (.bipush 32, 2) := by decide +kernel
theorem dX10_firstFault_49 : decode cX10_firstFault 49 = .ok (.if_icmp .eq 26, 3) := by decide +kernel
theorem dX10_firstFault_52 : decode cX10_firstFault 52 = .ok (.iload_n 1, 1) := by decide +kernel
theorem dX10_firstFault_53 : decode cX10_firstFault 53 = .ok (.bipush 7, 2) := by decide +kernel
theorem dX10_firstFault_55 : decode cX10_firstFault 55 = .ok (.if_icmp .ge 13, 3) := by decide +kernel
theorem dX10_firstFault_58 : decode cX10_firstFault 58 = .ok (.iload 4, 2) := by decide +kernel
theorem dX10_firstFault_60 : decode cX10_firstFault 60 = .ok (.invokestatic 324, 3) := by decide +kernel
theorem dX10_firstFault_63 : decode cX10_firstFault 63 = .ok (.bipush (-9), 2) := by decide +kernel
theorem dX10_firstFault_65 : decode cX10_firstFault 65 = .ok (.if_icmp .ne 5, 3) := by decide +kernel
theorem dX10_firstFault_68 : decode cX10_firstFault 68 = .ok (.iload_n 3, 1) := by decide +kernel
theorem dX10_firstFault_69 : decode cX10_firstFault 69 = .ok (.ireturn, 1) := by decide +kernel
theorem dX10_firstFault_70 : decode cX10_firstFault 70 = .ok (.iinc 1 1, 3) := by decide +kernel
theorem dX10_firstFault_73 : decode cX10_firstFault 73 = .ok (.iconst 1, 1) := by decide +kernel
theorem dX10_firstFault_74 : decode cX10_firstFault 74 = .ok (.istore_n 2, 1) := by decide +kernel
theorem dX10_firstFault_75 : decode cX10_firstFault 75 = .ok (.iinc 3 1, 3) := by decide +kernel
theorem dX10_firstFault_78 : decode cX10_firstFault 78 = .ok (.goto (-72), 3) := by decide +kernel
theorem dX10_firstFault_81 : decode cX10_firstFault 81 = .ok (.iload_n 2, 1) := by decide +kernel
theorem dX10_firstFault_82 : decode cX10_firstFault 82 = .ok (.ifCond .gt 8, 3) := by decide +kernel
theorem dX10_firstFault_85 : decode cX10_firstFault 85 = .ok (.iload_n 1, 1) := by decide +kernel
theorem dX10_firstFault_86 : decode cX10_firstFault 86 = .ok (.iconst 2, 1) := by decide +kernel
theorem dX10_firstFault_87 : decode cX10_firstFault 87 = .ok (.if_icmp .ge 10, 3) := by decide +kernel
theorem dX10_firstFault_90 : decode cX10_firstFault 90 = .ok (.aload_n 0, 1) := by decide +kernel
theorem dX10_firstFault_91 : decode cX10_firstFault 91 = .ok (.getfield 103, 3) := by decide +kernel
theorem dX10_firstFault_94 : decode cX10_firstFault 94 = .ok (.goto 5, 3) := by decide +kernel
theorem dX10_firstFault_97 : decode cX10_firstFault 97 = .ok (.bipush (-9), 2) := by decide +kernel
theorem dX10_firstFault_99 : decode cX10_firstFault 99 = .ok (.ireturn, 1) := by decide +kernel
theorem dX10_fillBox_0 : decode cX10_fillBox 0 = .ok (.iconst 0, 1) := by decide +kernel
theorem dX10_fillBox_1 : decode cX10_fillBox 1 = .ok (.istore_n 2, 1) := by decide +kernel
theorem dX10_fillBox_2 : decode cX10_fillBox 2 = .ok (.iconst 0, 1) := by decide +kernel
theorem dX10_fillBox_3 : decode cX10_fillBox 3 = .ok (.istore_n 3, 1) := by decide +kernel
theorem dX10_fillBox_4 : decode cX10_fillBox 4 = .ok (.iload_n 3, 1) := by decide +kernel
theorem dX10_fillBox_5 : decode cX10_fillBox 5 = .ok (.iconst 2, 1) := by decide +kernel
theorem dX10_fillBox_6 : decode cX10_fillBox 6 = .ok (.iadd, 1) := by decide +kernel
theorem dX10_fillBox_7 : decode cX10_fillBox 7 = .ok (.aload_n 1, 1) := by decide +kernel
theorem dX10_fillBox_8 : decode cX10_fillBox 8 = .ok (.getfield 103, 3) := by decide +kernel
theorem dX10_fillBox_11 : decode cX10_fillBox 11 = .ok (.if_icmp .ge 103, 3) := by decide +kernel
theorem dX10_fillBox_14 : decode cX10_fillBox 14 = .ok (.iload_n 2, 1) := by decide +kernel
theorem dX10_fillBox_15 : decode cX10_fillBox 15 = .ok (.bipush 7, 2) := by decide +kernel
theorem dX10_fillBox_17 : decode cX10_fillBox 17 = .ok (.if_icmp .ge 97, 3) := by decide +kernel
theorem dX10_fillBox_20 : decode cX10_fillBox 20 = .ok (.aload_n 1, 1) := by decide +kernel
theorem dX10_fillBox_21 : decode cX10_fillBox 21 = .ok (.getfield 92, 3) := by decide +kernel
theorem dX10_fillBox_24 : decode cX10_fillBox 24 = .ok (.iload_n 3, 1) := by decide +kernel
theorem dX10_fillBox_25 : decode cX10_fillBox 25 = .ok (.iaload, 1) := by decide +kernel
theorem dX10_fillBox_26 : decode cX10_fillBox 26 = .ok (.invokestatic 324, 3) := by decide +kernel
theorem dX10_fillBox_29 : decode cX10_fillBox 29 = .ok (.istore 4, 2) := by decide +kernel
theorem dX10_fillBox_31 : decode cX10_fillBox 31 = .ok (.iload 4, 2) := by decide +kernel
theorem dX10_fillBox_33 : decode cX10_fillBox 33 = .ok (.bipush (-9), 2) := by decide +kernel
theorem dX10_fillBox_35 : decode cX10_fillBox 35 = .ok (.if_icmp .eq 73, 3) := by decide +kernel
theorem dX10_fillBox_38 : decode cX10_fillBox 38 = .ok (.aload_n 0, 1) := by decide +kernel
theorem dX10_fillBox_39 : decode cX10_fillBox 39 = .ok (.getfield 43, 3) := by decide +kernel
theorem dX10_fillBox_42 : decode cX10_fillBox 42 = .ok (.iload_n 2, 1) := by decide +kernel
theorem dX10_fillBox_43 : decode cX10_fillBox 43 = .ok (.aaload, 1) := by decide +kernel
theorem dX10_fillBox_44 : decode cX10_fillBox 44 = .ok (.iload 4, 2) := by decide +kernel
theorem dX10_fillBox_46 : decode cX10_fillBox 46 = .ok (.putfield 327, 3) := by decide +kernel
theorem dX10_fillBox_49 : decode cX10_fillBox 49 = .ok (.aload_n 0, 1) := by decide +kernel
theorem dX10_fillBox_50 : decode cX10_fillBox 50 = .ok (.getfield 43, 3) := by decide +kernel
theorem dX10_fillBox_53 : decode cX10_fillBox 53 = .ok (.iload_n 2, 1) := by decide +kernel
theorem dX10_fillBox_54 : decode cX10_fillBox 54 = .ok (.aaload, 1) := by decide +kernel
theorem dX10_fillBox_55 : decode cX10_fillBox 55 = .ok (.aload_n 0, 1) := by decide +kernel
theorem dX10_fillBox_56 : decode cX10_fillBox 56 = .ok (.getfield 21, 3) := by decide +kernel
theorem dX10_fillBox_59 : decode cX10_fillBox 59 = .ok (.iload 4, 2) := by decide +kernel
theorem dX10_fillBox_61 : decode cX10_fillBox 61 = .ok (.aaload, 1) := by decide +kernel
theorem dX10_fillBox_62 : decode cX10_fillBox 62 = .ok (.putfield 144, 3) := by decide +kernel
theorem dX10_fillBox_65 : decode cX10_fillBox 65 = .ok (.aload_n 0, 1) := by decide +kernel
theorem dX10_fillBox_66 : decode cX10_fillBox 66 = .ok (.getfield 43, 3) := by decide +kernel
theorem dX10_fillBox_69 : decode cX10_fillBox 69 = .ok (.iload_n 2, 1) := by decide +kernel
theorem dX10_fillBox_70 : decode cX10_fillBox 70 = .ok (.aaload, 1) := by decide +kernel
theorem dX10_fillBox_71 : decode cX10_fillBox 71 = .ok (.aload_n 1, 1) := by decide +kernel
theorem dX10_fillBox_72 : decode cX10_fillBox 72 = .ok (.getfield 92, 3) := by decide +kernel
theorem dX10_fillBox_75 : decode cX10_fillBox 75 = .ok (.iload_n 3, 1) := by decide +kernel
theorem dX10_fillBox_76 : decode cX10_fillBox 76 = .ok (.iconst 1, 1) := by decide +kernel
theorem dX10_fillBox_77 : decode cX10_fillBox 77 = .ok (.iadd, 1) := by decide +kernel
theorem dX10_fillBox_78 : decode cX10_fillBox 78 = .ok (.iaload, 1) := by decide +kernel
theorem dX10_fillBox_79 : decode cX10_fillBox 79 = .ok (.bipush 48, 2) := by decide +kernel
theorem dX10_fillBox_81 : decode cX10_fillBox 81 = .ok (.isub, 1) := by decide +kernel
theorem dX10_fillBox_82 : decode cX10_fillBox 82 = .ok (.putfield 330, 3) := by decide +kernel
theorem dX10_fillBox_85 : decode cX10_fillBox 85 = .ok (.aload_n 0, 1) := by decide +kernel
theorem dX10_fillBox_86 : decode cX10_fillBox 86 = .ok (.getfield 43, 3) := by decide +kernel
theorem dX10_fillBox_89 : decode cX10_fillBox 89 = .ok (.iload_n 2, 1) := by decide +kernel
theorem dX10_fillBox_90 : decode cX10_fillBox 90 = .ok (.aaload, 1) := by decide +kernel
theorem dX10_fillBox_91 : decode cX10_fillBox 91 = .ok (.aload_n 1, 1) := by decide +kernel
theorem dX10_fillBox_92 : decode cX10_fillBox 92 = .ok (.getfield 92, 3) := by decide +kernel
theorem dX10_fillBox_95 : decode cX10_fillBox 95 = .ok (.iload_n 3, 1) := by decide +kernel
theorem dX10_fillBox_96 : decode cX10_fillBox 96 = .ok (.iconst 2, 1) := by decide +kernel
theorem dX10_fillBox_97 : decode cX10_fillBox 97 = .ok (.iadd, 1) := by decide +kernel
theorem dX10_fillBox_98 : decode cX10_fillBox 98 = .ok (.iaload, 1) := by decide +kernel
theorem dX10_fillBox_99 : decode cX10_fillBox 99 = .ok (.bipush 48, 2) := by decide +kernel
theorem dX10_fillBox_101 : decode cX10_fillBox 101 = .ok (.isub, 1) := by decide +kernel
theorem dX10_fillBox_102 : decode cX10_fillBox 102 = .ok (.putfield 238, 3) := by decide +kernel
theorem dX10_fillBox_105 : decode cX10_fillBox 105 = .ok (.iinc 2 1, 3) := by decide +kernel
theorem dX10_fillBox_108 : decode cX10_fillBox 108 = .ok (.iinc 3 1, 3) := by decide +kernel
theorem dX10_fillBox_111 : decode cX10_fillBox 111 = .ok (.goto (-107), 3) := by decide +kernel
theorem dX10_fillBox_114 : decode cX10_fillBox 114 = .ok (.aload_n 0, 1) := by decide +kernel
theorem dX10_fillBox_115 : decode cX10_fillBox 115 = .ok (.iload_n 2, 1) := by decide +kernel
theorem dX10_fillBox_116 : decode cX10_fillBox 116 = .ok (.putfield 134, 3) := by decide +kernel
theorem dX10_fillBox_119 : decode cX10_fillBox 119 = .ok (.return_, 1) := by decide +kernel
theorem dX10_isOfKind_0 : decode cX10_isOfKind 0 = .ok (.iload_n 1, 1) := by decide +kernel
theorem dX10_isOfKind_1 : decode cX10_isOfKind 1 = .ok (.tableswitch 66 0 5 #[39, 41, 46, 51, 56, 61], 39) := by decide +kernel
theorem dX10_isOfKind_40 : decode cX10_isOfKind 40 = .ok (.iconst 1, 1) := by decide +kernel
theorem dX10_isOfKind_41 : decode cX10_isOfKind 41 = .ok (.ireturn, 1) := by decide +kernel
theorem dX10_isOfKind_42 : decode cX10_isOfKind 42 = .ok (.aload_n 0, 1) := by decide +kernel
theorem dX10_isOfKind_43 : decode cX10_isOfKind 43 = .ok (.instanceof 26, 3) := by decide +kernel
theorem dX10_isOfKind_46 : decode cX10_isOfKind 46 = .ok (.ireturn, 1) := by decide +kernel
theorem dX10_isOfKind_47 : decode cX10_isOfKind 47 = .ok (.aload_n 0, 1) := by decide +kernel
theorem dX10_isOfKind_48 : decode cX10_isOfKind 48 = .ok (.instanceof 29, 3) := by decide +kernel
theorem dX10_isOfKind_51 : decode cX10_isOfKind 51 = .ok (.ireturn, 1) := by decide +kernel
theorem dX10_isOfKind_52 : decode cX10_isOfKind 52 = .ok (.aload_n 0, 1) := by decide +kernel
theorem dX10_isOfKind_53 : decode cX10_isOfKind 53 = .ok (.instanceof 32, 3) := by decide +kernel
theorem dX10_isOfKind_56 : decode cX10_isOfKind 56 = .ok (.ireturn, 1) := by decide +kernel
theorem dX10_isOfKind_57 : decode cX10_isOfKind 57 = .ok (.aload_n 0, 1) := by decide +kernel
theorem dX10_isOfKind_58 : decode cX10_isOfKind 58 = .ok (.instanceof 35, 3) := by decide +kernel
theorem dX10_isOfKind_61 : decode cX10_isOfKind 61 = .ok (.ireturn, 1) := by decide +kernel
theorem dX10_isOfKind_62 : decode cX10_isOfKind 62 = .ok (.aload_n 0, 1) := by decide +kernel
theorem dX10_isOfKind_63 : decode cX10_isOfKind 63 = .ok (.instanceof 38, 3) := by decide +kernel
theorem dX10_isOfKind_66 : decode cX10_isOfKind 66 = .ok (.ireturn, 1) := by decide +kernel
theorem dX10_isOfKind_67 : decode cX10_isOfKind 67 = .ok (.iconst 0, 1) := by decide +kernel
theorem dX10_isOfKind_68 : decode cX10_isOfKind 68 = .ok (.ireturn, 1) := by decide +kernel
theorem dX10_digitNow_0 : decode cX10_digitNow 0 = .ok (.aload_n 0, 1) := by decide +kernel
theorem dX10_digitNow_1 : decode cX10_digitNow 1 = .ok (.getfield 53, 3) := by decide +kernel
theorem dX10_digitNow_4 : decode cX10_digitNow 4 = .ok (.iload_n 1, 1) := by decide +kernel
theorem dX10_digitNow_5 : decode cX10_digitNow 5 = .ok (.invokevirtual 333, 3) := by decide +kernel
theorem dX10_digitNow_8 : decode cX10_digitNow 8 = .ok (.ifCond .eq 18, 3) := by decide +kernel
theorem dX10_digitNow_11 : decode cX10_digitNow 11 = .ok (.bipush 9, 2) := by decide +kernel
theorem dX10_digitNow_13 : decode cX10_digitNow 13 = .ok (.aload_n 0, 1) := by decide +kernel
theorem dX10_digitNow_14 : decode cX10_digitNow 14 = .ok (.getfield 43, 3) := by decide +kernel
theorem dX10_digitNow_17 : decode cX10_digitNow 17 = .ok (.iload_n 1, 1) := by decide +kernel
theorem dX10_digitNow_18 : decode cX10_digitNow 18 = .ok (.aaload, 1) := by decide +kernel
theorem dX10_digitNow_19 : decode cX10_digitNow 19 = .ok (.getfield 330, 3) := by decide +kernel
theorem dX10_digitNow_22 : decode cX10_digitNow 22 = .ok (.isub, 1) := by decide +kernel
theorem dX10_digitNow_23 : decode cX10_digitNow 23 = .ok (.goto 12, 3) := by decide +kernel
theorem dX10_digitNow_26 : decode cX10_digitNow 26 = .ok (.aload_n 0, 1) := by decide +kernel
theorem dX10_digitNow_27 : decode cX10_digitNow 27 = .ok (.getfield 43, 3) := by decide +kernel
theorem dX10_digitNow_30 : decode cX10_digitNow 30 = .ok (.iload_n 1, 1) := by decide +kernel
theorem dX10_digitNow_31 : decode cX10_digitNow 31 = .ok (.aaload, 1) := by decide +kernel
theorem dX10_digitNow_32 : decode cX10_digitNow 32 = .ok (.getfield 330, 3) := by decide +kernel
theorem dX10_digitNow_35 : decode cX10_digitNow 35 = .ok (.ireturn, 1) := by decide +kernel
theorem dX10_shownNow_0 : decode cX10_shownNow 0 = .ok (.aload_n 0, 1) := by decide +kernel
theorem dX10_shownNow_1 : decode cX10_shownNow 1 = .ok (.getfield 43, 3) := by decide +kernel
theorem dX10_shownNow_4 : decode cX10_shownNow 4 = .ok (.iload_n 1, 1) := by decide +kernel
theorem dX10_shownNow_5 : decode cX10_shownNow 5 = .ok (.aaload, 1) := by decide +kernel
theorem dX10_shownNow_6 : decode cX10_shownNow 6 = .ok (.getfield 144, 3) := by decide +kernel
theorem dX10_shownNow_9 : decode cX10_shownNow 9 = .ok (.aload_n 0, 1) := by decide +kernel
theorem dX10_shownNow_10 : decode cX10_shownNow 10 = .ok (.iload_n 1, 1) := by decide +kernel
theorem dX10_shownNow_11 : decode cX10_shownNow 11 = .ok (.invokevirtual 188, 3) := by decide +kernel
theorem dX10_shownNow_14 : decode cX10_shownNow 14 = .ok (.aload_n 0, 1) := by decide +kernel
theorem dX10_shownNow_15 : decode cX10_shownNow 15 = .ok (.getfield 43, 3) := by decide +kernel
theorem dX10_shownNow_18 : decode cX10_shownNow 18 = .ok (.iload_n 1, 1) := by decide +kernel
theorem dX10_shownNow_19 : decode cX10_shownNow 19 = .ok (.aaload, 1) := by decide +kernel
theorem dX10_shownNow_20 : decode cX10_shownNow 20 = .ok (.getfield 238, 3) := by decide +kernel
theorem dX10_shownNow_23 : decode cX10_shownNow 23 = .ok (.iload_n 2, 1) := by decide +kernel
theorem dX10_shownNow_24 : decode cX10_shownNow 24 = .ok (.invokevirtual 336, 3) := by decide +kernel
theorem dX10_shownNow_27 : decode cX10_shownNow 27 = .ok (.ireturn, 1) := by decide +kernel
theorem dX10_shownAs_0 : decode cX10_shownAs 0 = .ok (.aload_n 0, 1) := by decide +kernel
theorem dX10_shownAs_1 : decode cX10_shownAs 1 = .ok (.getfield 21, 3) := by decide +kernel
theorem dX10_shownAs_4 : decode cX10_shownAs 4 = .ok (.iload_n 2, 1) := by decide +kernel
theorem dX10_shownAs_5 : decode cX10_shownAs 5 = .ok (.aaload, 1) := by decide +kernel
theorem dX10_shownAs_6 : decode cX10_shownAs 6 = .ok (.aload_n 0, 1) := by decide +kernel
theorem dX10_shownAs_7 : decode cX10_shownAs 7 = .ok (.iload_n 1, 1) := by decide +kernel
theorem dX10_shownAs_8 : decode cX10_shownAs 8 = .ok (.invokevirtual 188, 3) := by decide +kernel
theorem dX10_shownAs_11 : decode cX10_shownAs 11 = .ok (.aload_n 0, 1) := by decide +kernel
theorem dX10_shownAs_12 : decode cX10_shownAs 12 = .ok (.getfield 43, 3) := by decide +kernel
theorem dX10_shownAs_15 : decode cX10_shownAs 15 = .ok (.iload_n 1, 1) := by decide +kernel
theorem dX10_shownAs_16 : decode cX10_shownAs 16 = .ok (.aaload, 1) := by decide +kernel
theorem dX10_shownAs_17 : decode cX10_shownAs 17 = .ok (.getfield 238, 3) := by decide +kernel
theorem dX10_shownAs_20 : decode cX10_shownAs 20 = .ok (.iload_n 3, 1) := by decide +kernel
theorem dX10_shownAs_21 : decode cX10_shownAs 21 = .ok (.invokevirtual 336, 3) := by decide +kernel
theorem dX10_shownAs_24 : decode cX10_shownAs 24 = .ok (.ireturn, 1) := by decide +kernel
theorem dX10_ofRod_0 : decode cX10_ofRod 0 = .ok (.iload_n 2, 1) := by decide +kernel
theorem dX10_ofRod_1 : decode cX10_ofRod 1 = .ok (.tableswitch 66 0 3 #[31, 41, 47, 57], 31) := by decide +kernel
theorem dX10_ofRod_32 : decode cX10_ofRod 32 = .ok (.aload_n 0, 1) := by decide +kernel
theorem dX10_ofRod_33 : decode cX10_ofRod 33 = .ok (.getfield 43, 3) := by decide +kernel
theorem dX10_ofRod_36 : decode cX10_ofRod 36 = .ok (.iload_n 1, 1) := by decide +kernel
theorem dX10_ofRod_37 : decode cX10_ofRod 37 = .ok (.aaload, 1) := by decide +kernel
theorem dX10_ofRod_38 : decode cX10_ofRod 38 = .ok (.getfield 327, 3) := by decide +kernel
theorem dX10_ofRod_41 : decode cX10_ofRod 41 = .ok (.ireturn, 1) := by decide +kernel
theorem dX10_ofRod_42 : decode cX10_ofRod 42 = .ok (.aload_n 0, 1) := by decide +kernel
theorem dX10_ofRod_43 : decode cX10_ofRod 43 = .ok (.iload_n 1, 1) := by decide +kernel
theorem dX10_ofRod_44 : decode cX10_ofRod 44 = .ok (.invokevirtual 188, 3) := by decide +kernel
theorem dX10_ofRod_47 : decode cX10_ofRod 47 = .ok (.ireturn, 1) := by decide +kernel
theorem dX10_ofRod_48 : decode cX10_ofRod 48 = .ok (.aload_n 0, 1) := by decide +kernel
theorem dX10_ofRod_49 : decode cX10_ofRod 49 = .ok (.getfield 43, 3) := by decide +kernel
theorem dX10_ofRod_52 : decode cX10_ofRod 52 = .ok (.iload_n 1, 1) := by decide +kernel
theorem dX10_ofRod_53 : decode cX10_ofRod 53 = .ok (.aaload, 1) := by decide +kernel
theorem dX10_ofRod_54 : decode cX10_ofRod 54 = .ok (.getfield 238, 3) := by decide +kernel
theorem dX10_ofRod_57 : decode cX10_ofRod 57 = .ok (.ireturn, 1) := by decide +kernel
theorem dX10_ofRod_58 : decode cX10_ofRod 58 = .ok (.aload_n 0, 1) := by decide +kernel
theorem dX10_ofRod_59 : decode cX10_ofRod 59 = .ok (.getfield 53, 3) := by decide +kernel
theorem dX10_ofRod_62 : decode cX10_ofRod 62 = .ok (.iload_n 1, 1) := by decide +kernel
theorem dX10_ofRod_63 : decode cX10_ofRod 63 = .ok (.invokevirtual 165, 3) := by decide +kernel
theorem dX10_ofRod_66 : decode cX10_ofRod 66 = .ok (.ireturn, 1) := by decide +kernel
theorem dX10_ofRod_67 : decode cX10_ofRod 67 = .ok (.aload_n 0, 1) := by decide +kernel
theorem dX10_ofRod_68 : decode cX10_ofRod 68 = .ok (.getfield 53, 3) := by decide +kernel
theorem dX10_ofRod_71 : decode cX10_ofRod 71 = .ok (.iload_n 1, 1) := by decide +kernel
theorem dX10_ofRod_72 : decode cX10_ofRod 72 = .ok (.invokevirtual 333, 3) := by decide +kernel
theorem dX10_ofRod_75 : decode cX10_ofRod 75 = .ok (.ifCond .eq 7, 3) := by decide +kernel
theorem dX10_ofRod_78 : decode cX10_ofRod 78 = .ok (.iconst 1, 1) := by decide +kernel
theorem dX10_ofRod_79 : decode cX10_ofRod 79 = .ok (.goto 4, 3) := by decide +kernel
theorem dX10_ofRod_82 : decode cX10_ofRod 82 = .ok (.iconst 0, 1) := by decide +kernel
theorem dX10_ofRod_83 : decode cX10_ofRod 83 = .ok (.ireturn, 1) := by decide +kernel
theorem dX10_linesApart_0 : decode cX10_linesApart 0 = .ok (.iconst 0, 1) := by decide +kernel
theorem dX10_linesApart_1 : decode cX10_linesApart 1 = .ok (.istore 5, 2) := by decide +kernel
theorem dX10_linesApart_3 : decode cX10_linesApart 3 = .ok (.iconst 1, 1) := by decide +kernel
theorem dX10_linesApart_4 : decode cX10_linesApart 4 = .ok (.istore 6, 2) := by decide +kernel
theorem dX10_linesApart_6 : decode cX10_linesApart 6 = .ok (.iload 6, 2) := by decide +kernel
theorem dX10_linesApart_8 : decode cX10_linesApart 8 = .ok (.bipush 9, 2) := by decide +kernel
theorem dX10_linesApart_10 : decode cX10_linesApart 10 = .ok (.if_icmp .gt 49, 3) := by decide +kernel
theorem dX10_linesApart_13 : decode cX10_linesApart 13 = .ok (.aload_n 0, 1) := by decide +kernel
theorem dX10_linesApart_14 : decode cX10_linesApart 14 = .ok (.iload_n 1, 1) := by decide +kernel
theorem dX10_linesApart_15 : decode cX10_linesApart 15 = .ok (.iload 6, 2) := by decide +kernel
theorem dX10_linesApart_17 : decode cX10_linesApart 17 = .ok (.invokevirtual 162, 3) := by decide +kernel
theorem dX10_linesApart_20 : decode cX10_linesApart 20 = .ok (.aload_n 0, 1) := by decide +kernel
theorem dX10_linesApart_21 : decode cX10_linesApart 21 = .ok (.iload_n 1, 1) := by decide +kernel
theorem dX10_linesApart_22 : decode cX10_linesApart 22 = .ok (.iload_n 2, 1) := by decide +kernel
theorem dX10_linesApart_23 : decode cX10_linesApart 23 = .ok (.iload 6, 2) := by decide +kernel
theorem dX10_linesApart_25 : decode cX10_linesApart 25 = .ok (.invokevirtual 339, 3) := by decide +kernel
theorem dX10_linesApart_28 : decode cX10_linesApart 28 = .ok (.isub, 1) := by decide +kernel
theorem dX10_linesApart_29 : decode cX10_linesApart 29 = .ok (.istore 7, 2) := by decide +kernel
theorem dX10_linesApart_31 : decode cX10_linesApart 31 = .ok (.iload_n 3, 1) := by decide +kernel
theorem dX10_linesApart_32 : decode cX10_linesApart 32 = .ok (.ifCond .eq 8, 3) := by decide +kernel
theorem dX10_linesApart_35 : decode cX10_linesApart 35 = .ok (.iload 7, 2) := by decide +kernel
theorem dX10_linesApart_37 : decode cX10_linesApart 37 = .ok (.ifCond .lt 13, 3) := by decide +kernel
theorem dX10_linesApart_40 : decode cX10_linesApart 40 = .ok (.iload 4, 2) := by decide +kernel
theorem dX10_linesApart_42 : decode cX10_linesApart 42 = .ok (.ifCond .eq 11, 3) := by decide +kernel
theorem dX10_linesApart_45 : decode cX10_linesApart 45 = .ok (.iload 7, 2) := by decide +kernel
theorem dX10_linesApart_47 : decode cX10_linesApart 47 = .ok (.ifCond .le 6, 3) := by decide +kernel
theorem dX10_linesApart_50 : decode cX10_linesApart 50 = .ok (.iinc 5 1, 3) := by decide +kernel
theorem dX10_linesApart_53 : decode cX10_linesApart 53 = .ok (.iinc 6 1, 3) := by decide +kernel
theorem dX10_linesApart_56 : decode cX10_linesApart 56 = .ok (.goto (-50), 3) := by decide +kernel
theorem dX10_linesApart_59 : decode cX10_linesApart 59 = .ok (.iload 5, 2) := by decide +kernel
theorem dX10_linesApart_61 : decode cX10_linesApart 61 = .ok (.ireturn, 1) := by decide +kernel
theorem dX10_slidBy_0 : decode cX10_slidBy 0 = .ok (.aload_n 0, 1) := by decide +kernel
theorem dX10_slidBy_1 : decode cX10_slidBy 1 = .ok (.getfield 43, 3) := by decide +kernel
theorem dX10_slidBy_4 : decode cX10_slidBy 4 = .ok (.iload_n 1, 1) := by decide +kernel
theorem dX10_slidBy_5 : decode cX10_slidBy 5 = .ok (.aaload, 1) := by decide +kernel
theorem dX10_slidBy_6 : decode cX10_slidBy 6 = .ok (.getfield 238, 3) := by decide +kernel
theorem dX10_slidBy_9 : decode cX10_slidBy 9 = .ok (.istore_n 2, 1) := by decide +kernel
theorem dX10_slidBy_10 : decode cX10_slidBy 10 = .ok (.iload_n 2, 1) := by decide +kernel
theorem dX10_slidBy_11 : decode cX10_slidBy 11 = .ok (.invokestatic 159, 3) := by decide +kernel
theorem dX10_slidBy_14 : decode cX10_slidBy 14 = .ok (.ifCond .eq 20, 3) := by decide +kernel
theorem dX10_slidBy_17 : decode cX10_slidBy 17 = .ok (.aload_n 0, 1) := by decide +kernel
theorem dX10_slidBy_18 : decode cX10_slidBy 18 = .ok (.iload_n 1, 1) := by decide +kernel
theorem dX10_slidBy_19 : decode cX10_slidBy 19 = .ok (.iload_n 2, 1) := by decide +kernel
theorem dX10_slidBy_20 : decode cX10_slidBy 20 = .ok (.invokevirtual 162, 3) := by decide +kernel
theorem dX10_slidBy_23 : decode cX10_slidBy 23 = .ok (.aload_n 0, 1) := by decide +kernel
theorem dX10_slidBy_24 : decode cX10_slidBy 24 = .ok (.iload_n 1, 1) := by decide +kernel
theorem dX10_slidBy_25 : decode cX10_slidBy 25 = .ok (.iconst 0, 1) := by decide +kernel
theorem dX10_slidBy_26 : decode cX10_slidBy 26 = .ok (.iload_n 2, 1) := by decide +kernel
theorem dX10_slidBy_27 : decode cX10_slidBy 27 = .ok (.invokevirtual 339, 3) := by decide +kernel
theorem dX10_slidBy_30 : decode cX10_slidBy 30 = .ok (.isub, 1) := by decide +kernel
theorem dX10_slidBy_31 : decode cX10_slidBy 31 = .ok (.goto 4, 3) := by decide +kernel
theorem dX10_slidBy_34 : decode cX10_slidBy 34 = .ok (.iconst 0, 1) := by decide +kernel
theorem dX10_slidBy_35 : decode cX10_slidBy 35 = .ok (.ireturn, 1) := by decide +kernel
theorem dX10_readOff_0 : decode cX10_readOff 0 = .ok (.aload_n 0, 1) := by decide +kernel
theorem dX10_readOff_1 : decode cX10_readOff 1 = .ok (.bipush (-9), 2) := by decide +kernel
theorem dX10_readOff_3 : decode cX10_readOff 3 = .ok (.iconst 0, 1) := by decide +kernel
theorem dX10_readOff_4 : decode cX10_readOff 4 = .ok (.iload_n 1, 1) := by decide +kernel
theorem dX10_readOff_5 : decode cX10_readOff 5 = .ok (.invokevirtual 342, 3) := by decide +kernel
theorem dX10_readOff_8 : decode cX10_readOff 8 = .ok (.ireturn, 1) := by decide +kernel
theorem dX10_readWith_0 : decode cX10_readWith 0 = .ok (.iconst 0, 1) := by decide +kernel
theorem dX10_readWith_1 : decode cX10_readWith 1 = .ok (.istore 4, 2) := by decide +kernel
theorem dX10_readWith_3 : decode cX10_readWith 3 = .ok (.iconst 0, 1) := by decide +kernel
theorem dX10_readWith_4 : decode cX10_readWith 4 = .ok (.istore 5, 2) := by decide +kernel
theorem dX10_readWith_6 : decode cX10_readWith 6 = .ok (.iload 5, 2) := by decide +kernel
theorem dX10_readWith_8 : decode cX10_readWith 8 = .ok (.aload_n 0, 1) := by decide +kernel
theorem dX10_readWith_9 : decode cX10_readWith 9 = .ok (.getfield 53, 3) := by decide +kernel
theorem dX10_readWith_12 : decode cX10_readWith 12 = .ok (.getfield 175, 3) := by decide +kernel
theorem dX10_readWith_15 : decode cX10_readWith 15 = .ok (.if_icmp .ge 76, 3) := by decide +kernel
theorem dX10_readWith_18 : decode cX10_readWith 18 = .ok (.aload_n 0, 1) := by decide +kernel
theorem dX10_readWith_19 : decode cX10_readWith 19 = .ok (.getfield 43, 3) := by decide +kernel
theorem dX10_readWith_22 : decode cX10_readWith 22 = .ok (.aload_n 0, 1) := by decide +kernel
theorem dX10_readWith_23 : decode cX10_readWith 23 = .ok (.getfield 53, 3) := by decide +kernel
theorem dX10_readWith_26 : decode cX10_readWith 26 = .ok (.getfield 185, 3) := by decide +kernel
theorem dX10_readWith_29 : decode cX10_readWith 29 = .ok (.iload 5, 2) := by decide +kernel
theorem dX10_readWith_31 : decode cX10_readWith 31 = .ok (.iaload, 1) := by decide +kernel
theorem dX10_readWith_32 : decode cX10_readWith 32 = .ok (.aaload, 1) := by decide +kernel
theorem dX10_readWith_33 : decode cX10_readWith 33 = .ok (.astore 6, 2) := by decide +kernel
theorem dX10_readWith_35 : decode cX10_readWith 35 = .ok (.iload 5, 2) := by decide +kernel
theorem dX10_readWith_37 : decode cX10_readWith 37 = .ok (.iload_n 1, 1) := by decide +kernel
theorem dX10_readWith_38 : decode cX10_readWith 38 = .ok (.if_icmp .ne 7, 3) := by decide +kernel
theorem dX10_readWith_41 : decode cX10_readWith 41 = .ok (.iload_n 2, 1) := by decide +kernel
theorem dX10_readWith_42 : decode cX10_readWith 42 = .ok (.goto 17, 3) := by decide +kernel
theorem dX10_readWith_45 : decode cX10_readWith 45 = .ok (.aload_n 0, 1) := by decide +kernel
theorem dX10_readWith_46 : decode cX10_readWith 46 = .ok (.aload_n 0, 1) := by decide +kernel
theorem dX10_readWith_47 : decode cX10_readWith 47 = .ok (.getfield 53, 3) := by decide +kernel
theorem dX10_readWith_50 : decode cX10_readWith 50 = .ok (.getfield 185, 3) := by decide +kernel
theorem dX10_readWith_53 : decode cX10_readWith 53 = .ok (.iload 5, 2) := by decide +kernel
theorem dX10_readWith_55 : decode cX10_readWith 55 = .ok (.iaload, 1) := by decide +kernel
theorem dX10_readWith_56 : decode cX10_readWith 56 = .ok (.invokevirtual 188, 3) := by decide +kernel
theorem dX10_readWith_59 : decode cX10_readWith 59 = .ok (.istore 7, 2) := by decide +kernel
theorem dX10_readWith_61 : decode cX10_readWith 61 = .ok (.bipush 10, 2) := by decide +kernel
theorem dX10_readWith_63 : decode cX10_readWith 63 = .ok (.iload 4, 2) := by decide +kernel
theorem dX10_readWith_65 : decode cX10_readWith 65 = .ok (.imul, 1) := by decide +kernel
theorem dX10_readWith_66 : decode cX10_readWith 66 = .ok (.aload 6, 2) := by decide +kernel
theorem dX10_readWith_68 : decode cX10_readWith 68 = .ok (.getfield 144, 3) := by decide +kernel
theorem dX10_readWith_71 : decode cX10_readWith 71 = .ok (.iload 7, 2) := by decide +kernel
theorem dX10_readWith_73 : decode cX10_readWith 73 = .ok (.aload 6, 2) := by decide +kernel
theorem dX10_readWith_75 : decode cX10_readWith 75 = .ok (.getfield 238, 3) := by decide +kernel
theorem dX10_readWith_78 : decode cX10_readWith 78 = .ok (.iload_n 3, 1) := by decide +kernel
theorem dX10_readWith_79 : decode cX10_readWith 79 = .ok (.invokevirtual 336, 3) := by decide +kernel
theorem dX10_readWith_82 : decode cX10_readWith 82 = .ok (.iadd, 1) := by decide +kernel
theorem dX10_readWith_83 : decode cX10_readWith 83 = .ok (.istore 4, 2) := by decide +kernel
theorem dX10_readWith_85 : decode cX10_readWith 85 = .ok (.iinc 5 1, 3) := by decide +kernel
theorem dX10_readWith_88 : decode cX10_readWith 88 = .ok (.goto (-82), 3) := by decide +kernel
theorem dX10_readWith_91 : decode cX10_readWith 91 = .ok (.iload 4, 2) := by decide +kernel
theorem dX10_readWith_93 : decode cX10_readWith 93 = .ok (.ireturn, 1) := by decide +kernel
theorem dX10_wasReadWith_0 : decode cX10_wasReadWith 0 = .ok (.iconst 0, 1) := by decide +kernel
theorem dX10_wasReadWith_1 : decode cX10_wasReadWith 1 = .ok (.istore 4, 2) := by decide +kernel
theorem dX10_wasReadWith_3 : decode cX10_wasReadWith 3 = .ok (.iload 4, 2) := by decide +kernel
theorem dX10_wasReadWith_5 : decode cX10_wasReadWith 5 = .ok (.iconst 1, 1) := by decide +kernel
theorem dX10_wasReadWith_6 : decode cX10_wasReadWith 6 = .ok (.iadd, 1) := by decide +kernel
theorem dX10_wasReadWith_7 : decode cX10_wasReadWith 7 = .ok (.aload_n 3, 1) := by decide +kernel
theorem dX10_wasReadWith_8 : decode cX10_wasReadWith 8 = .ok (.getfield 103, 3) := by decide +kernel
theorem dX10_wasReadWith_11 : decode cX10_wasReadWith 11 = .ok (.if_icmp .ge 36, 3) := by decide +kernel
theorem dX10_wasReadWith_14 : decode cX10_wasReadWith 14 = .ok (.aload_n 0, 1) := by decide +kernel
theorem dX10_wasReadWith_15 : decode cX10_wasReadWith 15 = .ok (.iload_n 1, 1) := by decide +kernel
theorem dX10_wasReadWith_16 : decode cX10_wasReadWith 16 = .ok (.iload_n 2, 1) := by decide +kernel
theorem dX10_wasReadWith_17 : decode cX10_wasReadWith 17 = .ok (.aload_n 3, 1) := by decide +kernel
theorem dX10_wasReadWith_18 : decode cX10_wasReadWith 18 = .ok (.getfield 92, 3) := by decide +kernel
theorem dX10_wasReadWith_21 : decode cX10_wasReadWith 21 = .ok (.iload 4, 2) := by decide +kernel
theorem dX10_wasReadWith_23 : decode cX10_wasReadWith 23 = .ok (.iaload, 1) := by decide +kernel
theorem dX10_wasReadWith_24 : decode cX10_wasReadWith 24 = .ok (.invokevirtual 342, 3) := by decide +kernel
theorem dX10_wasReadWith_27 : decode cX10_wasReadWith 27 = .ok (.aload_n 3, 1) := by decide +kernel
theorem dX10_wasReadWith_28 : decode cX10_wasReadWith 28 = .ok (.getfield 92, 3) := by decide +kernel
theorem dX10_wasReadWith_31 : decode cX10_wasReadWith 31 = .ok (.iload 4, 2) := by decide +kernel
theorem dX10_wasReadWith_33 : decode cX10_wasReadWith 33 = .ok (.iconst 1, 1) := by decide +kernel
theorem dX10_wasReadWith_34 : decode cX10_wasReadWith 34 = .ok (.iadd, 1) := by decide +kernel
theorem dX10_wasReadWith_35 : decode cX10_wasReadWith 35 = .ok (.iaload, 1) := by decide +kernel
theorem dX10_wasReadWith_36 : decode cX10_wasReadWith 36 = .ok (.if_icmp .eq 5, 3) := by decide +kernel
theorem dX10_wasReadWith_39 : decode cX10_wasReadWith 39 = .ok (.iconst 0, 1) := by decide +kernel
theorem dX10_wasReadWith_40 : decode cX10_wasReadWith 40 = .ok (.ireturn, 1) := by decide +kernel
theorem dX10_wasReadWith_41 : decode cX10_wasReadWith 41 = .ok (.iinc 4 2, 3) := by decide +kernel
theorem dX10_wasReadWith_44 : decode cX10_wasReadWith 44 = .ok (.goto (-41), 3) := by decide +kernel
theorem dX10_wasReadWith_47 : decode cX10_wasReadWith 47 = .ok (.iconst 1, 1) := by decide +kernel
theorem dX10_wasReadWith_48 : decode cX10_wasReadWith 48 = .ok (.ireturn, 1) := by decide +kernel
theorem dX10_rightBy_0 : decode cX10_rightBy 0 = .ok (.iconst 0, 1) := by decide +kernel
theorem dX10_rightBy_1 : decode cX10_rightBy 1 = .ok (.istore_n 2, 1) := by decide +kernel
theorem dX10_rightBy_2 : decode cX10_rightBy 2 = .ok (.iconst 0, 1) := by decide +kernel
theorem dX10_rightBy_3 : decode cX10_rightBy 3 = .ok (.istore_n 3, 1) := by decide +kernel
theorem dX10_rightBy_4 : decode cX10_rightBy 4 = .ok (.iload_n 3, 1) := by decide +kernel
theorem dX10_rightBy_5 : decode cX10_rightBy 5 = .ok (.aload_n 0, 1) := by decide +kernel
theorem dX10_rightBy_6 : decode cX10_rightBy 6 = .ok (.getfield 53, 3) := by decide +kernel
theorem dX10_rightBy_9 : decode cX10_rightBy 9 = .ok (.getfield 175, 3) := by decide +kernel
theorem dX10_rightBy_12 : decode cX10_rightBy 12 = .ok (.if_icmp .ge 28, 3) := by decide +kernel
theorem dX10_rightBy_15 : decode cX10_rightBy 15 = .ok (.bipush 10, 2) := by decide +kernel
theorem dX10_rightBy_17 : decode cX10_rightBy 17 = .ok (.iload_n 2, 1) := by decide +kernel
theorem dX10_rightBy_18 : decode cX10_rightBy 18 = .ok (.imul, 1) := by decide +kernel
theorem dX10_rightBy_19 : decode cX10_rightBy 19 = .ok (.aload_n 0, 1) := by decide +kernel
theorem dX10_rightBy_20 : decode cX10_rightBy 20 = .ok (.aload_n 0, 1) := by decide +kernel
theorem dX10_rightBy_21 : decode cX10_rightBy 21 = .ok (.getfield 53, 3) := by decide +kernel
theorem dX10_rightBy_24 : decode cX10_rightBy 24 = .ok (.getfield 185, 3) := by decide +kernel
theorem dX10_rightBy_27 : decode cX10_rightBy 27 = .ok (.iload_n 3, 1) := by decide +kernel
theorem dX10_rightBy_28 : decode cX10_rightBy 28 = .ok (.iaload, 1) := by decide +kernel
theorem dX10_rightBy_29 : decode cX10_rightBy 29 = .ok (.invokevirtual 188, 3) := by decide +kernel
theorem dX10_rightBy_32 : decode cX10_rightBy 32 = .ok (.iadd, 1) := by decide +kernel
theorem dX10_rightBy_33 : decode cX10_rightBy 33 = .ok (.istore_n 2, 1) := by decide +kernel
theorem dX10_rightBy_34 : decode cX10_rightBy 34 = .ok (.iinc 3 1, 3) := by decide +kernel
theorem dX10_rightBy_37 : decode cX10_rightBy 37 = .ok (.goto (-33), 3) := by decide +kernel
theorem dX10_rightBy_40 : decode cX10_rightBy 40 = .ok (.iload_n 2, 1) := by decide +kernel
theorem dX10_rightBy_41 : decode cX10_rightBy 41 = .ok (.iload_n 1, 1) := by decide +kernel
theorem dX10_rightBy_42 : decode cX10_rightBy 42 = .ok (.imul, 1) := by decide +kernel
theorem dX10_rightBy_43 : decode cX10_rightBy 43 = .ok (.ireturn, 1) := by decide +kernel
theorem dX10_readOfLeft_0 : decode cX10_readOfLeft 0 = .ok (.iconst 0, 1) := by decide +kernel
theorem dX10_readOfLeft_1 : decode cX10_readOfLeft 1 = .ok (.istore_n 3, 1) := by decide +kernel
theorem dX10_readOfLeft_2 : decode cX10_readOfLeft 2 = .ok (.iconst 0, 1) := by decide +kernel
theorem dX10_readOfLeft_3 : decode cX10_readOfLeft 3 = .ok (.istore 4, 2) := by decide +kernel
theorem dX10_readOfLeft_5 : decode cX10_readOfLeft 5 = .ok (.iload 4, 2) := by decide +kernel
theorem dX10_readOfLeft_7 : decode cX10_readOfLeft 7 = .ok (.aload_n 0, 1) := by decide +kernel
theorem dX10_readOfLeft_8 : decode cX10_readOfLeft 8 = .ok (.getfield 53, 3) := by decide +kernel
theorem dX10_readOfLeft_11 : decode cX10_readOfLeft 11 = .ok (.getfield 175, 3) := by decide +kernel
theorem dX10_readOfLeft_14 : decode cX10_readOfLeft 14 = .ok (.if_icmp .ge 44, 3) := by decide +kernel
theorem dX10_readOfLeft_17 : decode cX10_readOfLeft 17 = .ok (.bipush 10, 2) := by decide +kernel
theorem dX10_readOfLeft_19 : decode cX10_readOfLeft 19 = .ok (.iload_n 3, 1) := by decide +kernel
theorem dX10_readOfLeft_20 : decode cX10_readOfLeft 20 = .ok (.imul, 1) := by decide +kernel
theorem dX10_readOfLeft_21 : decode cX10_readOfLeft 21 = .ok (.iload_n 2, 1) := by decide +kernel
theorem dX10_readOfLeft_22 : decode cX10_readOfLeft 22 = .ok (.iload 4, 2) := by decide +kernel
theorem dX10_readOfLeft_24 : decode cX10_readOfLeft 24 = .ok (.ishr, 1) := by decide +kernel
theorem dX10_readOfLeft_25 : decode cX10_readOfLeft 25 = .ok (.iconst 1, 1) := by decide +kernel
theorem dX10_readOfLeft_26 : decode cX10_readOfLeft 26 = .ok (.iand, 1) := by decide +kernel
theorem dX10_readOfLeft_27 : decode cX10_readOfLeft 27 = .ok (.iconst 1, 1) := by decide +kernel
theorem dX10_readOfLeft_28 : decode cX10_readOfLeft 28 = .ok (.if_icmp .ne 21, 3) := by decide +kernel
theorem dX10_readOfLeft_31 : decode cX10_readOfLeft 31 = .ok (.aload_n 0, 1) := by decide +kernel
theorem dX10_readOfLeft_32 : decode cX10_readOfLeft 32 = .ok (.aload_n 0, 1) := by decide +kernel
theorem dX10_readOfLeft_33 : decode cX10_readOfLeft 33 = .ok (.getfield 53, 3) := by decide +kernel
theorem dX10_readOfLeft_36 : decode cX10_readOfLeft 36 = .ok (.getfield 185, 3) := by decide +kernel
theorem dX10_readOfLeft_39 : decode cX10_readOfLeft 39 = .ok (.iload 4, 2) := by decide +kernel
theorem dX10_readOfLeft_41 : decode cX10_readOfLeft 41 = .ok (.iaload, 1) := by decide +kernel
theorem dX10_readOfLeft_42 : decode cX10_readOfLeft 42 = .ok (.iload_n 1, 1) := by decide +kernel
theorem dX10_readOfLeft_43 : decode cX10_readOfLeft 43 = .ok (.invokevirtual 162, 3) := by decide +kernel
theorem dX10_readOfLeft_46 : decode cX10_readOfLeft 46 = .ok (.goto 4, 3) := by decide +kernel
theorem dX10_readOfLeft_49 : decode cX10_readOfLeft 49 = .ok (.iconst 0, 1) := by decide +kernel
theorem dX10_readOfLeft_50 : decode cX10_readOfLeft 50 = .ok (.iadd, 1) := by decide +kernel
theorem dX10_readOfLeft_51 : decode cX10_readOfLeft 51 = .ok (.istore_n 3, 1) := by decide +kernel
theorem dX10_readOfLeft_52 : decode cX10_readOfLeft 52 = .ok (.iinc 4 1, 3) := by decide +kernel
theorem dX10_readOfLeft_55 : decode cX10_readOfLeft 55 = .ok (.goto (-50), 3) := by decide +kernel
theorem dX10_readOfLeft_58 : decode cX10_readOfLeft 58 = .ok (.iload_n 3, 1) := by decide +kernel
theorem dX10_readOfLeft_59 : decode cX10_readOfLeft 59 = .ok (.ireturn, 1) := by decide +kernel
theorem dX10_weightOfLeft_0 : decode cX10_weightOfLeft 0 = .ok (.lconst 1, 1) := by decide +kernel
theorem dX10_weightOfLeft_1 : decode cX10_weightOfLeft 1 = .ok (.lstore_n 3, 1) := by decide +kernel
theorem dX10_weightOfLeft_2 : decode cX10_weightOfLeft 2 = .ok (.iconst 0, 1) := by decide +kernel
theorem dX10_weightOfLeft_3 : decode cX10_weightOfLeft 3 = .ok (.istore 5, 2) := by decide +kernel
theorem dX10_weightOfLeft_5 : decode cX10_weightOfLeft 5 = .ok (.iload 5, 2) := by decide +kernel
theorem dX10_weightOfLeft_7 : decode cX10_weightOfLeft 7 = .ok (.aload_n 0, 1) := by decide +kernel
theorem dX10_weightOfLeft_8 : decode cX10_weightOfLeft 8 = .ok (.getfield 53, 3) := by decide +kernel
theorem dX10_weightOfLeft_11 : decode cX10_weightOfLeft 11 = .ok (.getfield 175, 3) := by decide +kernel
theorem dX10_weightOfLeft_14 : decode cX10_weightOfLeft 14 = .ok (.if_icmp .ge 32, 3) := by decide +kernel
theorem dX10_weightOfLeft_17 : decode cX10_weightOfLeft 17 = .ok (.lload_n 3, 1) := by decide +kernel
theorem dX10_weightOfLeft_18 : decode cX10_weightOfLeft 18 = .ok (.iload_n 1, 1) := by decide +kernel
theorem dX10_weightOfLeft_19 : decode cX10_weightOfLeft 19 = .ok (.iload 5, 2) := by decide +kernel
theorem dX10_weightOfLeft_21 : decode cX10_weightOfLeft 21 = .ok (.ishr, 1) := by decide +kernel
theorem dX10_weightOfLeft_22 : decode cX10_weightOfLeft 22 = .ok (.iconst 1, 1) := by decide +kernel
theorem dX10_weightOfLeft_23 : decode cX10_weightOfLeft 23 = .ok (.iand, 1) := by decide +kernel
theorem dX10_weightOfLeft_24 : decode cX10_weightOfLeft 24 = .ok (.iconst 1, 1) := by decide +kernel
theorem dX10_weightOfLeft_25 : decode cX10_weightOfLeft 25 = .ok (.if_icmp .ne 11, 3) := by decide +kernel
theorem dX10_weightOfLeft_28 : decode cX10_weightOfLeft 28 = .ok (.bipush 12, 2) := by decide +kernel
theorem dX10_weightOfLeft_30 : decode cX10_weightOfLeft 30 = .ok (.iload_n 2, 1) := by decide +kernel
theorem dX10_weightOfLeft_31 : decode cX10_weightOfLeft 31 = .ok (.isub, 1) := by decide +kernel
theorem dX10_weightOfLeft_32 : decode cX10_weightOfLeft 32 = .ok (.i2l, 1) := by decide +kernel
theorem dX10_weightOfLeft_33 : decode cX10_weightOfLeft 33 = .ok (.goto 5, 3) := by decide +kernel
theorem dX10_weightOfLeft_36 : decode cX10_weightOfLeft 36 = .ok (.iload_n 2, 1) := by decide +kernel
theorem dX10_weightOfLeft_37 : decode cX10_weightOfLeft 37 = .ok (.i2l, 1) := by decide +kernel
theorem dX10_weightOfLeft_38 : decode cX10_weightOfLeft 38 = .ok (.lmul, 1) := by decide +kernel
theorem dX10_weightOfLeft_39 : decode cX10_weightOfLeft 39 = .ok (.lstore_n 3, 1) := by decide +kernel
theorem dX10_weightOfLeft_40 : decode cX10_weightOfLeft 40 = .ok (.iinc 5 1, 3) := by decide +kernel
theorem dX10_weightOfLeft_43 : decode cX10_weightOfLeft 43 = .ok (.goto (-38), 3) := by decide +kernel
theorem dX10_weightOfLeft_46 : decode cX10_weightOfLeft 46 = .ok (.lload_n 3, 1) := by decide +kernel
theorem dX10_weightOfLeft_47 : decode cX10_weightOfLeft 47 = .ok (.lreturn, 1) := by decide +kernel
theorem dX10_lookAt_0 : decode cX10_lookAt 0 = .ok (.aload_n 0, 1) := by decide +kernel
theorem dX10_lookAt_1 : decode cX10_lookAt 1 = .ok (.getfield 64, 3) := by decide +kernel
theorem dX10_lookAt_4 : decode cX10_lookAt 4 = .ok (.aload_n 0, 1) := by decide +kernel
theorem dX10_lookAt_5 : decode cX10_lookAt 5 = .ok (.getfield 134, 3) := by decide +kernel
theorem dX10_lookAt_8 : decode cX10_lookAt 8 = .ok (.putfield 345, 3) := by decide +kernel
theorem dX10_lookAt_11 : decode cX10_lookAt 11 = .ok (.iconst 0, 1) := by decide +kernel
theorem dX10_lookAt_12 : decode cX10_lookAt 12 = .ok (.istore_n 2, 1) := by decide +kernel
theorem dX10_lookAt_13 : decode cX10_lookAt 13 = .ok (.iload_n 2, 1) := by decide +kernel
theorem dX10_lookAt_14 : decode cX10_lookAt 14 = .ok (.aload_n 0, 1) := by decide +kernel
theorem dX10_lookAt_15 : decode cX10_lookAt 15 = .ok (.getfield 134, 3) := by decide +kernel
theorem dX10_lookAt_18 : decode cX10_lookAt 18 = .ok (.if_icmp .ge 24, 3) := by decide +kernel
theorem dX10_lookAt_21 : decode cX10_lookAt 21 = .ok (.aload_n 0, 1) := by decide +kernel
theorem dX10_lookAt_22 : decode cX10_lookAt 22 = .ok (.getfield 64, 3) := by decide +kernel
theorem dX10_lookAt_25 : decode cX10_lookAt 25 = .ok (.getfield 347, 3) := by decide +kernel
theorem dX10_lookAt_28 : decode cX10_lookAt 28 = .ok (.iload_n 2, 1) := by decide +kernel
theorem dX10_lookAt_29 : decode cX10_lookAt 29 = .ok (.aload_n 0, 1) := by decide +kernel
theorem dX10_lookAt_30 : decode cX10_lookAt 30 = .ok (.iload_n 2, 1) := by decide +kernel
theorem dX10_lookAt_31 : decode cX10_lookAt 31 = .ok (.iload_n 1, 1) := by decide +kernel
theorem dX10_lookAt_32 : decode cX10_lookAt 32 = .ok (.invokevirtual 162, 3) := by decide +kernel
theorem dX10_lookAt_35 : decode cX10_lookAt 35 = .ok (.iastore, 1) := by decide +kernel
theorem dX10_lookAt_36 : decode cX10_lookAt 36 = .ok (.iinc 2 1, 3) := by decide +kernel
theorem dX10_lookAt_39 : decode cX10_lookAt 39 = .ok (.goto (-26), 3) := by decide +kernel
theorem dX10_lookAt_42 : decode cX10_lookAt 42 = .ok (.return_, 1) := by decide +kernel
theorem dX10_deedByLot_0 : decode cX10_deedByLot 0 = .ok (.lload_n 1, 1) := by decide +kernel
theorem dX10_deedByLot_1 : decode cX10_deedByLot 1 = .ok (.ldc2_w 349, 3) := by decide +kernel
theorem dX10_deedByLot_4 : decode cX10_deedByLot 4 = .ok (.ldiv, 1) := by decide +kernel
theorem dX10_deedByLot_5 : decode cX10_deedByLot 5 = .ok (.iconst 1, 1) := by decide +kernel
theorem dX10_deedByLot_6 : decode cX10_deedByLot 6 = .ok (.aload_n 0, 1) := by decide +kernel
theorem dX10_deedByLot_7 : decode cX10_deedByLot 7 = .ok (.getfield 134, 3) := by decide +kernel
theorem dX10_deedByLot_10 : decode cX10_deedByLot 10 = .ok (.invokestatic 210, 3) := by decide +kernel
theorem dX10_deedByLot_13 : decode cX10_deedByLot 13 = .ok (.i2l, 1) := by decide +kernel
theorem dX10_deedByLot_14 : decode cX10_deedByLot 14 = .ok (.lrem, 1) := by decide +kernel
theorem dX10_deedByLot_15 : decode cX10_deedByLot 15 = .ok (.l2i, 1) := by decide +kernel
theorem dX10_deedByLot_16 : decode cX10_deedByLot 16 = .ok (.istore_n 3, 1) := by decide +kernel
theorem dX10_deedByLot_17 : decode cX10_deedByLot 17 = .ok (.lload_n 1, 1) := by decide +kernel
theorem dX10_deedByLot_18 : decode cX10_deedByLot 18 = .ok (.ldc2_w 351, 3) := by decide +kernel
theorem dX10_deedByLot_21 : decode cX10_deedByLot 21 = .ok (.lrem, 1) := by decide +kernel
theorem dX10_deedByLot_22 : decode cX10_deedByLot 22 = .ok (.l2i, 1) := by decide +kernel
theorem dX10_deedByLot_23 : decode cX10_deedByLot 23 = .ok (.istore 4, 2) := by decide +kernel
theorem dX10_deedByLot_25 : decode cX10_deedByLot 25 = .ok (.iload 4, 2) := by decide +kernel
theorem dX10_deedByLot_27 : decode cX10_deedByLot 27 = .ok (.iconst 3, 1) := by decide +kernel
theorem dX10_deedByLot_28 : decode cX10_deedByLot 28 = .ok (.if_icmp .ne 16, 3) := by decide +kernel
theorem dX10_deedByLot_31 : decode cX10_deedByLot 31 = .ok (.aload_n 0, 1) := by decide +kernel
theorem dX10_deedByLot_32 : decode cX10_deedByLot 32 = .ok (.getfield 53, 3) := by decide +kernel
theorem dX10_deedByLot_35 : decode cX10_deedByLot 35 = .ok (.iconst 4, 1) := by decide +kernel
theorem dX10_deedByLot_36 : decode cX10_deedByLot 36 = .ok (.iload_n 3, 1) := by decide +kernel
theorem dX10_deedByLot_37 : decode cX10_deedByLot 37 = .ok (.iconst 0, 1) := by decide +kernel
theorem dX10_deedByLot_38 : decode cX10_deedByLot 38 = .ok (.invokevirtual 171, 3) := by decide +kernel
theorem dX10_deedByLot_41 : decode cX10_deedByLot 41 = .ok (.goto 80, 3) := by decide +kernel
theorem dX10_deedByLot_44 : decode cX10_deedByLot 44 = .ok (.iload 4, 2) := by decide +kernel
theorem dX10_deedByLot_46 : decode cX10_deedByLot 46 = .ok (.iconst 2, 1) := by decide +kernel
theorem dX10_deedByLot_47 : decode cX10_deedByLot 47 = .ok (.if_icmp .ne 32, 3) := by decide +kernel
theorem dX10_deedByLot_50 : decode cX10_deedByLot 50 = .ok (.aload_n 0, 1) := by decide +kernel
theorem dX10_deedByLot_51 : decode cX10_deedByLot 51 = .ok (.getfield 53, 3) := by decide +kernel
theorem dX10_deedByLot_54 : decode cX10_deedByLot 54 = .ok (.getfield 175, 3) := by decide +kernel
theorem dX10_deedByLot_57 : decode cX10_deedByLot 57 = .ok (.ifCond .le 22, 3) := by decide +kernel
theorem dX10_deedByLot_60 : decode cX10_deedByLot 60 = .ok (.aload_n 0, 1) := by decide +kernel
theorem dX10_deedByLot_61 : decode cX10_deedByLot 61 = .ok (.getfield 53, 3) := by decide +kernel
theorem dX10_deedByLot_64 : decode cX10_deedByLot 64 = .ok (.iconst 2, 1) := by decide +kernel
theorem dX10_deedByLot_65 : decode cX10_deedByLot 65 = .ok (.aload_n 0, 1) := by decide +kernel
theorem dX10_deedByLot_66 : decode cX10_deedByLot 66 = .ok (.getfield 53, 3) := by decide +kernel
theorem dX10_deedByLot_69 : decode cX10_deedByLot 69 = .ok (.invokevirtual 178, 3) := by decide +kernel
theorem dX10_deedByLot_72 : decode cX10_deedByLot 72 = .ok (.iconst 0, 1) := by decide +kernel
theorem dX10_deedByLot_73 : decode cX10_deedByLot 73 = .ok (.invokevirtual 171, 3) := by decide +kernel
theorem dX10_deedByLot_76 : decode cX10_deedByLot 76 = .ok (.goto 45, 3) := by decide +kernel
theorem dX10_deedByLot_79 : decode cX10_deedByLot 79 = .ok (.iload 4, 2) := by decide +kernel
theorem dX10_deedByLot_81 : decode cX10_deedByLot 81 = .ok (.iconst 2, 1) := by decide +kernel
theorem dX10_deedByLot_82 : decode cX10_deedByLot 82 = .ok (.if_icmp .ge 29, 3) := by decide +kernel
theorem dX10_deedByLot_85 : decode cX10_deedByLot 85 = .ok (.aload_n 0, 1) := by decide +kernel
theorem dX10_deedByLot_86 : decode cX10_deedByLot 86 = .ok (.getfield 53, 3) := by decide +kernel
theorem dX10_deedByLot_89 : decode cX10_deedByLot 89 = .ok (.iload_n 3, 1) := by decide +kernel
theorem dX10_deedByLot_90 : decode cX10_deedByLot 90 = .ok (.invokevirtual 165, 3) := by decide +kernel
theorem dX10_deedByLot_93 : decode cX10_deedByLot 93 = .ok (.bipush (-9), 2) := by decide +kernel
theorem dX10_deedByLot_95 : decode cX10_deedByLot 95 = .ok (.if_icmp .ne 16, 3) := by decide +kernel
theorem dX10_deedByLot_98 : decode cX10_deedByLot 98 = .ok (.aload_n 0, 1) := by decide +kernel
theorem dX10_deedByLot_99 : decode cX10_deedByLot 99 = .ok (.getfield 53, 3) := by decide +kernel
theorem dX10_deedByLot_102 : decode cX10_deedByLot 102 = .ok (.iconst 1, 1) := by decide +kernel
theorem dX10_deedByLot_103 : decode cX10_deedByLot 103 = .ok (.iload_n 3, 1) := by decide +kernel
theorem dX10_deedByLot_104 : decode cX10_deedByLot 104 = .ok (.iconst 0, 1) := by decide +kernel
theorem dX10_deedByLot_105 : decode cX10_deedByLot 105 = .ok (.invokevirtual 171, 3) := by decide +kernel
theorem dX10_deedByLot_108 : decode cX10_deedByLot 108 = .ok (.goto 13, 3) := by decide +kernel
theorem dX10_deedByLot_111 : decode cX10_deedByLot 111 = .ok (.aload_n 0, 1) := by decide +kernel
theorem dX10_deedByLot_112 : decode cX10_deedByLot 112 = .ok (.getfield 53, 3) := by decide +kernel
theorem dX10_deedByLot_115 : decode cX10_deedByLot 115 = .ok (.iconst 0, 1) := by decide +kernel
theorem dX10_deedByLot_116 : decode cX10_deedByLot 116 = .ok (.iconst 0, 1) := by decide +kernel
theorem dX10_deedByLot_117 : decode cX10_deedByLot 117 = .ok (.iconst 0, 1) := by decide +kernel
theorem dX10_deedByLot_118 : decode cX10_deedByLot 118 = .ok (.invokevirtual 171, 3) := by decide +kernel
theorem dX10_deedByLot_121 : decode cX10_deedByLot 121 = .ok (.return_, 1) := by decide +kernel
theorem dX10_fits_0 : decode cX10_fits 0 = .ok (.iconst 0, 1) := by decide +kernel
theorem dX10_fits_1 : decode cX10_fits 1 = .ok (.istore 4, 2) := by decide +kernel
theorem dX10_fits_3 : decode cX10_fits 3 = .ok (.iload 4, 2) := by decide +kernel
theorem dX10_fits_5 : decode cX10_fits 5 = .ok (.iconst 1, 1) := by decide +kernel
theorem dX10_fits_6 : decode cX10_fits 6 = .ok (.iadd, 1) := by decide +kernel
theorem dX10_fits_7 : decode cX10_fits 7 = .ok (.aload_n 3, 1) := by decide +kernel
theorem dX10_fits_8 : decode cX10_fits 8 = .ok (.getfield 103, 3) := by decide +kernel
theorem dX10_fits_11 : decode cX10_fits 11 = .ok (.if_icmp .ge 36, 3) := by decide +kernel
theorem dX10_fits_14 : decode cX10_fits 14 = .ok (.aload_n 0, 1) := by decide +kernel
theorem dX10_fits_15 : decode cX10_fits 15 = .ok (.iload_n 1, 1) := by decide +kernel
theorem dX10_fits_16 : decode cX10_fits 16 = .ok (.iload_n 2, 1) := by decide +kernel
theorem dX10_fits_17 : decode cX10_fits 17 = .ok (.aload_n 3, 1) := by decide +kernel
theorem dX10_fits_18 : decode cX10_fits 18 = .ok (.getfield 92, 3) := by decide +kernel
theorem dX10_fits_21 : decode cX10_fits 21 = .ok (.iload 4, 2) := by decide +kernel
theorem dX10_fits_23 : decode cX10_fits 23 = .ok (.iaload, 1) := by decide +kernel
theorem dX10_fits_24 : decode cX10_fits 24 = .ok (.invokevirtual 336, 3) := by decide +kernel
theorem dX10_fits_27 : decode cX10_fits 27 = .ok (.aload_n 3, 1) := by decide +kernel
theorem dX10_fits_28 : decode cX10_fits 28 = .ok (.getfield 92, 3) := by decide +kernel
theorem dX10_fits_31 : decode cX10_fits 31 = .ok (.iload 4, 2) := by decide +kernel
theorem dX10_fits_33 : decode cX10_fits 33 = .ok (.iconst 1, 1) := by decide +kernel
theorem dX10_fits_34 : decode cX10_fits 34 = .ok (.iadd, 1) := by decide +kernel
theorem dX10_fits_35 : decode cX10_fits 35 = .ok (.iaload, 1) := by decide +kernel
theorem dX10_fits_36 : decode cX10_fits 36 = .ok (.if_icmp .eq 5, 3) := by decide +kernel
theorem dX10_fits_39 : decode cX10_fits 39 = .ok (.iconst 0, 1) := by decide +kernel
theorem dX10_fits_40 : decode cX10_fits 40 = .ok (.ireturn, 1) := by decide +kernel
theorem dX10_fits_41 : decode cX10_fits 41 = .ok (.iinc 4 2, 3) := by decide +kernel
theorem dX10_fits_44 : decode cX10_fits 44 = .ok (.goto (-41), 3) := by decide +kernel
theorem dX10_fits_47 : decode cX10_fits 47 = .ok (.iconst 1, 1) := by decide +kernel
theorem dX10_fits_48 : decode cX10_fits 48 = .ok (.ireturn, 1) := by decide +kernel
theorem dX10_fittingKinds_0 : decode cX10_fittingKinds 0 = .ok (.iconst 0, 1) := by decide +kernel
theorem dX10_fittingKinds_1 : decode cX10_fittingKinds 1 = .ok (.istore_n 3, 1) := by decide +kernel
theorem dX10_fittingKinds_2 : decode cX10_fittingKinds 2 = .ok (.iconst 0, 1) := by decide +kernel
theorem dX10_fittingKinds_3 : decode cX10_fittingKinds 3 = .ok (.istore 4, 2) := by decide +kernel
theorem dX10_fittingKinds_5 : decode cX10_fittingKinds 5 = .ok (.iload 4, 2) := by decide +kernel
theorem dX10_fittingKinds_7 : decode cX10_fittingKinds 7 = .ok (.bipush 6, 2) := by decide +kernel
theorem dX10_fittingKinds_9 : decode cX10_fittingKinds 9 = .ok (.if_icmp .ge 44, 3) := by decide +kernel
theorem dX10_fittingKinds_12 : decode cX10_fittingKinds 12 = .ok (.aload_n 0, 1) := by decide +kernel
theorem dX10_fittingKinds_13 : decode cX10_fittingKinds 13 = .ok (.getfield 21, 3) := by decide +kernel
theorem dX10_fittingKinds_16 : decode cX10_fittingKinds 16 = .ok (.iload 4, 2) := by decide +kernel
theorem dX10_fittingKinds_18 : decode cX10_fittingKinds 18 = .ok (.aaload, 1) := by decide +kernel
theorem dX10_fittingKinds_19 : decode cX10_fittingKinds 19 = .ok (.aload_n 0, 1) := by decide +kernel
theorem dX10_fittingKinds_20 : decode cX10_fittingKinds 20 = .ok (.iload_n 1, 1) := by decide +kernel
theorem dX10_fittingKinds_21 : decode cX10_fittingKinds 21 = .ok (.invokevirtual 188, 3) := by decide +kernel
theorem dX10_fittingKinds_24 : decode cX10_fittingKinds 24 = .ok (.aload_n 0, 1) := by decide +kernel
theorem dX10_fittingKinds_25 : decode cX10_fittingKinds 25 = .ok (.getfield 43, 3) := by decide +kernel
theorem dX10_fittingKinds_28 : decode cX10_fittingKinds 28 = .ok (.iload_n 1, 1) := by decide +kernel
theorem dX10_fittingKinds_29 : decode cX10_fittingKinds 29 = .ok (.aaload, 1) := by decide +kernel
theorem dX10_fittingKinds_30 : decode cX10_fittingKinds 30 = .ok (.getfield 238, 3) := by decide +kernel
theorem dX10_fittingKinds_33 : decode cX10_fittingKinds 33 = .ok (.aload_n 2, 1) := by decide +kernel
theorem dX10_fittingKinds_34 : decode cX10_fittingKinds 34 = .ok (.invokestatic 241, 3) := by decide +kernel
theorem dX10_fittingKinds_37 : decode cX10_fittingKinds 37 = .ok (.ifCond .eq 10, 3) := by decide +kernel
theorem dX10_fittingKinds_40 : decode cX10_fittingKinds 40 = .ok (.iload_n 3, 1) := by decide +kernel
theorem dX10_fittingKinds_41 : decode cX10_fittingKinds 41 = .ok (.iconst 1, 1) := by decide +kernel
theorem dX10_fittingKinds_42 : decode cX10_fittingKinds 42 = .ok (.iload 4, 2) := by decide +kernel
theorem dX10_fittingKinds_44 : decode cX10_fittingKinds 44 = .ok (.ishl, 1) := by decide +kernel
theorem dX10_fittingKinds_45 : decode cX10_fittingKinds 45 = .ok (.ior, 1) := by decide +kernel
theorem dX10_fittingKinds_46 : decode cX10_fittingKinds 46 = .ok (.istore_n 3, 1) := by decide +kernel
theorem dX10_fittingKinds_47 : decode cX10_fittingKinds 47 = .ok (.iinc 4 1, 3) := by decide +kernel
theorem dX10_fittingKinds_50 : decode cX10_fittingKinds 50 = .ok (.goto (-45), 3) := by decide +kernel
theorem dX10_fittingKinds_53 : decode cX10_fittingKinds 53 = .ok (.iload_n 3, 1) := by decide +kernel
theorem dX10_fittingKinds_54 : decode cX10_fittingKinds 54 = .ok (.ireturn, 1) := by decide +kernel
theorem dX10_greatestPart_0 : decode cX10_greatestPart 0 = .ok (.iconst 0, 1) := by decide +kernel
theorem dX10_greatestPart_1 : decode cX10_greatestPart 1 = .ok (.istore 4, 2) := by decide +kernel
theorem dX10_greatestPart_3 : decode cX10_greatestPart 3 = .ok (.iconst 0, 1) := by decide +kernel
theorem dX10_greatestPart_4 : decode cX10_greatestPart 4 = .ok (.istore 5, 2) := by decide +kernel
theorem dX10_greatestPart_6 : decode cX10_greatestPart 6 = .ok (.iload 5, 2) := by decide +kernel
theorem dX10_greatestPart_8 : decode cX10_greatestPart 8 = .ok (.bipush 6, 2) := by decide +kernel
theorem dX10_greatestPart_10 : decode cX10_greatestPart 10 = .ok (.if_icmp .ge 74, 3) := by decide +kernel
theorem dX10_greatestPart_13 : decode cX10_greatestPart 13 = .ok (.iconst 0, 1) := by decide +kernel
theorem dX10_greatestPart_14 : decode cX10_greatestPart 14 = .ok (.istore 6, 2) := by decide +kernel
theorem dX10_greatestPart_16 : decode cX10_greatestPart 16 = .ok (.iconst 0, 1) := by decide +kernel
theorem dX10_greatestPart_17 : decode cX10_greatestPart 17 = .ok (.istore 7, 2) := by decide +kernel
theorem dX10_greatestPart_19 : decode cX10_greatestPart 19 = .ok (.iload 7, 2) := by decide +kernel
theorem dX10_greatestPart_21 : decode cX10_greatestPart 21 = .ok (.bipush 6, 2) := by decide +kernel
theorem dX10_greatestPart_23 : decode cX10_greatestPart 23 = .ok (.if_icmp .ge 46, 3) := by decide +kernel
theorem dX10_greatestPart_26 : decode cX10_greatestPart 26 = .ok (.iload_n 2, 1) := by decide +kernel
theorem dX10_greatestPart_27 : decode cX10_greatestPart 27 = .ok (.iload 5, 2) := by decide +kernel
theorem dX10_greatestPart_29 : decode cX10_greatestPart 29 = .ok (.ishr, 1) := by decide +kernel
theorem dX10_greatestPart_30 : decode cX10_greatestPart 30 = .ok (.iload_n 2, 1) := by decide +kernel
theorem dX10_greatestPart_31 : decode cX10_greatestPart 31 = .ok (.iload 7, 2) := by decide +kernel
theorem dX10_greatestPart_33 : decode cX10_greatestPart 33 = .ok (.ishr, 1) := by decide +kernel
theorem dX10_greatestPart_34 : decode cX10_greatestPart 34 = .ok (.iand, 1) := by decide +kernel
theorem dX10_greatestPart_35 : decode cX10_greatestPart 35 = .ok (.iconst 1, 1) := by decide +kernel
theorem dX10_greatestPart_36 : decode cX10_greatestPart 36 = .ok (.iand, 1) := by decide +kernel
theorem dX10_greatestPart_37 : decode cX10_greatestPart 37 = .ok (.iconst 1, 1) := by decide +kernel
theorem dX10_greatestPart_38 : decode cX10_greatestPart 38 = .ok (.if_icmp .ne 25, 3) := by decide +kernel
theorem dX10_greatestPart_41 : decode cX10_greatestPart 41 = .ok (.aload_n 0, 1) := by decide +kernel
theorem dX10_greatestPart_42 : decode cX10_greatestPart 42 = .ok (.iload_n 1, 1) := by decide +kernel
theorem dX10_greatestPart_43 : decode cX10_greatestPart 43 = .ok (.iload 5, 2) := by decide +kernel
theorem dX10_greatestPart_45 : decode cX10_greatestPart 45 = .ok (.iload_n 3, 1) := by decide +kernel
theorem dX10_greatestPart_46 : decode cX10_greatestPart 46 = .ok (.invokevirtual 339, 3) := by decide +kernel
theorem dX10_greatestPart_49 : decode cX10_greatestPart 49 = .ok (.aload_n 0, 1) := by decide +kernel
theorem dX10_greatestPart_50 : decode cX10_greatestPart 50 = .ok (.iload_n 1, 1) := by decide +kernel
theorem dX10_greatestPart_51 : decode cX10_greatestPart 51 = .ok (.iload 7, 2) := by decide +kernel
theorem dX10_greatestPart_53 : decode cX10_greatestPart 53 = .ok (.iload_n 3, 1) := by decide +kernel
theorem dX10_greatestPart_54 : decode cX10_greatestPart 54 = .ok (.invokevirtual 339, 3) := by decide +kernel
theorem dX10_greatestPart_57 : decode cX10_greatestPart 57 = .ok (.if_icmp .ne 6, 3) := by decide +kernel
theorem dX10_greatestPart_60 : decode cX10_greatestPart 60 = .ok (.iinc 6 1, 3) := by decide +kernel
theorem dX10_greatestPart_63 : decode cX10_greatestPart 63 = .ok (.iinc 7 1, 3) := by decide +kernel
theorem dX10_greatestPart_66 : decode cX10_greatestPart 66 = .ok (.goto (-47), 3) := by decide +kernel
theorem dX10_greatestPart_69 : decode cX10_greatestPart 69 = .ok (.iload 4, 2) := by decide +kernel
theorem dX10_greatestPart_71 : decode cX10_greatestPart 71 = .ok (.iload 6, 2) := by decide +kernel
theorem dX10_greatestPart_73 : decode cX10_greatestPart 73 = .ok (.invokestatic 210, 3) := by decide +kernel
theorem dX10_greatestPart_76 : decode cX10_greatestPart 76 = .ok (.istore 4, 2) := by decide +kernel
theorem dX10_greatestPart_78 : decode cX10_greatestPart 78 = .ok (.iinc 5 1, 3) := by decide +kernel
theorem dX10_greatestPart_81 : decode cX10_greatestPart 81 = .ok (.goto (-75), 3) := by decide +kernel
theorem dX10_greatestPart_84 : decode cX10_greatestPart 84 = .ok (.iload 4, 2) := by decide +kernel
theorem dX10_greatestPart_86 : decode cX10_greatestPart 86 = .ok (.ireturn, 1) := by decide +kernel
theorem dX10_tell_0 : decode cX10_tell 0 = .ok (.lload_n 1, 1) := by decide +kernel
theorem dX10_tell_1 : decode cX10_tell 1 = .ok (.lload_n 3, 1) := by decide +kernel
theorem dX10_tell_2 : decode cX10_tell 2 = .ok (.invokestatic 353, 3) := by decide +kernel
theorem dX10_tell_5 : decode cX10_tell 5 = .ok (.lstore 5, 2) := by decide +kernel
theorem dX10_tell_7 : decode cX10_tell 7 = .ok (.lload 5, 2) := by decide +kernel
theorem dX10_tell_9 : decode cX10_tell 9 = .ok (.lconst 0, 1) := by decide +kernel
theorem dX10_tell_10 : decode cX10_tell 10 = .ok (.lcmp, 1) := by decide +kernel
theorem dX10_tell_11 : decode cX10_tell 11 = .ok (.ifCond .le 19, 3) := by decide +kernel
theorem dX10_tell_14 : decode cX10_tell 14 = .ok (.aload_n 0, 1) := by decide +kernel
theorem dX10_tell_15 : decode cX10_tell 15 = .ok (.lload_n 1, 1) := by decide +kernel
theorem dX10_tell_16 : decode cX10_tell 16 = .ok (.lload 5, 2) := by decide +kernel
theorem dX10_tell_18 : decode cX10_tell 18 = .ok (.ldiv, 1) := by decide +kernel
theorem dX10_tell_19 : decode cX10_tell 19 = .ok (.putfield 287, 3) := by decide +kernel
theorem dX10_tell_22 : decode cX10_tell 22 = .ok (.aload_n 0, 1) := by decide +kernel
theorem dX10_tell_23 : decode cX10_tell 23 = .ok (.lload_n 3, 1) := by decide +kernel
theorem dX10_tell_24 : decode cX10_tell 24 = .ok (.lload 5, 2) := by decide +kernel
theorem dX10_tell_26 : decode cX10_tell 26 = .ok (.ldiv, 1) := by decide +kernel
theorem dX10_tell_27 : decode cX10_tell 27 = .ok (.putfield 68, 3) := by decide +kernel
theorem dX10_tell_30 : decode cX10_tell 30 = .ok (.return_, 1) := by decide +kernel
theorem dX10_greatestShared_0 : decode cX10_greatestShared 0 = .ok (.lload_n 0, 1) := by decide +kernel
theorem dX10_greatestShared_1 : decode cX10_greatestShared 1 = .ok (.lstore 4, 2) := by decide +kernel
theorem dX10_greatestShared_3 : decode cX10_greatestShared 3 = .ok (.lload_n 2, 1) := by decide +kernel
theorem dX10_greatestShared_4 : decode cX10_greatestShared 4 = .ok (.lstore 6, 2) := by decide +kernel
theorem dX10_greatestShared_6 : decode cX10_greatestShared 6 = .ok (.iconst 0, 1) := by decide +kernel
theorem dX10_greatestShared_7 : decode cX10_greatestShared 7 = .ok (.istore 8, 2) := by decide +kernel
theorem dX10_greatestShared_9 : decode cX10_greatestShared 9 = .ok (.iload 8, 2) := by decide +kernel
theorem dX10_greatestShared_11 : decode cX10_greatestShared 11 = .ok (.sipush 200, 3) := by decide +kernel
theorem dX10_greatestShared_14 : decode cX10_greatestShared 14 = .ok (.if_icmp .ge 31, 3) := by decide +kernel
theorem dX10_greatestShared_17 : decode cX10_greatestShared 17 = .ok (.lload 6, 2) := by decide +kernel
theorem dX10_greatestShared_19 : decode cX10_greatestShared 19 = .ok (.lconst 0, 1) := by decide +kernel
theorem dX10_greatestShared_20 : decode cX10_greatestShared 20 = .ok (.lcmp, 1) := by decide +kernel
theorem dX10_greatestShared_21 : decode cX10_greatestShared 21 = .ok (.ifCond .eq 24, 3) := by decide +kernel
theorem dX10_greatestShared_24 : decode cX10_greatestShared 24 = .ok (.lload 4, 2) := by decide +kernel
theorem dX10_greatestShared_26 : decode cX10_greatestShared 26 = .ok (.lload 6, 2) := by decide +kernel
theorem dX10_greatestShared_28 : decode cX10_greatestShared 28 = .ok (.lrem, 1) := by decide +kernel
theorem dX10_greatestShared_29 : decode cX10_greatestShared 29 = .ok (.lstore 9, 2) := by decide +kernel
theorem dX10_greatestShared_31 : decode cX10_greatestShared 31 = .ok (.lload 6, 2) := by decide +kernel
theorem dX10_greatestShared_33 : decode cX10_greatestShared 33 = .ok (.lstore 4, 2) := by decide +kernel
theorem dX10_greatestShared_35 : decode cX10_greatestShared 35 = .ok (.lload 9, 2) := by decide +kernel
theorem dX10_greatestShared_37 : decode cX10_greatestShared 37 = .ok (.lstore 6, 2) := by decide +kernel
theorem dX10_greatestShared_39 : decode cX10_greatestShared 39 = .ok (.iinc 8 1, 3) := by decide +kernel
theorem dX10_greatestShared_42 : decode cX10_greatestShared 42 = .ok (.goto (-33), 3) := by decide +kernel
theorem dX10_greatestShared_45 : decode cX10_greatestShared 45 = .ok (.lload 4, 2) := by decide +kernel
theorem dX10_greatestShared_47 : decode cX10_greatestShared 47 = .ok (.lreturn, 1) := by decide +kernel
theorem dX10_howManyThere_0 : decode cX10_howManyThere 0 = .ok (.iconst 0, 1) := by decide +kernel
theorem dX10_howManyThere_1 : decode cX10_howManyThere 1 = .ok (.istore_n 1, 1) := by decide +kernel
theorem dX10_howManyThere_2 : decode cX10_howManyThere 2 = .ok (.iconst 0, 1) := by decide +kernel
theorem dX10_howManyThere_3 : decode cX10_howManyThere 3 = .ok (.istore_n 2, 1) := by decide +kernel
theorem dX10_howManyThere_4 : decode cX10_howManyThere 4 = .ok (.iload_n 2, 1) := by decide +kernel
theorem dX10_howManyThere_5 : decode cX10_howManyThere 5 = .ok (.aload_n 0, 1) := by decide +kernel
theorem dX10_howManyThere_6 : decode cX10_howManyThere 6 = .ok (.arraylength, 1) := by decide +kernel
theorem dX10_howManyThere_7 : decode cX10_howManyThere 7 = .ok (.if_icmp .ge 21, 3) := by decide +kernel
theorem dX10_howManyThere_10 : decode cX10_howManyThere 10 = .ok (.aload_n 0, 1) := by decide +kernel
theorem dX10_howManyThere_11 : decode cX10_howManyThere 11 = .ok (.iload_n 2, 1) := by decide +kernel
theorem dX10_howManyThere_12 : decode cX10_howManyThere 12 = .ok (.aaload, 1) := by decide +kernel
theorem dX10_howManyThere_13 : decode cX10_howManyThere 13 = .ok (.invokevirtual 99, 3) := by decide +kernel
theorem dX10_howManyThere_16 : decode cX10_howManyThere 16 = .ok (.ifCond .eq 6, 3) := by decide +kernel
theorem dX10_howManyThere_19 : decode cX10_howManyThere 19 = .ok (.iinc 1 1, 3) := by decide +kernel
theorem dX10_howManyThere_22 : decode cX10_howManyThere 22 = .ok (.iinc 2 1, 3) := by decide +kernel
theorem dX10_howManyThere_25 : decode cX10_howManyThere 25 = .ok (.goto (-21), 3) := by decide +kernel
theorem dX10_howManyThere_28 : decode cX10_howManyThere 28 = .ok (.iload_n 1, 1) := by decide +kernel
theorem dX10_howManyThere_29 : decode cX10_howManyThere 29 = .ok (.ireturn, 1) := by decide +kernel
theorem dX10_howManyKept_0 : decode cX10_howManyKept 0 = .ok (.iconst 0, 1) := by decide +kernel
theorem dX10_howManyKept_1 : decode cX10_howManyKept 1 = .ok (.istore_n 1, 1) := by decide +kernel
theorem dX10_howManyKept_2 : decode cX10_howManyKept 2 = .ok (.iconst 0, 1) := by decide +kernel
theorem dX10_howManyKept_3 : decode cX10_howManyKept 3 = .ok (.istore_n 2, 1) := by decide +kernel
theorem dX10_howManyKept_4 : decode cX10_howManyKept 4 = .ok (.iload_n 2, 1) := by decide +kernel
theorem dX10_howManyKept_5 : decode cX10_howManyKept 5 = .ok (.iconst 3, 1) := by decide +kernel
theorem dX10_howManyKept_6 : decode cX10_howManyKept 6 = .ok (.if_icmp .ge 24, 3) := by decide +kernel
theorem dX10_howManyKept_9 : decode cX10_howManyKept 9 = .ok (.aload_n 0, 1) := by decide +kernel
theorem dX10_howManyKept_10 : decode cX10_howManyKept 10 = .ok (.getfield 57, 3) := by decide +kernel
theorem dX10_howManyKept_13 : decode cX10_howManyKept 13 = .ok (.iload_n 2, 1) := by decide +kernel
theorem dX10_howManyKept_14 : decode cX10_howManyKept 14 = .ok (.aaload, 1) := by decide +kernel
theorem dX10_howManyKept_15 : decode cX10_howManyKept 15 = .ok (.getfield 130, 3) := by decide +kernel
theorem dX10_howManyKept_18 : decode cX10_howManyKept 18 = .ok (.ifCond .eq 6, 3) := by decide +kernel
theorem dX10_howManyKept_21 : decode cX10_howManyKept 21 = .ok (.iinc 1 1, 3) := by decide +kernel
theorem dX10_howManyKept_24 : decode cX10_howManyKept 24 = .ok (.iinc 2 1, 3) := by decide +kernel
theorem dX10_howManyKept_27 : decode cX10_howManyKept 27 = .ok (.goto (-23), 3) := by decide +kernel
theorem dX10_howManyKept_30 : decode cX10_howManyKept 30 = .ok (.iload_n 1, 1) := by decide +kernel
theorem dX10_howManyKept_31 : decode cX10_howManyKept 31 = .ok (.ireturn, 1) := by decide +kernel
theorem dX10_howManyOf_0 : decode cX10_howManyOf 0 = .ok (.iconst 0, 1) := by decide +kernel
theorem dX10_howManyOf_1 : decode cX10_howManyOf 1 = .ok (.istore_n 2, 1) := by decide +kernel
theorem dX10_howManyOf_2 : decode cX10_howManyOf 2 = .ok (.iconst 0, 1) := by decide +kernel
theorem dX10_howManyOf_3 : decode cX10_howManyOf 3 = .ok (.istore_n 3, 1) := by decide +kernel
theorem dX10_howManyOf_4 : decode cX10_howManyOf 4 = .ok (.iload_n 3, 1) := by decide +kernel
theorem dX10_howManyOf_5 : decode cX10_howManyOf 5 = .ok (.aload_n 0, 1) := by decide +kernel
theorem dX10_howManyOf_6 : decode cX10_howManyOf 6 = .ok (.getfield 134, 3) := by decide +kernel
theorem dX10_howManyOf_9 : decode cX10_howManyOf 9 = .ok (.if_icmp .ge 28, 3) := by decide +kernel
theorem dX10_howManyOf_12 : decode cX10_howManyOf 12 = .ok (.aload_n 0, 1) := by decide +kernel
theorem dX10_howManyOf_13 : decode cX10_howManyOf 13 = .ok (.getfield 43, 3) := by decide +kernel
theorem dX10_howManyOf_16 : decode cX10_howManyOf 16 = .ok (.iload_n 3, 1) := by decide +kernel
theorem dX10_howManyOf_17 : decode cX10_howManyOf 17 = .ok (.aaload, 1) := by decide +kernel
theorem dX10_howManyOf_18 : decode cX10_howManyOf 18 = .ok (.getfield 144, 3) := by decide +kernel
theorem dX10_howManyOf_21 : decode cX10_howManyOf 21 = .ok (.iload_n 1, 1) := by decide +kernel
theorem dX10_howManyOf_22 : decode cX10_howManyOf 22 = .ok (.invokestatic 148, 3) := by decide +kernel
theorem dX10_howManyOf_25 : decode cX10_howManyOf 25 = .ok (.ifCond .eq 6, 3) := by decide +kernel
theorem dX10_howManyOf_28 : decode cX10_howManyOf 28 = .ok (.iinc 2 1, 3) := by decide +kernel
theorem dX10_howManyOf_31 : decode cX10_howManyOf 31 = .ok (.iinc 3 1, 3) := by decide +kernel
theorem dX10_howManyOf_34 : decode cX10_howManyOf 34 = .ok (.goto (-30), 3) := by decide +kernel
theorem dX10_howManyOf_37 : decode cX10_howManyOf 37 = .ok (.iload_n 2, 1) := by decide +kernel
theorem dX10_howManyOf_38 : decode cX10_howManyOf 38 = .ok (.ireturn, 1) := by decide +kernel
theorem dX10_withStrips_0 : decode cX10_withStrips 0 = .ok (.lload_n 0, 1) := by decide +kernel
theorem dX10_withStrips_1 : decode cX10_withStrips 1 = .ok (.lstore_n 3, 1) := by decide +kernel
theorem dX10_withStrips_2 : decode cX10_withStrips 2 = .ok (.iconst 0, 1) := by decide +kernel
theorem dX10_withStrips_3 : decode cX10_withStrips 3 = .ok (.istore 5, 2) := by decide +kernel
theorem dX10_withStrips_5 : decode cX10_withStrips 5 = .ok (.iload 5, 2) := by decide +kernel
theorem dX10_withStrips_7 : decode cX10_withStrips 7 = .ok (.aload_n 2, 1) := by decide +kernel
theorem dX10_withStrips_8 : decode cX10_withStrips 8 = .ok (.arraylength, 1) := by decide +kernel
theorem dX10_withStrips_9 : decode cX10_withStrips 9 = .ok (.if_icmp .ge 63, 3) := by decide +kernel
theorem dX10_withStrips_12 : decode cX10_withStrips 12 = .ok (.ldc2_w 308, 3) := by decide +kernel
theorem dX10_withStrips_15 : decode cX10_withStrips 15 = .ok (.lload_n 3, 1) := by decide +kernel
theorem dX10_withStrips_16 : decode cX10_withStrips 16 = .ok (.lmul, 1) := by decide +kernel
theorem dX10_withStrips_17 : decode cX10_withStrips 17 = .ok (.aload_n 2, 1) := by decide +kernel
theorem dX10_withStrips_18 : decode cX10_withStrips 18 = .ok (.iload 5, 2) := by decide +kernel
theorem dX10_withStrips_20 : decode cX10_withStrips 20 = .ok (.aaload, 1) := by decide +kernel
theorem dX10_withStrips_21 : decode cX10_withStrips 21 = .ok (.getfield 103, 3) := by decide +kernel
theorem dX10_withStrips_24 : decode cX10_withStrips 24 = .ok (.i2l, 1) := by decide +kernel
theorem dX10_withStrips_25 : decode cX10_withStrips 25 = .ok (.ladd, 1) := by decide +kernel
theorem dX10_withStrips_26 : decode cX10_withStrips 26 = .ok (.lstore_n 3, 1) := by decide +kernel
theorem dX10_withStrips_27 : decode cX10_withStrips 27 = .ok (.iconst 0, 1) := by decide +kernel
theorem dX10_withStrips_28 : decode cX10_withStrips 28 = .ok (.istore 6, 2) := by decide +kernel
theorem dX10_withStrips_30 : decode cX10_withStrips 30 = .ok (.iload 6, 2) := by decide +kernel
theorem dX10_withStrips_32 : decode cX10_withStrips 32 = .ok (.aload_n 2, 1) := by decide +kernel
theorem dX10_withStrips_33 : decode cX10_withStrips 33 = .ok (.iload 5, 2) := by decide +kernel
theorem dX10_withStrips_35 : decode cX10_withStrips 35 = .ok (.aaload, 1) := by decide +kernel
theorem dX10_withStrips_36 : decode cX10_withStrips 36 = .ok (.getfield 103, 3) := by decide +kernel
theorem dX10_withStrips_39 : decode cX10_withStrips 39 = .ok (.if_icmp .ge 27, 3) := by decide +kernel
theorem dX10_withStrips_42 : decode cX10_withStrips 42 = .ok (.ldc2_w 308, 3) := by decide +kernel
theorem dX10_withStrips_45 : decode cX10_withStrips 45 = .ok (.lload_n 3, 1) := by decide +kernel
theorem dX10_withStrips_46 : decode cX10_withStrips 46 = .ok (.lmul, 1) := by decide +kernel
theorem dX10_withStrips_47 : decode cX10_withStrips 47 = .ok (.aload_n 2, 1) := by decide +kernel
theorem dX10_withStrips_48 : decode cX10_withStrips 48 = .ok (.iload 5, 2) := by decide +kernel
theorem dX10_withStrips_50 : decode cX10_withStrips 50 = .ok (.aaload, 1) := by decide +kernel
theorem dX10_withStrips_51 : decode cX10_withStrips 51 = .ok (.getfield 92, 3) := by decide +kernel
theorem dX10_withStrips_54 : decode cX10_withStrips 54 = .ok (.iload 6, 2) := by decide +kernel
theorem dX10_withStrips_56 : decode cX10_withStrips 56 = .ok (.iaload, 1) := by decide +kernel
theorem dX10_withStrips_57 : decode cX10_withStrips 57 = .ok (.i2l, 1) := by decide +kernel
theorem dX10_withStrips_58 : decode cX10_withStrips 58 = .ok (.ladd, 1) := by decide +kernel
theorem dX10_withStrips_59 : decode cX10_withStrips 59 = .ok (.lstore_n 3, 1) := by decide +kernel
theorem dX10_withStrips_60 : decode cX10_withStrips 60 = .ok (.iinc 6 1, 3) := by decide +kernel
theorem dX10_withStrips_63 : decode cX10_withStrips 63 = .ok (.goto (-33), 3) := by decide +kernel
theorem dX10_withStrips_66 : decode cX10_withStrips 66 = .ok (.iinc 5 1, 3) := by decide +kernel
theorem dX10_withStrips_69 : decode cX10_withStrips 69 = .ok (.goto (-64), 3) := by decide +kernel
theorem dX10_withStrips_72 : decode cX10_withStrips 72 = .ok (.lload_n 3, 1) := by decide +kernel
theorem dX10_withStrips_73 : decode cX10_withStrips 73 = .ok (.lreturn, 1) := by decide +kernel
theorem dX11_init_0 : decode cX11_init 0 = .ok (.aload_n 0, 1) := by decide +kernel
theorem dX11_init_1 : decode cX11_init 1 = .ok (.invokespecial 1, 3) := by decide +kernel
theorem dX11_init_4 : decode cX11_init 4 = .ok (.aload_n 0, 1) := by decide +kernel
theorem dX11_init_5 : decode cX11_init 5 = .ok (.sipush 1568, 3) := by decide +kernel
theorem dX11_init_8 : decode cX11_init 8 = .ok (.newarray .int, 2) := by decide +kernel
theorem dX11_init_10 : decode cX11_init 10 = .ok (.putfield 7, 3) := by decide +kernel
theorem dX11_init_13 : decode cX11_init 13 = .ok (.aload_n 0, 1) := by decide +kernel
theorem dX11_init_14 : decode cX11_init 14 = .ok (.bipush 6, 2) := by decide +kernel
theorem dX11_init_16 : decode cX11_init 16 = .ok (.newarray .int, 2) := by decide +kernel
theorem dX11_init_18 : decode cX11_init 18 = .ok (.putfield 13, 3) := by decide +kernel
theorem dX11_init_21 : decode cX11_init 21 = .ok (.aload_n 0, 1) := by decide +kernel
theorem dX11_init_22 : decode cX11_init 22 = .ok (.sipush 240, 3) := by decide +kernel
theorem dX11_init_25 : decode cX11_init 25 = .ok (.newarray .int, 2) := by decide +kernel
theorem dX11_init_27 : decode cX11_init 27 = .ok (.putfield 16, 3) := by decide +kernel
theorem dX11_init_30 : decode cX11_init 30 = .ok (.aload_n 0, 1) := by decide +kernel
theorem dX11_init_31 : decode cX11_init 31 = .ok (.iconst 4, 1) := by decide +kernel
theorem dX11_init_32 : decode cX11_init 32 = .ok (.newarray .int, 2) := by decide +kernel
theorem dX11_init_34 : decode cX11_init 34 = .ok (.putfield 19, 3) := by decide +kernel
theorem dX11_init_37 : decode cX11_init 37 = .ok (.aload_n 0, 1) := by decide +kernel
theorem dX11_init_38 : decode cX11_init 38 = .ok (.sipush 240, 3) := by decide +kernel
theorem dX11_init_41 : decode cX11_init 41 = .ok (.newarray .int, 2) := by decide +kernel
theorem dX11_init_43 : decode cX11_init 43 = .ok (.putfield 22, 3) := by decide +kernel
theorem dX11_init_46 : decode cX11_init 46 = .ok (.aload_n 0, 1) := by decide +kernel
theorem dX11_init_47 : decode cX11_init 47 = .ok (.bipush 6, 2) := by decide +kernel
theorem dX11_init_49 : decode cX11_init 49 = .ok (.newarray .int, 2) := by decide +kernel
theorem dX11_init_51 : decode cX11_init 51 = .ok (.putfield 25, 3) := by decide +kernel
theorem dX11_init_54 : decode cX11_init 54 = .ok (.aload_n 0, 1) := by decide +kernel
theorem dX11_init_55 : decode cX11_init 55 = .ok (.lconst 1, 1) := by decide +kernel
theorem dX11_init_56 : decode cX11_init 56 = .ok (.putfield 28, 3) := by decide +kernel
theorem dX11_init_59 : decode cX11_init 59 = .ok (.aload_n 0, 1) := by decide +kernel
theorem dX11_init_60 : decode cX11_init 60 = .ok (.bipush 40, 2) := by decide +kernel
theorem dX11_init_62 : decode cX11_init 62 = .ok (.newarray .int, 2) := by decide +kernel
theorem dX11_init_64 : decode cX11_init 64 = .ok (.putfield 32, 3) := by decide +kernel
theorem dX11_init_67 : decode cX11_init 67 = .ok (.aload_n 0, 1) := by decide +kernel
theorem dX11_init_68 : decode cX11_init 68 = .ok (.bipush 21, 2) := by decide +kernel
theorem dX11_init_70 : decode cX11_init 70 = .ok (.newarray .int, 2) := by decide +kernel
theorem dX11_init_72 : decode cX11_init 72 = .ok (.putfield 35, 3) := by decide +kernel
theorem dX11_init_75 : decode cX11_init 75 = .ok (.aload_n 0, 1) := by decide +kernel
theorem dX11_init_76 : decode cX11_init 76 = .ok (.bipush 8, 2) := by decide +kernel
theorem dX11_init_78 : decode cX11_init 78 = .ok (.newarray .int, 2) := by decide +kernel
theorem dX11_init_80 : decode cX11_init 80 = .ok (.putfield 38, 3) := by decide +kernel
theorem dX11_init_83 : decode cX11_init 83 = .ok (.aload_n 0, 1) := by decide +kernel
theorem dX11_init_84 : decode cX11_init 84 = .ok (.bipush 9, 2) := by decide +kernel
theorem dX11_init_86 : decode cX11_init 86 = .ok (.newarray .int, 2) := by decide +kernel
theorem dX11_init_88 : decode cX11_init 88 = .ok (.putfield 41, 3) := by decide +kernel
theorem dX11_init_91 : decode cX11_init 91 = .ok (.aload_n 0, 1) := by decide +kernel
theorem dX11_init_92 : decode cX11_init 92 = .ok (.bipush 7, 2) := by decide +kernel
theorem dX11_init_94 : decode cX11_init 94 = .ok (.newarray .int, 2) := by decide +kernel
theorem dX11_init_96 : decode cX11_init 96 = .ok (.putfield 44, 3) := by decide +kernel
theorem dX11_init_99 : decode cX11_init 99 = .ok (.aload_n 0, 1) := by decide +kernel
theorem dX11_init_100 : decode cX11_init 100 = .ok (.bipush 6, 2) := by decide +kernel
theorem dX11_init_102 : decode cX11_init 102 = .ok (.newarray .int, 2) := by decide +kernel
theorem dX11_init_104 : decode cX11_init 104 = .ok (.putfield 47, 3) := by decide +kernel
theorem dX11_init_107 : decode cX11_init 107 = .ok (.aload_n 0, 1) := by decide +kernel
theorem dX11_init_108 : decode cX11_init 108 = .ok (.bipush 7, 2) := by decide +kernel
theorem dX11_init_110 : decode cX11_init 110 = .ok (.newarray .int, 2) := by decide +kernel
theorem dX11_init_112 : decode cX11_init 112 = .ok (.putfield 50, 3) := by decide +kernel
theorem dX11_init_115 : decode cX11_init 115 = .ok (.aload_n 0, 1) := by decide +kernel
theorem dX11_init_116 : decode cX11_init 116 = .ok (.bipush 6, 2) := by decide +kernel
theorem dX11_init_118 : decode cX11_init 118 = .ok (.newarray .int, 2) := by decide +kernel
theorem dX11_init_120 : decode cX11_init 120 = .ok (.putfield 53, 3) := by decide +kernel
theorem dX11_init_123 : decode cX11_init 123 = .ok (.iconst 0, 1) := by decide +kernel
theorem dX11_init_124 : decode cX11_init 124 = .ok (.istore_n 1, 1) := by decide +kernel
theorem dX11_init_125 : decode cX11_init 125 = .ok (.iload_n 1, 1) := by decide +kernel
theorem dX11_init_126 : decode cX11_init 126 = .ok (.bipush 6, 2) := by decide +kernel
theorem dX11_init_128 : decode cX11_init 128 = .ok (.if_icmp .ge 16, 3) := by decide +kernel
theorem dX11_init_131 : decode cX11_init 131 = .ok (.aload_n 0, 1) := by decide +kernel
theorem dX11_init_132 : decode cX11_init 132 = .ok (.getfield 13, 3) := by decide +kernel
theorem dX11_init_135 : decode cX11_init 135 = .ok (.iload_n 1, 1) := by decide +kernel
theorem dX11_init_136 : decode cX11_init 136 = .ok (.iconst (-1), 1) := by decide +kernel
theorem dX11_init_137 : decode cX11_init 137 = .ok (.iastore, 1) := by decide +kernel
theorem dX11_init_138 : decode cX11_init 138 = .ok (.iinc 1 1, 3) := by decide +kernel
theorem dX11_init_141 : decode cX11_init 141 = .ok (.goto (-16), 3) := by decide +kernel
theorem dX11_init_144 : decode cX11_init 144 = .ok (.iconst 0, 1) := by decide +kernel
theorem dX11_init_145 : decode cX11_init 145 = .ok (.istore_n 1, 1) := by decide +kernel
theorem dX11_init_146 : decode cX11_init 146 = .ok (.iload_n 1, 1) := by decide +kernel
theorem dX11_init_147 : decode cX11_init 147 = .ok (.iconst 4, 1) := by decide +kernel
theorem dX11_init_148 : decode cX11_init 148 = .ok (.if_icmp .ge 16, 3) := by decide +kernel
theorem dX11_init_151 : decode cX11_init 151 = .ok (.aload_n 0, 1) := by decide +kernel
theorem dX11_init_152 : decode cX11_init 152 = .ok (.getfield 19, 3) := by decide +kernel
theorem dX11_init_155 : decode cX11_init 155 = .ok (.iload_n 1, 1) := by decide +kernel
theorem dX11_init_156 : decode cX11_init 156 = .ok (.iconst (-1), 1) := by decide +kernel
theorem dX11_init_157 : decode cX11_init 157 = .ok (.iastore, 1) := by decide +kernel
theorem dX11_init_158 : decode cX11_init 158 = .ok (.iinc 1 1, 3) := by decide +kernel
theorem dX11_init_161 : decode cX11_init 161 = .ok (.goto (-15), 3) := by decide +kernel
theorem dX11_init_164 : decode cX11_init 164 = .ok (.return_, 1) := by decide +kernel
theorem dX11_in_0 : decode cX11_in 0 = .ok (.lload_n 0, 1) := by decide +kernel
theorem dX11_in_1 : decode cX11_in 1 = .ok (.lload_n 2, 1) := by decide +kernel
theorem dX11_in_2 : decode cX11_in 2 = .ok (.lcmp, 1) := by decide +kernel
theorem dX11_in_3 : decode cX11_in 3 = .ok (.ifCond .lt 14, 3) := by decide +kernel
theorem dX11_in_6 : decode cX11_in 6 = .ok (.lload_n 0, 1) := by decide +kernel
theorem dX11_in_7 : decode cX11_in 7 = .ok (.lload 4, 2) := by decide +kernel
theorem dX11_in_9 : decode cX11_in 9 = .ok (.lcmp, 1) := by decide +kernel
theorem dX11_in_10 : decode cX11_in 10 = .ok (.ifCond .gt 7, 3) := by decide +kernel
theorem dX11_in_13 : decode cX11_in 13 = .ok (.iconst 1, 1) := by decide +kernel
theorem dX11_in_14 : decode cX11_in 14 = .ok (.goto 4, 3) := by decide +kernel
theorem dX11_in_17 : decode cX11_in 17 = .ok (.iconst 0, 1) := by decide +kernel
theorem dX11_in_18 : decode cX11_in 18 = .ok (.ireturn, 1) := by decide +kernel
theorem dX11_has_0 : decode cX11_has 0 = .ok (.iload_n 0, 1) := by decide +kernel
theorem dX11_has_1 : decode cX11_has 1 = .ok (.iload_n 1, 1) := by decide +kernel
theorem dX11_has_2 : decode cX11_has 2 = .ok (.ishr, 1) := by decide +kernel
theorem dX11_has_3 : decode cX11_has 3 = .ok (.iconst 1, 1) := by decide +kernel
theorem dX11_has_4 : decode cX11_has 4 = .ok (.iand, 1) := by decide +kernel
theorem dX11_has_5 : decode cX11_has 5 = .ok (.iconst 1, 1) := by decide +kernel
theorem dX11_has_6 : decode cX11_has 6 = .ok (.if_icmp .ne 7, 3) := by decide +kernel
theorem dX11_has_9 : decode cX11_has 9 = .ok (.iconst 1, 1) := by decide +kernel
theorem dX11_has_10 : decode cX11_has 10 = .ok (.goto 4, 3) := by decide +kernel
theorem dX11_has_13 : decode cX11_has 13 = .ok (.iconst 0, 1) := by decide +kernel
theorem dX11_has_14 : decode cX11_has 14 = .ok (.ireturn, 1) := by decide +kernel
theorem dX11_finds_0 : decode cX11_finds 0 = .ok (.aload_n 0, 1) := by decide +kernel
theorem dX11_finds_1 : decode cX11_finds 1 = .ok (.iload_n 1, 1) := by decide +kernel
theorem dX11_finds_2 : decode cX11_finds 2 = .ok (.putfield 56, 3) := by decide +kernel
theorem dX11_finds_5 : decode cX11_finds 5 = .ok (.aload_n 0, 1) := by decide +kernel
theorem dX11_finds_6 : decode cX11_finds 6 = .ok (.getfield 25, 3) := by decide +kernel
theorem dX11_finds_9 : decode cX11_finds 9 = .ok (.iload_n 1, 1) := by decide +kernel
theorem dX11_finds_10 : decode cX11_finds 10 = .ok (.dup2, 1) := by decide +kernel
theorem dX11_finds_11 : decode cX11_finds 11 = .ok (.iaload, 1) := by decide +kernel
theorem dX11_finds_12 : decode cX11_finds 12 = .ok (.iconst 1, 1) := by decide +kernel
theorem dX11_finds_13 : decode cX11_finds 13 = .ok (.iadd, 1) := by decide +kernel
theorem dX11_finds_14 : decode cX11_finds 14 = .ok (.iastore, 1) := by decide +kernel
theorem dX11_finds_15 : decode cX11_finds 15 = .ok (.bipush (-3), 2) := by decide +kernel
theorem dX11_finds_17 : decode cX11_finds 17 = .ok (.ireturn, 1) := by decide +kernel
theorem dX11_tells_0 : decode cX11_tells 0 = .ok (.aload_n 0, 1) := by decide +kernel
theorem dX11_tells_1 : decode cX11_tells 1 = .ok (.iload_n 1, 1) := by decide +kernel
theorem dX11_tells_2 : decode cX11_tells 2 = .ok (.putfield 60, 3) := by decide +kernel
theorem dX11_tells_5 : decode cX11_tells 5 = .ok (.iconst 1, 1) := by decide +kernel
theorem dX11_tells_6 : decode cX11_tells 6 = .ok (.ireturn, 1) := by decide +kernel
theorem dX11_tellsPart_0 : decode cX11_tellsPart 0 = .ok (.lload_n 1, 1) := by decide +kernel
theorem dX11_tellsPart_1 : decode cX11_tellsPart 1 = .ok (.lstore 5, 2) := by decide +kernel
theorem dX11_tellsPart_3 : decode cX11_tellsPart 3 = .ok (.lload_n 3, 1) := by decide +kernel
theorem dX11_tellsPart_4 : decode cX11_tellsPart 4 = .ok (.lstore 7, 2) := by decide +kernel
theorem dX11_tellsPart_6 : decode cX11_tellsPart 6 = .ok (.lload 7, 2) := by decide +kernel
theorem dX11_tellsPart_8 : decode cX11_tellsPart 8 = .ok (.lconst 0, 1) := by decide +kernel
theorem dX11_tellsPart_9 : decode cX11_tellsPart 9 = .ok (.lcmp, 1) := by decide +kernel
theorem dX11_tellsPart_10 : decode cX11_tellsPart 10 = .ok (.ifCond .eq 21, 3) := by decide +kernel
theorem dX11_tellsPart_13 : decode cX11_tellsPart 13 = .ok (.lload 5, 2) := by decide +kernel
theorem dX11_tellsPart_15 : decode cX11_tellsPart 15 = .ok (.lload 7, 2) := by decide +kernel
theorem dX11_tellsPart_17 : decode cX11_tellsPart 17 = .ok (.lrem, 1) := by decide +kernel
theorem dX11_tellsPart_18 : decode cX11_tellsPart 18 = .ok (.lstore 9, 2) := by decide +kernel
theorem dX11_tellsPart_20 : decode cX11_tellsPart 20 = .ok (.lload 7, 2) := by decide +kernel
theorem dX11_tellsPart_22 : decode cX11_tellsPart 22 = .ok (.lstore 5, 2) := by decide +kernel
theorem dX11_tellsPart_24 : decode cX11_tellsPart 24 = .ok (.lload 9, 2) := by decide +kernel
theorem dX11_tellsPart_26 : decode cX11_tellsPart 26 = .ok (.lstore 7, 2) := by decide +kernel
theorem dX11_tellsPart_28 : decode cX11_tellsPart 28 = .ok (.goto (-22), 3) := by decide +kernel
theorem dX11_tellsPart_31 : decode cX11_tellsPart 31 = .ok (.aload_n 0, 1) := by decide +kernel
theorem dX11_tellsPart_32 : decode cX11_tellsPart 32 = .ok (.lload_n 1, 1) := by decide +kernel
theorem dX11_tellsPart_33 : decode cX11_tellsPart 33 = .ok (.lload 5, 2) := by decide +kernel
theorem dX11_tellsPart_35 : decode cX11_tellsPart 35 = .ok (.ldiv, 1) := by decide +kernel
theorem dX11_tellsPart_36 : decode cX11_tellsPart 36 = .ok (.putfield 63, 3) := by decide +kernel
theorem dX11_tellsPart_39 : decode cX11_tellsPart 39 = .ok (.aload_n 0, 1) := by decide +kernel
theorem dX11_tellsPart_40 : decode cX11_tellsPart 40 = .ok (.lload_n 3, 1) := by decide +kernel
theorem dX11_tellsPart_41 : decode cX11_tellsPart 41 = .ok (.lload 5, 2) := by decide +kernel
theorem dX11_tellsPart_43 : decode cX11_tellsPart 43 = .ok (.ldiv, 1) := by decide +kernel
theorem dX11_tellsPart_44 : decode cX11_tellsPart 44 = .ok (.putfield 28, 3) := by decide +kernel
theorem dX11_tellsPart_47 : decode cX11_tellsPart 47 = .ok (.iconst 1, 1) := by decide +kernel
theorem dX11_tellsPart_48 : decode cX11_tellsPart 48 = .ok (.ireturn, 1) := by decide +kernel
theorem dX11_bring_0 : decode cX11_bring 0 = .ok (.iconst 0, 1) := by decide +kernel
theorem dX11_bring_1 : decode cX11_bring 1 = .ok (.istore_n 3, 1) := by decide +kernel
theorem dX11_bring_2 : decode cX11_bring 2 = .ok (.iload_n 3, 1) := by decide +kernel
theorem dX11_bring_3 : decode cX11_bring 3 = .ok (.sipush 392, 3) := by decide +kernel
theorem dX11_bring_6 : decode cX11_bring 6 = .ok (.if_icmp .ge 25, 3) := by decide +kernel
theorem dX11_bring_9 : decode cX11_bring 9 = .ok (.aload_n 0, 1) := by decide +kernel
theorem dX11_bring_10 : decode cX11_bring 10 = .ok (.getfield 7, 3) := by decide +kernel
theorem dX11_bring_13 : decode cX11_bring 13 = .ok (.iload_n 2, 1) := by decide +kernel
theorem dX11_bring_14 : decode cX11_bring 14 = .ok (.iload_n 3, 1) := by decide +kernel
theorem dX11_bring_15 : decode cX11_bring 15 = .ok (.iadd, 1) := by decide +kernel
theorem dX11_bring_16 : decode cX11_bring 16 = .ok (.aload_n 0, 1) := by decide +kernel
theorem dX11_bring_17 : decode cX11_bring 17 = .ok (.getfield 7, 3) := by decide +kernel
theorem dX11_bring_20 : decode cX11_bring 20 = .ok (.iload_n 1, 1) := by decide +kernel
theorem dX11_bring_21 : decode cX11_bring 21 = .ok (.iload_n 3, 1) := by decide +kernel
theorem dX11_bring_22 : decode cX11_bring 22 = .ok (.iadd, 1) := by decide +kernel
theorem dX11_bring_23 : decode cX11_bring 23 = .ok (.iaload, 1) := by decide +kernel
theorem dX11_bring_24 : decode cX11_bring 24 = .ok (.iastore, 1) := by decide +kernel
theorem dX11_bring_25 : decode cX11_bring 25 = .ok (.iinc 3 1, 3) := by decide +kernel
theorem dX11_bring_28 : decode cX11_bring 28 = .ok (.goto (-26), 3) := by decide +kernel
theorem dX11_bring_31 : decode cX11_bring 31 = .ok (.return_, 1) := by decide +kernel
theorem dX11_isRow_0 : decode cX11_isRow 0 = .ok (.iload_n 0, 1) := by decide +kernel
theorem dX11_isRow_1 : decode cX11_isRow 1 = .ok (.i2l, 1) := by decide +kernel
theorem dX11_isRow_2 : decode cX11_isRow 2 = .ok (.lconst 0, 1) := by decide +kernel
theorem dX11_isRow_3 : decode cX11_isRow 3 = .ok (.ldc2_w 66, 3) := by decide +kernel
theorem dX11_isRow_6 : decode cX11_isRow 6 = .ok (.invokestatic 68, 3) := by decide +kernel
theorem dX11_isRow_9 : decode cX11_isRow 9 = .ok (.ireturn, 1) := by decide +kernel
theorem dX11_isText_0 : decode cX11_isText 0 = .ok (.iload_n 0, 1) := by decide +kernel
theorem dX11_isText_1 : decode cX11_isText 1 = .ok (.i2l, 1) := by decide +kernel
theorem dX11_isText_2 : decode cX11_isText 2 = .ok (.lconst 0, 1) := by decide +kernel
theorem dX11_isText_3 : decode cX11_isText 3 = .ok (.ldc2_w 72, 3) := by decide +kernel
theorem dX11_isText_6 : decode cX11_isText 6 = .ok (.invokestatic 68, 3) := by decide +kernel
theorem dX11_isText_9 : decode cX11_isText 9 = .ok (.ireturn, 1) := by decide +kernel
theorem dX11_isRod_0 : decode cX11_isRod 0 = .ok (.iload_n 1, 1) := by decide +kernel
theorem dX11_isRod_1 : decode cX11_isRod 1 = .ok (.i2l, 1) := by decide +kernel
theorem dX11_isRod_2 : decode cX11_isRod 2 = .ok (.lconst 0, 1) := by decide +kernel
theorem dX11_isRod_3 : decode cX11_isRod 3 = .ok (.aload_n 0, 1) := by decide +kernel
theorem dX11_isRod_4 : decode cX11_isRod 4 = .ok (.getfield 7, 3) := by decide +kernel
theorem dX11_isRod_7 : decode cX11_isRod 7 = .ok (.iconst 0, 1) := by decide +kernel
theorem dX11_isRod_8 : decode cX11_isRod 8 = .ok (.iaload, 1) := by decide +kernel
theorem dX11_isRod_9 : decode cX11_isRod 9 = .ok (.iconst 1, 1) := by decide +kernel
theorem dX11_isRod_10 : decode cX11_isRod 10 = .ok (.isub, 1) := by decide +kernel
theorem dX11_isRod_11 : decode cX11_isRod 11 = .ok (.i2l, 1) := by decide +kernel
theorem dX11_isRod_12 : decode cX11_isRod 12 = .ok (.invokestatic 68, 3) := by decide +kernel
theorem dX11_isRod_15 : decode cX11_isRod 15 = .ok (.ireturn, 1) := by decide +kernel
theorem dX11_isLine_0 : decode cX11_isLine 0 = .ok (.iload_n 0, 1) := by decide +kernel
theorem dX11_isLine_1 : decode cX11_isLine 1 = .ok (.i2l, 1) := by decide +kernel
theorem dX11_isLine_2 : decode cX11_isLine 2 = .ok (.lconst 1, 1) := by decide +kernel
theorem dX11_isLine_3 : decode cX11_isLine 3 = .ok (.ldc2_w 74, 3) := by decide +kernel
theorem dX11_isLine_6 : decode cX11_isLine 6 = .ok (.invokestatic 68, 3) := by decide +kernel
theorem dX11_isLine_9 : decode cX11_isLine 9 = .ok (.ireturn, 1) := by decide +kernel
theorem dX11_row_0 : decode cX11_row 0 = .ok (.iload_n 1, 1) := by decide +kernel
theorem dX11_row_1 : decode cX11_row 1 = .ok (.invokestatic 76, 3) := by decide +kernel
theorem dX11_row_4 : decode cX11_row 4 = .ok (.ifCond .eq 9, 3) := by decide +kernel
theorem dX11_row_7 : decode cX11_row 7 = .ok (.iload_n 2, 1) := by decide +kernel
theorem dX11_row_8 : decode cX11_row 8 = .ok (.bipush 40, 2) := by decide +kernel
theorem dX11_row_10 : decode cX11_row 10 = .ok (.if_icmp .le 5, 3) := by decide +kernel
theorem dX11_row_13 : decode cX11_row 13 = .ok (.iconst (-1), 1) := by decide +kernel
theorem dX11_row_14 : decode cX11_row 14 = .ok (.ireturn, 1) := by decide +kernel
theorem dX11_row_15 : decode cX11_row 15 = .ok (.iload_n 2, 1) := by decide +kernel
theorem dX11_row_16 : decode cX11_row 16 = .ok (.ifCond .ge 9, 3) := by decide +kernel
theorem dX11_row_19 : decode cX11_row 19 = .ok (.aload_n 0, 1) := by decide +kernel
theorem dX11_row_20 : decode cX11_row 20 = .ok (.iconst 5, 1) := by decide +kernel
theorem dX11_row_21 : decode cX11_row 21 = .ok (.invokevirtual 80, 3) := by decide +kernel
theorem dX11_row_24 : decode cX11_row 24 = .ok (.ireturn, 1) := by decide +kernel
theorem dX11_row_25 : decode cX11_row 25 = .ok (.aload_n 0, 1) := by decide +kernel
theorem dX11_row_26 : decode cX11_row 26 = .ok (.getfield 13, 3) := by decide +kernel
theorem dX11_row_29 : decode cX11_row 29 = .ok (.iload_n 1, 1) := by decide +kernel
theorem dX11_row_30 : decode cX11_row 30 = .ok (.iload_n 2, 1) := by decide +kernel
theorem dX11_row_31 : decode cX11_row 31 = .ok (.iastore, 1) := by decide +kernel
theorem dX11_row_32 : decode cX11_row 32 = .ok (.iconst 0, 1) := by decide +kernel
theorem dX11_row_33 : decode cX11_row 33 = .ok (.istore_n 3, 1) := by decide +kernel
theorem dX11_row_34 : decode cX11_row 34 = .ok (.iload_n 3, 1) := by decide +kernel
theorem dX11_row_35 : decode cX11_row 35 = .ok (.bipush 40, 2) := by decide +kernel
theorem dX11_row_37 : decode cX11_row 37 = .ok (.if_icmp .ge 21, 3) := by decide +kernel
theorem dX11_row_40 : decode cX11_row 40 = .ok (.aload_n 0, 1) := by decide +kernel
theorem dX11_row_41 : decode cX11_row 41 = .ok (.getfield 16, 3) := by decide +kernel
theorem dX11_row_44 : decode cX11_row 44 = .ok (.bipush 40, 2) := by decide +kernel
theorem dX11_row_46 : decode cX11_row 46 = .ok (.iload_n 1, 1) := by decide +kernel
theorem dX11_row_47 : decode cX11_row 47 = .ok (.imul, 1) := by decide +kernel
theorem dX11_row_48 : decode cX11_row 48 = .ok (.iload_n 3, 1) := by decide +kernel
theorem dX11_row_49 : decode cX11_row 49 = .ok (.iadd, 1) := by decide +kernel
theorem dX11_row_50 : decode cX11_row 50 = .ok (.iconst 0, 1) := by decide +kernel
theorem dX11_row_51 : decode cX11_row 51 = .ok (.iastore, 1) := by decide +kernel
theorem dX11_row_52 : decode cX11_row 52 = .ok (.iinc 3 1, 3) := by decide +kernel
theorem dX11_row_55 : decode cX11_row 55 = .ok (.goto (-21), 3) := by decide +kernel
theorem dX11_row_58 : decode cX11_row 58 = .ok (.iload_n 2, 1) := by decide +kernel
theorem dX11_row_59 : decode cX11_row 59 = .ok (.ireturn, 1) := by decide +kernel
theorem dX11_lay_0 : decode cX11_lay 0 = .ok (.iload_n 1, 1) := by decide +kernel
theorem dX11_lay_1 : decode cX11_lay 1 = .ok (.invokestatic 76, 3) := by decide +kernel
theorem dX11_lay_4 : decode cX11_lay 4 = .ok (.ifCond .ne 5, 3) := by decide +kernel
theorem dX11_lay_7 : decode cX11_lay 7 = .ok (.iconst (-1), 1) := by decide +kernel
theorem dX11_lay_8 : decode cX11_lay 8 = .ok (.ireturn, 1) := by decide +kernel
theorem dX11_lay_9 : decode cX11_lay 9 = .ok (.aload_n 0, 1) := by decide +kernel
theorem dX11_lay_10 : decode cX11_lay 10 = .ok (.getfield 13, 3) := by decide +kernel
theorem dX11_lay_13 : decode cX11_lay 13 = .ok (.iload_n 1, 1) := by decide +kernel
theorem dX11_lay_14 : decode cX11_lay 14 = .ok (.iaload, 1) := by decide +kernel
theorem dX11_lay_15 : decode cX11_lay 15 = .ok (.ifCond .ge 9, 3) := by decide +kernel
theorem dX11_lay_18 : decode cX11_lay 18 = .ok (.aload_n 0, 1) := by decide +kernel
theorem dX11_lay_19 : decode cX11_lay 19 = .ok (.iconst 1, 1) := by decide +kernel
theorem dX11_lay_20 : decode cX11_lay 20 = .ok (.invokevirtual 80, 3) := by decide +kernel
theorem dX11_lay_23 : decode cX11_lay 23 = .ok (.ireturn, 1) := by decide +kernel
theorem dX11_lay_24 : decode cX11_lay 24 = .ok (.iload_n 2, 1) := by decide +kernel
theorem dX11_lay_25 : decode cX11_lay 25 = .ok (.i2l, 1) := by decide +kernel
theorem dX11_lay_26 : decode cX11_lay 26 = .ok (.lconst 0, 1) := by decide +kernel
theorem dX11_lay_27 : decode cX11_lay 27 = .ok (.aload_n 0, 1) := by decide +kernel
theorem dX11_lay_28 : decode cX11_lay 28 = .ok (.getfield 13, 3) := by decide +kernel
theorem dX11_lay_31 : decode cX11_lay 31 = .ok (.iload_n 1, 1) := by decide +kernel
theorem dX11_lay_32 : decode cX11_lay 32 = .ok (.iaload, 1) := by decide +kernel
theorem dX11_lay_33 : decode cX11_lay 33 = .ok (.iconst 1, 1) := by decide +kernel
theorem dX11_lay_34 : decode cX11_lay 34 = .ok (.isub, 1) := by decide +kernel
theorem dX11_lay_35 : decode cX11_lay 35 = .ok (.i2l, 1) := by decide +kernel
theorem dX11_lay_36 : decode cX11_lay 36 = .ok (.invokestatic 68, 3) := by decide +kernel
theorem dX11_lay_39 : decode cX11_lay 39 = .ok (.ifCond .ne 9, 3) := by decide +kernel
theorem dX11_lay_42 : decode cX11_lay 42 = .ok (.aload_n 0, 1) := by decide +kernel
theorem dX11_lay_43 : decode cX11_lay 43 = .ok (.iconst 2, 1) := by decide +kernel
theorem dX11_lay_44 : decode cX11_lay 44 = .ok (.invokevirtual 80, 3) := by decide +kernel
theorem dX11_lay_47 : decode cX11_lay 47 = .ok (.ireturn, 1) := by decide +kernel
theorem dX11_lay_48 : decode cX11_lay 48 = .ok (.aload_n 0, 1) := by decide +kernel
theorem dX11_lay_49 : decode cX11_lay 49 = .ok (.getfield 16, 3) := by decide +kernel
theorem dX11_lay_52 : decode cX11_lay 52 = .ok (.bipush 40, 2) := by decide +kernel
theorem dX11_lay_54 : decode cX11_lay 54 = .ok (.iload_n 1, 1) := by decide +kernel
theorem dX11_lay_55 : decode cX11_lay 55 = .ok (.imul, 1) := by decide +kernel
theorem dX11_lay_56 : decode cX11_lay 56 = .ok (.iload_n 2, 1) := by decide +kernel
theorem dX11_lay_57 : decode cX11_lay 57 = .ok (.iadd, 1) := by decide +kernel
theorem dX11_lay_58 : decode cX11_lay 58 = .ok (.iaload, 1) := by decide +kernel
theorem dX11_lay_59 : decode cX11_lay 59 = .ok (.istore 4, 2) := by decide +kernel
theorem dX11_lay_61 : decode cX11_lay 61 = .ok (.aload_n 0, 1) := by decide +kernel
theorem dX11_lay_62 : decode cX11_lay 62 = .ok (.getfield 16, 3) := by decide +kernel
theorem dX11_lay_65 : decode cX11_lay 65 = .ok (.bipush 40, 2) := by decide +kernel
theorem dX11_lay_67 : decode cX11_lay 67 = .ok (.iload_n 1, 1) := by decide +kernel
theorem dX11_lay_68 : decode cX11_lay 68 = .ok (.imul, 1) := by decide +kernel
theorem dX11_lay_69 : decode cX11_lay 69 = .ok (.iload_n 2, 1) := by decide +kernel
theorem dX11_lay_70 : decode cX11_lay 70 = .ok (.iadd, 1) := by decide +kernel
theorem dX11_lay_71 : decode cX11_lay 71 = .ok (.iload_n 3, 1) := by decide +kernel
theorem dX11_lay_72 : decode cX11_lay 72 = .ok (.iastore, 1) := by decide +kernel
theorem dX11_lay_73 : decode cX11_lay 73 = .ok (.aload_n 0, 1) := by decide +kernel
theorem dX11_lay_74 : decode cX11_lay 74 = .ok (.iload 4, 2) := by decide +kernel
theorem dX11_lay_76 : decode cX11_lay 76 = .ok (.invokevirtual 83, 3) := by decide +kernel
theorem dX11_lay_79 : decode cX11_lay 79 = .ok (.ireturn, 1) := by decide +kernel
theorem dX11_at_0 : decode cX11_at 0 = .ok (.iload_n 1, 1) := by decide +kernel
theorem dX11_at_1 : decode cX11_at 1 = .ok (.invokestatic 76, 3) := by decide +kernel
theorem dX11_at_4 : decode cX11_at 4 = .ok (.ifCond .ne 5, 3) := by decide +kernel
theorem dX11_at_7 : decode cX11_at 7 = .ok (.iconst (-1), 1) := by decide +kernel
theorem dX11_at_8 : decode cX11_at 8 = .ok (.ireturn, 1) := by decide +kernel
theorem dX11_at_9 : decode cX11_at 9 = .ok (.aload_n 0, 1) := by decide +kernel
theorem dX11_at_10 : decode cX11_at 10 = .ok (.getfield 13, 3) := by decide +kernel
theorem dX11_at_13 : decode cX11_at 13 = .ok (.iload_n 1, 1) := by decide +kernel
theorem dX11_at_14 : decode cX11_at 14 = .ok (.iaload, 1) := by decide +kernel
theorem dX11_at_15 : decode cX11_at 15 = .ok (.ifCond .ge 9, 3) := by decide +kernel
theorem dX11_at_18 : decode cX11_at 18 = .ok (.aload_n 0, 1) := by decide +kernel
theorem dX11_at_19 : decode cX11_at 19 = .ok (.iconst 1, 1) := by decide +kernel
theorem dX11_at_20 : decode cX11_at 20 = .ok (.invokevirtual 80, 3) := by decide +kernel
theorem dX11_at_23 : decode cX11_at 23 = .ok (.ireturn, 1) := by decide +kernel
theorem dX11_at_24 : decode cX11_at 24 = .ok (.iload_n 2, 1) := by decide +kernel
theorem dX11_at_25 : decode cX11_at 25 = .ok (.i2l, 1) := by decide +kernel
theorem dX11_at_26 : decode cX11_at 26 = .ok (.lconst 0, 1) := by decide +kernel
theorem dX11_at_27 : decode cX11_at 27 = .ok (.aload_n 0, 1) := by decide +kernel
theorem dX11_at_28 : decode cX11_at 28 = .ok (.getfield 13, 3) := by decide +kernel
theorem dX11_at_31 : decode cX11_at 31 = .ok (.iload_n 1, 1) := by decide +kernel
theorem dX11_at_32 : decode cX11_at 32 = .ok (.iaload, 1) := by decide +kernel
theorem dX11_at_33 : decode cX11_at 33 = .ok (.iconst 1, 1) := by decide +kernel
theorem dX11_at_34 : decode cX11_at 34 = .ok (.isub, 1) := by decide +kernel
theorem dX11_at_35 : decode cX11_at 35 = .ok (.i2l, 1) := by decide +kernel
theorem dX11_at_36 : decode cX11_at 36 = .ok (.invokestatic 68, 3) := by decide +kernel
theorem dX11_at_39 : decode cX11_at 39 = .ok (.ifCond .ne 9, 3) := by decide +kernel
theorem dX11_at_42 : decode cX11_at 42 = .ok (.aload_n 0, 1) := by decide +kernel
theorem dX11_at_43 : decode cX11_at 43 = .ok (.iconst 2, 1) := by decide +kernel
theorem dX11_at_44 : decode cX11_at 44 = .ok (.invokevirtual 80, 3) := by decide +kernel
theorem dX11_at_47 : decode cX11_at 47 = .ok (.ireturn, 1) := by decide +kernel
theorem dX11_at_48 : decode cX11_at 48 = .ok (.aload_n 0, 1) := by decide +kernel
theorem dX11_at_49 : decode cX11_at 49 = .ok (.aload_n 0, 1) := by decide +kernel
theorem dX11_at_50 : decode cX11_at 50 = .ok (.getfield 16, 3) := by decide +kernel
theorem dX11_at_53 : decode cX11_at 53 = .ok (.bipush 40, 2) := by decide +kernel
theorem dX11_at_55 : decode cX11_at 55 = .ok (.iload_n 1, 1) := by decide +kernel
theorem dX11_at_56 : decode cX11_at 56 = .ok (.imul, 1) := by decide +kernel
theorem dX11_at_57 : decode cX11_at 57 = .ok (.iload_n 2, 1) := by decide +kernel
theorem dX11_at_58 : decode cX11_at 58 = .ok (.iadd, 1) := by decide +kernel
theorem dX11_at_59 : decode cX11_at 59 = .ok (.iaload, 1) := by decide +kernel
theorem dX11_at_60 : decode cX11_at 60 = .ok (.invokevirtual 83, 3) := by decide +kernel
theorem dX11_at_63 : decode cX11_at 63 = .ok (.ireturn, 1) := by decide +kernel
theorem dX11_tear_0 : decode cX11_tear 0 = .ok (.iload_n 1, 1) := by decide +kernel
theorem dX11_tear_1 : decode cX11_tear 1 = .ok (.invokestatic 76, 3) := by decide +kernel
theorem dX11_tear_4 : decode cX11_tear 4 = .ok (.ifCond .ne 5, 3) := by decide +kernel
theorem dX11_tear_7 : decode cX11_tear 7 = .ok (.iconst (-1), 1) := by decide +kernel
theorem dX11_tear_8 : decode cX11_tear 8 = .ok (.ireturn, 1) := by decide +kernel
theorem dX11_tear_9 : decode cX11_tear 9 = .ok (.aload_n 0, 1) := by decide +kernel
theorem dX11_tear_10 : decode cX11_tear 10 = .ok (.getfield 13, 3) := by decide +kernel
theorem dX11_tear_13 : decode cX11_tear 13 = .ok (.iload_n 1, 1) := by decide +kernel
theorem dX11_tear_14 : decode cX11_tear 14 = .ok (.iaload, 1) := by decide +kernel
theorem dX11_tear_15 : decode cX11_tear 15 = .ok (.ifCond .ge 9, 3) := by decide +kernel
theorem dX11_tear_18 : decode cX11_tear 18 = .ok (.aload_n 0, 1) := by decide +kernel
theorem dX11_tear_19 : decode cX11_tear 19 = .ok (.iconst 1, 1) := by decide +kernel
theorem dX11_tear_20 : decode cX11_tear 20 = .ok (.invokevirtual 80, 3) := by decide +kernel
theorem dX11_tear_23 : decode cX11_tear 23 = .ok (.ireturn, 1) := by decide +kernel
theorem dX11_tear_24 : decode cX11_tear 24 = .ok (.aload_n 0, 1) := by decide +kernel
theorem dX11_tear_25 : decode cX11_tear 25 = .ok (.getfield 13, 3) := by decide +kernel
theorem dX11_tear_28 : decode cX11_tear 28 = .ok (.iload_n 1, 1) := by decide +kernel
theorem dX11_tear_29 : decode cX11_tear 29 = .ok (.iconst (-1), 1) := by decide +kernel
theorem dX11_tear_30 : decode cX11_tear 30 = .ok (.iastore, 1) := by decide +kernel
theorem dX11_tear_31 : decode cX11_tear 31 = .ok (.iconst 1, 1) := by decide +kernel
theorem dX11_tear_32 : decode cX11_tear 32 = .ok (.ireturn, 1) := by decide +kernel
theorem dX11_copy_0 : decode cX11_copy 0 = .ok (.iload_n 1, 1) := by decide +kernel
theorem dX11_copy_1 : decode cX11_copy 1 = .ok (.invokestatic 76, 3) := by decide +kernel
theorem dX11_copy_4 : decode cX11_copy 4 = .ok (.ifCond .eq 10, 3) := by decide +kernel
theorem dX11_copy_7 : decode cX11_copy 7 = .ok (.iload_n 3, 1) := by decide +kernel
theorem dX11_copy_8 : decode cX11_copy 8 = .ok (.invokestatic 76, 3) := by decide +kernel
theorem dX11_copy_11 : decode cX11_copy 11 = .ok (.ifCond .ne 5, 3) := by decide +kernel
theorem dX11_copy_14 : decode cX11_copy 14 = .ok (.iconst (-1), 1) := by decide +kernel
theorem dX11_copy_15 : decode cX11_copy 15 = .ok (.ireturn, 1) := by decide +kernel
theorem dX11_copy_16 : decode cX11_copy 16 = .ok (.iload 5, 2) := by decide +kernel
theorem dX11_copy_18 : decode cX11_copy 18 = .ok (.ifCond .ge 9, 3) := by decide +kernel
theorem dX11_copy_21 : decode cX11_copy 21 = .ok (.aload_n 0, 1) := by decide +kernel
theorem dX11_copy_22 : decode cX11_copy 22 = .ok (.iconst 5, 1) := by decide +kernel
theorem dX11_copy_23 : decode cX11_copy 23 = .ok (.invokevirtual 80, 3) := by decide +kernel
theorem dX11_copy_26 : decode cX11_copy 26 = .ok (.ireturn, 1) := by decide +kernel
theorem dX11_copy_27 : decode cX11_copy 27 = .ok (.aload_n 0, 1) := by decide +kernel
theorem dX11_copy_28 : decode cX11_copy 28 = .ok (.getfield 13, 3) := by decide +kernel
theorem dX11_copy_31 : decode cX11_copy 31 = .ok (.iload_n 1, 1) := by decide +kernel
theorem dX11_copy_32 : decode cX11_copy 32 = .ok (.iaload, 1) := by decide +kernel
theorem dX11_copy_33 : decode cX11_copy 33 = .ok (.ifCond .lt 12, 3) := by decide +kernel
theorem dX11_copy_36 : decode cX11_copy 36 = .ok (.aload_n 0, 1) := by decide +kernel
theorem dX11_copy_37 : decode cX11_copy 37 = .ok (.getfield 13, 3) := by decide +kernel
theorem dX11_copy_40 : decode cX11_copy 40 = .ok (.iload_n 3, 1) := by decide +kernel
theorem dX11_copy_41 : decode cX11_copy 41 = .ok (.iaload, 1) := by decide +kernel
theorem dX11_copy_42 : decode cX11_copy 42 = .ok (.ifCond .ge 9, 3) := by decide +kernel
theorem dX11_copy_45 : decode cX11_copy 45 = .ok (.aload_n 0, 1) := by decide +kernel
theorem dX11_copy_46 : decode cX11_copy 46 = .ok (.iconst 1, 1) := by decide +kernel
theorem dX11_copy_47 : decode cX11_copy 47 = .ok (.invokevirtual 80, 3) := by decide +kernel
theorem dX11_copy_50 : decode cX11_copy 50 = .ok (.ireturn, 1) := by decide +kernel
theorem dX11_copy_51 : decode cX11_copy 51 = .ok (.iload_n 2, 1) := by decide +kernel
theorem dX11_copy_52 : decode cX11_copy 52 = .ok (.ifCond .lt 43, 3) := by decide +kernel
theorem dX11_copy_55 : decode cX11_copy 55 = .ok (.iload 4, 2) := by decide +kernel
theorem dX11_copy_57 : decode cX11_copy 57 = .ok (.ifCond .lt 38, 3) := by decide +kernel
theorem dX11_copy_60 : decode cX11_copy 60 = .ok (.iload_n 2, 1) := by decide +kernel
theorem dX11_copy_61 : decode cX11_copy 61 = .ok (.i2l, 1) := by decide +kernel
theorem dX11_copy_62 : decode cX11_copy 62 = .ok (.iload 5, 2) := by decide +kernel
theorem dX11_copy_64 : decode cX11_copy 64 = .ok (.i2l, 1) := by decide +kernel
theorem dX11_copy_65 : decode cX11_copy 65 = .ok (.ladd, 1) := by decide +kernel
theorem dX11_copy_66 : decode cX11_copy 66 = .ok (.aload_n 0, 1) := by decide +kernel
theorem dX11_copy_67 : decode cX11_copy 67 = .ok (.getfield 13, 3) := by decide +kernel
theorem dX11_copy_70 : decode cX11_copy 70 = .ok (.iload_n 1, 1) := by decide +kernel
theorem dX11_copy_71 : decode cX11_copy 71 = .ok (.iaload, 1) := by decide +kernel
theorem dX11_copy_72 : decode cX11_copy 72 = .ok (.i2l, 1) := by decide +kernel
theorem dX11_copy_73 : decode cX11_copy 73 = .ok (.lcmp, 1) := by decide +kernel
theorem dX11_copy_74 : decode cX11_copy 74 = .ok (.ifCond .gt 21, 3) := by decide +kernel
theorem dX11_copy_77 : decode cX11_copy 77 = .ok (.iload 4, 2) := by decide +kernel
theorem dX11_copy_79 : decode cX11_copy 79 = .ok (.i2l, 1) := by decide +kernel
theorem dX11_copy_80 : decode cX11_copy 80 = .ok (.iload 5, 2) := by decide +kernel
theorem dX11_copy_82 : decode cX11_copy 82 = .ok (.i2l, 1) := by decide +kernel
theorem dX11_copy_83 : decode cX11_copy 83 = .ok (.ladd, 1) := by decide +kernel
theorem dX11_copy_84 : decode cX11_copy 84 = .ok (.aload_n 0, 1) := by decide +kernel
theorem dX11_copy_85 : decode cX11_copy 85 = .ok (.getfield 13, 3) := by decide +kernel
theorem dX11_copy_88 : decode cX11_copy 88 = .ok (.iload_n 3, 1) := by decide +kernel
theorem dX11_copy_89 : decode cX11_copy 89 = .ok (.iaload, 1) := by decide +kernel
theorem dX11_copy_90 : decode cX11_copy 90 = .ok (.i2l, 1) := by decide +kernel
theorem dX11_copy_91 : decode cX11_copy 91 = .ok (.lcmp, 1) := by decide +kernel
theorem dX11_copy_92 : decode cX11_copy 92 = .ok (.ifCond .le 9, 3) := by decide +kernel
theorem dX11_copy_95 : decode cX11_copy 95 = .ok (.aload_n 0, 1) := by decide +kernel
theorem dX11_copy_96 : decode cX11_copy 96 = .ok (.iconst 2, 1) := by decide +kernel
theorem dX11_copy_97 : decode cX11_copy 97 = .ok (.invokevirtual 80, 3) := by decide +kernel
theorem dX11_copy_100 : decode cX11_copy 100 = .ok (.ireturn, 1) := by decide +kernel
theorem dX11_copy_101 : decode cX11_copy 101 = .ok (.iconst 0, 1) := by decide +kernel
theorem dX11_copy_102 : decode cX11_copy 102 = .ok (.istore 6, 2) := by decide +kernel
theorem dX11_copy_104 : decode cX11_copy 104 = .ok (.iload 6, 2) := by decide +kernel
theorem dX11_copy_106 : decode cX11_copy 106 = .ok (.iload 5, 2) := by decide +kernel
theorem dX11_copy_108 : decode cX11_copy 108 = .ok (.if_icmp .ge 30, 3) := by decide +kernel
theorem dX11_copy_111 : decode cX11_copy 111 = .ok (.aload_n 0, 1) := by decide +kernel
theorem dX11_copy_112 : decode cX11_copy 112 = .ok (.getfield 32, 3) := by decide +kernel
theorem dX11_copy_115 : decode cX11_copy 115 = .ok (.iload 6, 2) := by decide +kernel
theorem dX11_copy_117 : decode cX11_copy 117 = .ok (.aload_n 0, 1) := by decide +kernel
theorem dX11_copy_118 : decode cX11_copy 118 = .ok (.getfield 16, 3) := by decide +kernel
theorem dX11_copy_121 : decode cX11_copy 121 = .ok (.bipush 40, 2) := by decide +kernel
theorem dX11_copy_123 : decode cX11_copy 123 = .ok (.iload_n 1, 1) := by decide +kernel
theorem dX11_copy_124 : decode cX11_copy 124 = .ok (.imul, 1) := by decide +kernel
theorem dX11_copy_125 : decode cX11_copy 125 = .ok (.iload_n 2, 1) := by decide +kernel
theorem dX11_copy_126 : decode cX11_copy 126 = .ok (.iadd, 1) := by decide +kernel
theorem dX11_copy_127 : decode cX11_copy 127 = .ok (.iload 6, 2) := by decide +kernel
theorem dX11_copy_129 : decode cX11_copy 129 = .ok (.iadd, 1) := by decide +kernel
theorem dX11_copy_130 : decode cX11_copy 130 = .ok (.iaload, 1) := by decide +kernel
theorem dX11_copy_131 : decode cX11_copy 131 = .ok (.iastore, 1) := by decide +kernel
theorem dX11_copy_132 : decode cX11_copy 132 = .ok (.iinc 6 1, 3) := by decide +kernel
theorem dX11_copy_135 : decode cX11_copy 135 = .ok (.goto (-31), 3) := by decide +kernel
theorem dX11_copy_138 : decode cX11_copy 138 = .ok (.iconst 0, 1) := by decide +kernel
theorem dX11_copy_139 : decode cX11_copy 139 = .ok (.istore 6, 2) := by decide +kernel
theorem dX11_copy_141 : decode cX11_copy 141 = .ok (.iload 6, 2) := by decide +kernel
theorem dX11_copy_143 : decode cX11_copy 143 = .ok (.iload 5, 2) := by decide +kernel
theorem dX11_copy_145 : decode cX11_copy 145 = .ok (.if_icmp .ge 31, 3) := by decide +kernel
theorem dX11_copy_148 : decode cX11_copy 148 = .ok (.aload_n 0, 1) := by decide +kernel
theorem dX11_copy_149 : decode cX11_copy 149 = .ok (.getfield 16, 3) := by decide +kernel
theorem dX11_copy_152 : decode cX11_copy 152 = .ok (.bipush 40, 2) := by decide +kernel
theorem dX11_copy_154 : decode cX11_copy 154 = .ok (.iload_n 3, 1) := by decide +kernel
theorem dX11_copy_155 : decode cX11_copy 155 = .ok (.imul, 1) := by decide +kernel
theorem dX11_copy_156 : decode cX11_copy 156 = .ok (.iload 4, 2) := by decide +kernel
theorem dX11_copy_158 : decode cX11_copy 158 = .ok (.iadd, 1) := by decide +kernel
theorem dX11_copy_159 : decode cX11_copy 159 = .ok (.iload 6, 2) := by decide +kernel
theorem dX11_copy_161 : decode cX11_copy 161 = .ok (.iadd, 1) := by decide +kernel
theorem dX11_copy_162 : decode cX11_copy 162 = .ok (.aload_n 0, 1) := by decide +kernel
theorem dX11_copy_163 : decode cX11_copy 163 = .ok (.getfield 32, 3) := by decide +kernel
theorem dX11_copy_166 : decode cX11_copy 166 = .ok (.iload 6, 2) := by decide +kernel
theorem dX11_copy_168 : decode cX11_copy 168 = .ok (.iaload, 1) := by decide +kernel
theorem dX11_copy_169 : decode cX11_copy 169 = .ok (.iastore, 1) := by decide +kernel
theorem dX11_copy_170 : decode cX11_copy 170 = .ok (.iinc 6 1, 3) := by decide +kernel
theorem dX11_copy_173 : decode cX11_copy 173 = .ok (.goto (-32), 3) := by decide +kernel
theorem dX11_copy_176 : decode cX11_copy 176 = .ok (.iconst 1, 1) := by decide +kernel
theorem dX11_copy_177 : decode cX11_copy 177 = .ok (.ireturn, 1) := by decide +kernel
theorem dX11_mean_0 : decode cX11_mean 0 = .ok (.iload_n 1, 1) := by decide +kernel
theorem dX11_mean_1 : decode cX11_mean 1 = .ok (.invokestatic 76, 3) := by decide +kernel
theorem dX11_mean_4 : decode cX11_mean 4 = .ok (.ifCond .ne 5, 3) := by decide +kernel
theorem dX11_mean_7 : decode cX11_mean 7 = .ok (.iconst (-1), 1) := by decide +kernel
theorem dX11_mean_8 : decode cX11_mean 8 = .ok (.ireturn, 1) := by decide +kernel
theorem dX11_mean_9 : decode cX11_mean 9 = .ok (.aload_n 0, 1) := by decide +kernel
theorem dX11_mean_10 : decode cX11_mean 10 = .ok (.getfield 13, 3) := by decide +kernel
theorem dX11_mean_13 : decode cX11_mean 13 = .ok (.iload_n 1, 1) := by decide +kernel
theorem dX11_mean_14 : decode cX11_mean 14 = .ok (.iaload, 1) := by decide +kernel
theorem dX11_mean_15 : decode cX11_mean 15 = .ok (.ifCond .ge 9, 3) := by decide +kernel
theorem dX11_mean_18 : decode cX11_mean 18 = .ok (.aload_n 0, 1) := by decide +kernel
theorem dX11_mean_19 : decode cX11_mean 19 = .ok (.iconst 1, 1) := by decide +kernel
theorem dX11_mean_20 : decode cX11_mean 20 = .ok (.invokevirtual 80, 3) := by decide +kernel
theorem dX11_mean_23 : decode cX11_mean 23 = .ok (.ireturn, 1) := by decide +kernel
theorem dX11_mean_24 : decode cX11_mean 24 = .ok (.aload_n 0, 1) := by decide +kernel
theorem dX11_mean_25 : decode cX11_mean 25 = .ok (.getfield 13, 3) := by decide +kernel
theorem dX11_mean_28 : decode cX11_mean 28 = .ok (.iload_n 1, 1) := by decide +kernel
theorem dX11_mean_29 : decode cX11_mean 29 = .ok (.iaload, 1) := by decide +kernel
theorem dX11_mean_30 : decode cX11_mean 30 = .ok (.ifCond .ne 9, 3) := by decide +kernel
theorem dX11_mean_33 : decode cX11_mean 33 = .ok (.aload_n 0, 1) := by decide +kernel
theorem dX11_mean_34 : decode cX11_mean 34 = .ok (.iconst 4, 1) := by decide +kernel
theorem dX11_mean_35 : decode cX11_mean 35 = .ok (.invokevirtual 80, 3) := by decide +kernel
theorem dX11_mean_38 : decode cX11_mean 38 = .ok (.ireturn, 1) := by decide +kernel
theorem dX11_mean_39 : decode cX11_mean 39 = .ok (.lconst 0, 1) := by decide +kernel
theorem dX11_mean_40 : decode cX11_mean 40 = .ok (.lstore_n 2, 1) := by decide +kernel
theorem dX11_mean_41 : decode cX11_mean 41 = .ok (.iconst 0, 1) := by decide +kernel
theorem dX11_mean_42 : decode cX11_mean 42 = .ok (.istore 4, 2) := by decide +kernel
theorem dX11_mean_44 : decode cX11_mean 44 = .ok (.iload 4, 2) := by decide +kernel
theorem dX11_mean_46 : decode cX11_mean 46 = .ok (.aload_n 0, 1) := by decide +kernel
theorem dX11_mean_47 : decode cX11_mean 47 = .ok (.getfield 13, 3) := by decide +kernel
theorem dX11_mean_50 : decode cX11_mean 50 = .ok (.iload_n 1, 1) := by decide +kernel
theorem dX11_mean_51 : decode cX11_mean 51 = .ok (.iaload, 1) := by decide +kernel
theorem dX11_mean_52 : decode cX11_mean 52 = .ok (.if_icmp .ge 25, 3) := by decide +kernel
theorem dX11_mean_55 : decode cX11_mean 55 = .ok (.lload_n 2, 1) := by decide +kernel
theorem dX11_mean_56 : decode cX11_mean 56 = .ok (.aload_n 0, 1) := by decide +kernel
theorem dX11_mean_57 : decode cX11_mean 57 = .ok (.getfield 16, 3) := by decide +kernel
theorem dX11_mean_60 : decode cX11_mean 60 = .ok (.bipush 40, 2) := by decide +kernel
theorem dX11_mean_62 : decode cX11_mean 62 = .ok (.iload_n 1, 1) := by decide +kernel
theorem dX11_mean_63 : decode cX11_mean 63 = .ok (.imul, 1) := by decide +kernel
theorem dX11_mean_64 : decode cX11_mean 64 = .ok (.iload 4, 2) := by decide +kernel
theorem dX11_mean_66 : decode cX11_mean 66 = .ok (.iadd, 1) := by decide +kernel
theorem dX11_mean_67 : decode cX11_mean 67 = .ok (.iaload, 1) := by decide +kernel
theorem dX11_mean_68 : decode cX11_mean 68 = .ok (.i2l, 1) := by decide +kernel
theorem dX11_mean_69 : decode cX11_mean 69 = .ok (.ladd, 1) := by decide +kernel
theorem dX11_mean_70 : decode cX11_mean 70 = .ok (.lstore_n 2, 1) := by decide +kernel
theorem dX11_mean_71 : decode cX11_mean 71 = .ok (.iinc 4 1, 3) := by decide +kernel
theorem dX11_mean_74 : decode cX11_mean 74 = .ok (.goto (-30), 3) := by decide +kernel
theorem dX11_mean_77 : decode cX11_mean 77 = .ok (.aload_n 0, 1) := by decide +kernel
theorem dX11_mean_78 : decode cX11_mean 78 = .ok (.lload_n 2, 1) := by decide +kernel
theorem dX11_mean_79 : decode cX11_mean 79 = .ok (.aload_n 0, 1) := by decide +kernel
theorem dX11_mean_80 : decode cX11_mean 80 = .ok (.getfield 13, 3) := by decide +kernel
theorem dX11_mean_83 : decode cX11_mean 83 = .ok (.iload_n 1, 1) := by decide +kernel
theorem dX11_mean_84 : decode cX11_mean 84 = .ok (.iaload, 1) := by decide +kernel
theorem dX11_mean_85 : decode cX11_mean 85 = .ok (.i2l, 1) := by decide +kernel
theorem dX11_mean_86 : decode cX11_mean 86 = .ok (.ldiv, 1) := by decide +kernel
theorem dX11_mean_87 : decode cX11_mean 87 = .ok (.l2i, 1) := by decide +kernel
theorem dX11_mean_88 : decode cX11_mean 88 = .ok (.invokevirtual 83, 3) := by decide +kernel
theorem dX11_mean_91 : decode cX11_mean 91 = .ok (.ireturn, 1) := by decide +kernel
theorem dX11_text_0 : decode cX11_text 0 = .ok (.iload_n 1, 1) := by decide +kernel
theorem dX11_text_1 : decode cX11_text 1 = .ok (.invokestatic 86, 3) := by decide +kernel
theorem dX11_text_4 : decode cX11_text 4 = .ok (.ifCond .eq 9, 3) := by decide +kernel
theorem dX11_text_7 : decode cX11_text 7 = .ok (.iload_n 2, 1) := by decide +kernel
theorem dX11_text_8 : decode cX11_text 8 = .ok (.bipush 60, 2) := by decide +kernel
theorem dX11_text_10 : decode cX11_text 10 = .ok (.if_icmp .le 5, 3) := by decide +kernel
theorem dX11_text_13 : decode cX11_text 13 = .ok (.iconst (-1), 1) := by decide +kernel
theorem dX11_text_14 : decode cX11_text 14 = .ok (.ireturn, 1) := by decide +kernel
theorem dX11_text_15 : decode cX11_text 15 = .ok (.iload_n 2, 1) := by decide +kernel
theorem dX11_text_16 : decode cX11_text 16 = .ok (.ifCond .ge 9, 3) := by decide +kernel
theorem dX11_text_19 : decode cX11_text 19 = .ok (.aload_n 0, 1) := by decide +kernel
theorem dX11_text_20 : decode cX11_text 20 = .ok (.iconst 5, 1) := by decide +kernel
theorem dX11_text_21 : decode cX11_text 21 = .ok (.invokevirtual 80, 3) := by decide +kernel
theorem dX11_text_24 : decode cX11_text 24 = .ok (.ireturn, 1) := by decide +kernel
theorem dX11_text_25 : decode cX11_text 25 = .ok (.aload_n 0, 1) := by decide +kernel
theorem dX11_text_26 : decode cX11_text 26 = .ok (.getfield 19, 3) := by decide +kernel
theorem dX11_text_29 : decode cX11_text 29 = .ok (.iload_n 1, 1) := by decide +kernel
theorem dX11_text_30 : decode cX11_text 30 = .ok (.iload_n 2, 1) := by decide +kernel
theorem dX11_text_31 : decode cX11_text 31 = .ok (.iastore, 1) := by decide +kernel
theorem dX11_text_32 : decode cX11_text 32 = .ok (.iconst 0, 1) := by decide +kernel
theorem dX11_text_33 : decode cX11_text 33 = .ok (.istore_n 3, 1) := by decide +kernel
theorem dX11_text_34 : decode cX11_text 34 = .ok (.iload_n 3, 1) := by decide +kernel
theorem dX11_text_35 : decode cX11_text 35 = .ok (.bipush 60, 2) := by decide +kernel
theorem dX11_text_37 : decode cX11_text 37 = .ok (.if_icmp .ge 22, 3) := by decide +kernel
theorem dX11_text_40 : decode cX11_text 40 = .ok (.aload_n 0, 1) := by decide +kernel
theorem dX11_text_41 : decode cX11_text 41 = .ok (.getfield 22, 3) := by decide +kernel
theorem dX11_text_44 : decode cX11_text 44 = .ok (.bipush 60, 2) := by decide +kernel
theorem dX11_text_46 : decode cX11_text 46 = .ok (.iload_n 1, 1) := by decide +kernel
theorem dX11_text_47 : decode cX11_text 47 = .ok (.imul, 1) := by decide +kernel
theorem dX11_text_48 : decode cX11_text 48 = .ok (.iload_n 3, 1) := by decide +kernel
theorem dX11_text_49 : decode cX11_text 49 = .ok (.iadd, 1) := by decide +kernel
theorem dX11_text_50 : decode cX11_text 50 = .ok (.bipush 32, 2) := by decide +kernel
theorem dX11_text_52 : decode cX11_text 52 = .ok (.iastore, 1) := by decide +kernel
theorem dX11_text_53 : decode cX11_text 53 = .ok (.iinc 3 1, 3) := by decide +kernel
theorem dX11_text_56 : decode cX11_text 56 = .ok (.goto (-22), 3) := by decide +kernel
theorem dX11_text_59 : decode cX11_text 59 = .ok (.iload_n 2, 1) := by decide +kernel
theorem dX11_text_60 : decode cX11_text 60 = .ok (.ireturn, 1) := by decide +kernel
theorem dX11_put_0 : decode cX11_put 0 = .ok (.iload_n 1, 1) := by decide +kernel
theorem dX11_put_1 : decode cX11_put 1 = .ok (.invokestatic 86, 3) := by decide +kernel
theorem dX11_put_4 : decode cX11_put 4 = .ok (.ifCond .ne 5, 3) := by decide +kernel
theorem dX11_put_7 : decode cX11_put 7 = .ok (.iconst (-1), 1) := by decide +kernel
theorem dX11_put_8 : decode cX11_put 8 = .ok (.ireturn, 1) := by decide +kernel
theorem dX11_put_9 : decode cX11_put 9 = .ok (.aload_n 0, 1) := by decide +kernel
theorem dX11_put_10 : decode cX11_put 10 = .ok (.getfield 19, 3) := by decide +kernel
theorem dX11_put_13 : decode cX11_put 13 = .ok (.iload_n 1, 1) := by decide +kernel
theorem dX11_put_14 : decode cX11_put 14 = .ok (.iaload, 1) := by decide +kernel
theorem dX11_put_15 : decode cX11_put 15 = .ok (.ifCond .ge 9, 3) := by decide +kernel
theorem dX11_put_18 : decode cX11_put 18 = .ok (.aload_n 0, 1) := by decide +kernel
theorem dX11_put_19 : decode cX11_put 19 = .ok (.iconst 1, 1) := by decide +kernel
theorem dX11_put_20 : decode cX11_put 20 = .ok (.invokevirtual 80, 3) := by decide +kernel
theorem dX11_put_23 : decode cX11_put 23 = .ok (.ireturn, 1) := by decide +kernel
theorem dX11_put_24 : decode cX11_put 24 = .ok (.iload_n 2, 1) := by decide +kernel
theorem dX11_put_25 : decode cX11_put 25 = .ok (.i2l, 1) := by decide +kernel
theorem dX11_put_26 : decode cX11_put 26 = .ok (.lconst 0, 1) := by decide +kernel
theorem dX11_put_27 : decode cX11_put 27 = .ok (.aload_n 0, 1) := by decide +kernel
theorem dX11_put_28 : decode cX11_put 28 = .ok (.getfield 19, 3) := by decide +kernel
theorem dX11_put_31 : decode cX11_put 31 = .ok (.iload_n 1, 1) := by decide +kernel
theorem dX11_put_32 : decode cX11_put 32 = .ok (.iaload, 1) := by decide +kernel
theorem dX11_put_33 : decode cX11_put 33 = .ok (.iconst 1, 1) := by decide +kernel
theorem dX11_put_34 : decode cX11_put 34 = .ok (.isub, 1) := by decide +kernel
theorem dX11_put_35 : decode cX11_put 35 = .ok (.i2l, 1) := by decide +kernel
theorem dX11_put_36 : decode cX11_put 36 = .ok (.invokestatic 68, 3) := by decide +kernel
theorem dX11_put_39 : decode cX11_put 39 = .ok (.ifCond .ne 9, 3) := by decide +kernel
theorem dX11_put_42 : decode cX11_put 42 = .ok (.aload_n 0, 1) := by decide +kernel
theorem dX11_put_43 : decode cX11_put 43 = .ok (.iconst 2, 1) := by decide +kernel
theorem dX11_put_44 : decode cX11_put 44 = .ok (.invokevirtual 80, 3) := by decide +kernel
theorem dX11_put_47 : decode cX11_put 47 = .ok (.ireturn, 1) := by decide +kernel
theorem dX11_put_48 : decode cX11_put 48 = .ok (.aload_n 0, 1) := by decide +kernel
theorem dX11_put_49 : decode cX11_put 49 = .ok (.getfield 22, 3) := by decide +kernel
theorem dX11_put_52 : decode cX11_put 52 = .ok (.bipush 60, 2) := by decide +kernel
theorem dX11_put_54 : decode cX11_put 54 = .ok (.iload_n 1, 1) := by decide +kernel
theorem dX11_put_55 : decode cX11_put 55 = .ok (.imul, 1) := by decide +kernel
theorem dX11_put_56 : decode cX11_put 56 = .ok (.iload_n 2, 1) := by decide +kernel
theorem dX11_put_57 : decode cX11_put 57 = .ok (.iadd, 1) := by decide +kernel
theorem dX11_put_58 : decode cX11_put 58 = .ok (.iaload, 1) := by decide +kernel
theorem dX11_put_59 : decode cX11_put 59 = .ok (.istore 4, 2) := by decide +kernel
theorem dX11_put_61 : decode cX11_put 61 = .ok (.aload_n 0, 1) := by decide +kernel
theorem dX11_put_62 : decode cX11_put 62 = .ok (.getfield 22, 3) := by decide +kernel
theorem dX11_put_65 : decode cX11_put 65 = .ok (.bipush 60, 2) := by decide +kernel
theorem dX11_put_67 : decode cX11_put 67 = .ok (.iload_n 1, 1) := by decide +kernel
theorem dX11_put_68 : decode cX11_put 68 = .ok (.imul, 1) := by decide +kernel
theorem dX11_put_69 : decode cX11_put 69 = .ok (.iload_n 2, 1) := by decide +kernel
theorem dX11_put_70 : decode cX11_put 70 = .ok (.iadd, 1) := by decide +kernel
theorem dX11_put_71 : decode cX11_put 71 = .ok (.iload_n 3, 1) := by decide +kernel
theorem dX11_put_72 : decode cX11_put 72 = .ok (.i2b, 1) := by decide +kernel
theorem dX11_put_73 : decode cX11_put 73 = .ok (.iastore, 1) := by decide +kernel
theorem dX11_put_74 : decode cX11_put 74 = .ok (.iload 4, 2) := by decide +kernel
theorem dX11_put_76 : decode cX11_put 76 = .ok (.sipush 1000, 3) := by decide +kernel
theorem dX11_put_79 : decode cX11_put 79 = .ok (.iadd, 1) := by decide +kernel
theorem dX11_put_80 : decode cX11_put 80 = .ok (.ireturn, 1) := by decide +kernel
theorem dX11_here_0 : decode cX11_here 0 = .ok (.aload_n 0, 1) := by decide +kernel
theorem dX11_here_1 : decode cX11_here 1 = .ok (.getfield 89, 3) := by decide +kernel
theorem dX11_here_4 : decode cX11_here 4 = .ok (.aload_n 0, 1) := by decide +kernel
theorem dX11_here_5 : decode cX11_here 5 = .ok (.getfield 92, 3) := by decide +kernel
theorem dX11_here_8 : decode cX11_here 8 = .ok (.if_icmp .ge 20, 3) := by decide +kernel
theorem dX11_here_11 : decode cX11_here 11 = .ok (.aload_n 0, 1) := by decide +kernel
theorem dX11_here_12 : decode cX11_here 12 = .ok (.getfield 22, 3) := by decide +kernel
theorem dX11_here_15 : decode cX11_here 15 = .ok (.aload_n 0, 1) := by decide +kernel
theorem dX11_here_16 : decode cX11_here 16 = .ok (.getfield 95, 3) := by decide +kernel
theorem dX11_here_19 : decode cX11_here 19 = .ok (.aload_n 0, 1) := by decide +kernel
theorem dX11_here_20 : decode cX11_here 20 = .ok (.getfield 89, 3) := by decide +kernel
theorem dX11_here_23 : decode cX11_here 23 = .ok (.iadd, 1) := by decide +kernel
theorem dX11_here_24 : decode cX11_here 24 = .ok (.iaload, 1) := by decide +kernel
theorem dX11_here_25 : decode cX11_here 25 = .ok (.goto 6, 3) := by decide +kernel
theorem dX11_here_28 : decode cX11_here 28 = .ok (.sipush (-1000), 3) := by decide +kernel
theorem dX11_here_31 : decode cX11_here 31 = .ok (.ireturn, 1) := by decide +kernel
theorem dX11_kindOf_0 : decode cX11_kindOf 0 = .ok (.iload_n 0, 1) := by decide +kernel
theorem dX11_kindOf_1 : decode cX11_kindOf 1 = .ok (.bipush 114, 2) := by decide +kernel
theorem dX11_kindOf_3 : decode cX11_kindOf 3 = .ok (.if_icmp .ne 7, 3) := by decide +kernel
theorem dX11_kindOf_6 : decode cX11_kindOf 6 = .ok (.iconst 0, 1) := by decide +kernel
theorem dX11_kindOf_7 : decode cX11_kindOf 7 = .ok (.goto 54, 3) := by decide +kernel
theorem dX11_kindOf_10 : decode cX11_kindOf 10 = .ok (.iload_n 0, 1) := by decide +kernel
theorem dX11_kindOf_11 : decode cX11_kindOf 11 = .ok (.bipush 119, 2) := by decide +kernel
theorem dX11_kindOf_13 : decode cX11_kindOf 13 = .ok (.if_icmp .ne 7, 3) := by decide +kernel
theorem dX11_kindOf_16 : decode cX11_kindOf 16 = .ok (.iconst 1, 1) := by decide +kernel
theorem dX11_kindOf_17 : decode cX11_kindOf 17 = .ok (.goto 44, 3) := by decide +kernel
theorem dX11_kindOf_20 : decode cX11_kindOf 20 = .ok (.iload_n 0, 1) := by decide +kernel
theorem dX11_kindOf_21 : decode cX11_kindOf 21 = .ok (.bipush 116, 2) := by decide +kernel
theorem dX11_kindOf_23 : decode cX11_kindOf 23 = .ok (.if_icmp .ne 7, 3) := by decide +kernel
theorem dX11_kindOf_26 : decode cX11_kindOf 26 = .ok (.iconst 2, 1) := by decide +kernel
theorem dX11_kindOf_27 : decode cX11_kindOf 27 = .ok (.goto 34, 3) := by decide +kernel
theorem dX11_kindOf_30 : decode cX11_kindOf 30 = .ok (.iload_n 0, 1) := by decide +kernel
theorem dX11_kindOf_31 : decode cX11_kindOf 31 = .ok (.bipush 115, 2) := by decide +kernel
theorem dX11_kindOf_33 : decode cX11_kindOf 33 = .ok (.if_icmp .ne 7, 3) := by decide +kernel
theorem dX11_kindOf_36 : decode cX11_kindOf 36 = .ok (.iconst 3, 1) := by decide +kernel
theorem dX11_kindOf_37 : decode cX11_kindOf 37 = .ok (.goto 24, 3) := by decide +kernel
theorem dX11_kindOf_40 : decode cX11_kindOf 40 = .ok (.iload_n 0, 1) := by decide +kernel
theorem dX11_kindOf_41 : decode cX11_kindOf 41 = .ok (.bipush 98, 2) := by decide +kernel
theorem dX11_kindOf_43 : decode cX11_kindOf 43 = .ok (.if_icmp .ne 7, 3) := by decide +kernel
theorem dX11_kindOf_46 : decode cX11_kindOf 46 = .ok (.iconst 4, 1) := by decide +kernel
theorem dX11_kindOf_47 : decode cX11_kindOf 47 = .ok (.goto 14, 3) := by decide +kernel
theorem dX11_kindOf_50 : decode cX11_kindOf 50 = .ok (.iload_n 0, 1) := by decide +kernel
theorem dX11_kindOf_51 : decode cX11_kindOf 51 = .ok (.bipush 100, 2) := by decide +kernel
theorem dX11_kindOf_53 : decode cX11_kindOf 53 = .ok (.if_icmp .ne 7, 3) := by decide +kernel
theorem dX11_kindOf_56 : decode cX11_kindOf 56 = .ok (.iconst 5, 1) := by decide +kernel
theorem dX11_kindOf_57 : decode cX11_kindOf 57 = .ok (.goto 4, 3) := by decide +kernel
theorem dX11_kindOf_60 : decode cX11_kindOf 60 = .ok (.iconst (-1), 1) := by decide +kernel
theorem dX11_kindOf_61 : decode cX11_kindOf 61 = .ok (.ireturn, 1) := by decide +kernel
theorem dX11_takesRod_0 : decode cX11_takesRod 0 = .ok (.aload_n 0, 1) := by decide +kernel
theorem dX11_takesRod_1 : decode cX11_takesRod 1 = .ok (.invokevirtual 98, 3) := by decide +kernel
theorem dX11_takesRod_4 : decode cX11_takesRod 4 = .ok (.invokestatic 102, 3) := by decide +kernel
theorem dX11_takesRod_7 : decode cX11_takesRod 7 = .ok (.istore_n 1, 1) := by decide +kernel
theorem dX11_takesRod_8 : decode cX11_takesRod 8 = .ok (.iload_n 1, 1) := by decide +kernel
theorem dX11_takesRod_9 : decode cX11_takesRod 9 = .ok (.ifCond .lt 12, 3) := by decide +kernel
theorem dX11_takesRod_12 : decode cX11_takesRod 12 = .ok (.aload_n 0, 1) := by decide +kernel
theorem dX11_takesRod_13 : decode cX11_takesRod 13 = .ok (.getfield 105, 3) := by decide +kernel
theorem dX11_takesRod_16 : decode cX11_takesRod 16 = .ok (.bipush 7, 2) := by decide +kernel
theorem dX11_takesRod_18 : decode cX11_takesRod 18 = .ok (.if_icmp .ne 5, 3) := by decide +kernel
theorem dX11_takesRod_21 : decode cX11_takesRod 21 = .ok (.iconst 0, 1) := by decide +kernel
theorem dX11_takesRod_22 : decode cX11_takesRod 22 = .ok (.ireturn, 1) := by decide +kernel
theorem dX11_takesRod_23 : decode cX11_takesRod 23 = .ok (.aload_n 0, 1) := by decide +kernel
theorem dX11_takesRod_24 : decode cX11_takesRod 24 = .ok (.dup, 1) := by decide +kernel
theorem dX11_takesRod_25 : decode cX11_takesRod 25 = .ok (.getfield 89, 3) := by decide +kernel
theorem dX11_takesRod_28 : decode cX11_takesRod 28 = .ok (.iconst 1, 1) := by decide +kernel
theorem dX11_takesRod_29 : decode cX11_takesRod 29 = .ok (.iadd, 1) := by decide +kernel
theorem dX11_takesRod_30 : decode cX11_takesRod 30 = .ok (.putfield 89, 3) := by decide +kernel
theorem dX11_takesRod_33 : decode cX11_takesRod 33 = .ok (.iconst 3, 1) := by decide +kernel
theorem dX11_takesRod_34 : decode cX11_takesRod 34 = .ok (.aload_n 0, 1) := by decide +kernel
theorem dX11_takesRod_35 : decode cX11_takesRod 35 = .ok (.getfield 105, 3) := by decide +kernel
theorem dX11_takesRod_38 : decode cX11_takesRod 38 = .ok (.imul, 1) := by decide +kernel
theorem dX11_takesRod_39 : decode cX11_takesRod 39 = .ok (.istore_n 2, 1) := by decide +kernel
theorem dX11_takesRod_40 : decode cX11_takesRod 40 = .ok (.aload_n 0, 1) := by decide +kernel
theorem dX11_takesRod_41 : decode cX11_takesRod 41 = .ok (.getfield 35, 3) := by decide +kernel
theorem dX11_takesRod_44 : decode cX11_takesRod 44 = .ok (.iload_n 2, 1) := by decide +kernel
theorem dX11_takesRod_45 : decode cX11_takesRod 45 = .ok (.iload_n 1, 1) := by decide +kernel
theorem dX11_takesRod_46 : decode cX11_takesRod 46 = .ok (.iastore, 1) := by decide +kernel
theorem dX11_takesRod_47 : decode cX11_takesRod 47 = .ok (.iconst 1, 1) := by decide +kernel
theorem dX11_takesRod_48 : decode cX11_takesRod 48 = .ok (.istore_n 3, 1) := by decide +kernel
theorem dX11_takesRod_49 : decode cX11_takesRod 49 = .ok (.iload_n 3, 1) := by decide +kernel
theorem dX11_takesRod_50 : decode cX11_takesRod 50 = .ok (.iconst 3, 1) := by decide +kernel
theorem dX11_takesRod_51 : decode cX11_takesRod 51 = .ok (.if_icmp .ge 53, 3) := by decide +kernel
theorem dX11_takesRod_54 : decode cX11_takesRod 54 = .ok (.aload_n 0, 1) := by decide +kernel
theorem dX11_takesRod_55 : decode cX11_takesRod 55 = .ok (.invokevirtual 98, 3) := by decide +kernel
theorem dX11_takesRod_58 : decode cX11_takesRod 58 = .ok (.bipush 48, 2) := by decide +kernel
theorem dX11_takesRod_60 : decode cX11_takesRod 60 = .ok (.isub, 1) := by decide +kernel
theorem dX11_takesRod_61 : decode cX11_takesRod 61 = .ok (.istore 4, 2) := by decide +kernel
theorem dX11_takesRod_63 : decode cX11_takesRod 63 = .ok (.iload 4, 2) := by decide +kernel
theorem dX11_takesRod_65 : decode cX11_takesRod 65 = .ok (.i2l, 1) := by decide +kernel
theorem dX11_takesRod_66 : decode cX11_takesRod 66 = .ok (.lconst 0, 1) := by decide +kernel
theorem dX11_takesRod_67 : decode cX11_takesRod 67 = .ok (.ldc2_w 74, 3) := by decide +kernel
theorem dX11_takesRod_70 : decode cX11_takesRod 70 = .ok (.invokestatic 68, 3) := by decide +kernel
theorem dX11_takesRod_73 : decode cX11_takesRod 73 = .ok (.ifCond .ne 5, 3) := by decide +kernel
theorem dX11_takesRod_76 : decode cX11_takesRod 76 = .ok (.iconst 0, 1) := by decide +kernel
theorem dX11_takesRod_77 : decode cX11_takesRod 77 = .ok (.ireturn, 1) := by decide +kernel
theorem dX11_takesRod_78 : decode cX11_takesRod 78 = .ok (.aload_n 0, 1) := by decide +kernel
theorem dX11_takesRod_79 : decode cX11_takesRod 79 = .ok (.getfield 35, 3) := by decide +kernel
theorem dX11_takesRod_82 : decode cX11_takesRod 82 = .ok (.iload_n 2, 1) := by decide +kernel
theorem dX11_takesRod_83 : decode cX11_takesRod 83 = .ok (.iload_n 3, 1) := by decide +kernel
theorem dX11_takesRod_84 : decode cX11_takesRod 84 = .ok (.iadd, 1) := by decide +kernel
theorem dX11_takesRod_85 : decode cX11_takesRod 85 = .ok (.iload 4, 2) := by decide +kernel
theorem dX11_takesRod_87 : decode cX11_takesRod 87 = .ok (.iastore, 1) := by decide +kernel
theorem dX11_takesRod_88 : decode cX11_takesRod 88 = .ok (.aload_n 0, 1) := by decide +kernel
theorem dX11_takesRod_89 : decode cX11_takesRod 89 = .ok (.dup, 1) := by decide +kernel
theorem dX11_takesRod_90 : decode cX11_takesRod 90 = .ok (.getfield 89, 3) := by decide +kernel
theorem dX11_takesRod_93 : decode cX11_takesRod 93 = .ok (.iconst 1, 1) := by decide +kernel
theorem dX11_takesRod_94 : decode cX11_takesRod 94 = .ok (.iadd, 1) := by decide +kernel
theorem dX11_takesRod_95 : decode cX11_takesRod 95 = .ok (.putfield 89, 3) := by decide +kernel
theorem dX11_takesRod_98 : decode cX11_takesRod 98 = .ok (.iinc 3 1, 3) := by decide +kernel
theorem dX11_takesRod_101 : decode cX11_takesRod 101 = .ok (.goto (-52), 3) := by decide +kernel
theorem dX11_takesRod_104 : decode cX11_takesRod 104 = .ok (.aload_n 0, 1) := by decide +kernel
theorem dX11_takesRod_105 : decode cX11_takesRod 105 = .ok (.dup, 1) := by decide +kernel
theorem dX11_takesRod_106 : decode cX11_takesRod 106 = .ok (.getfield 105, 3) := by decide +kernel
theorem dX11_takesRod_109 : decode cX11_takesRod 109 = .ok (.iconst 1, 1) := by decide +kernel
theorem dX11_takesRod_110 : decode cX11_takesRod 110 = .ok (.iadd, 1) := by decide +kernel
theorem dX11_takesRod_111 : decode cX11_takesRod 111 = .ok (.putfield 105, 3) := by decide +kernel
theorem dX11_takesRod_114 : decode cX11_takesRod 114 = .ok (.iconst 1, 1) := by decide +kernel
theorem dX11_takesRod_115 : decode cX11_takesRod 115 = .ok (.ireturn, 1) := by decide +kernel
theorem dX11_faultOf_0 : decode cX11_faultOf 0 = .ok (.aload_n 0, 1) := by decide +kernel
theorem dX11_faultOf_1 : decode cX11_faultOf 1 = .ok (.bipush 60, 2) := by decide +kernel
theorem dX11_faultOf_3 : decode cX11_faultOf 3 = .ok (.iload_n 1, 1) := by decide +kernel
theorem dX11_faultOf_4 : decode cX11_faultOf 4 = .ok (.imul, 1) := by decide +kernel
theorem dX11_faultOf_5 : decode cX11_faultOf 5 = .ok (.putfield 95, 3) := by decide +kernel
theorem dX11_faultOf_8 : decode cX11_faultOf 8 = .ok (.aload_n 0, 1) := by decide +kernel
theorem dX11_faultOf_9 : decode cX11_faultOf 9 = .ok (.iconst 0, 1) := by decide +kernel
theorem dX11_faultOf_10 : decode cX11_faultOf 10 = .ok (.putfield 89, 3) := by decide +kernel
theorem dX11_faultOf_13 : decode cX11_faultOf 13 = .ok (.aload_n 0, 1) := by decide +kernel
theorem dX11_faultOf_14 : decode cX11_faultOf 14 = .ok (.aload_n 0, 1) := by decide +kernel
theorem dX11_faultOf_15 : decode cX11_faultOf 15 = .ok (.getfield 19, 3) := by decide +kernel
theorem dX11_faultOf_18 : decode cX11_faultOf 18 = .ok (.iload_n 1, 1) := by decide +kernel
theorem dX11_faultOf_19 : decode cX11_faultOf 19 = .ok (.iaload, 1) := by decide +kernel
theorem dX11_faultOf_20 : decode cX11_faultOf 20 = .ok (.putfield 92, 3) := by decide +kernel
theorem dX11_faultOf_23 : decode cX11_faultOf 23 = .ok (.aload_n 0, 1) := by decide +kernel
theorem dX11_faultOf_24 : decode cX11_faultOf 24 = .ok (.iconst 0, 1) := by decide +kernel
theorem dX11_faultOf_25 : decode cX11_faultOf 25 = .ok (.putfield 105, 3) := by decide +kernel
theorem dX11_faultOf_28 : decode cX11_faultOf 28 = .ok (.iconst 1, 1) := by decide +kernel
theorem dX11_faultOf_29 : decode cX11_faultOf 29 = .ok (.istore_n 2, 1) := by decide +kernel
theorem dX11_faultOf_30 : decode cX11_faultOf 30 = .ok (.iload_n 2, 1) := by decide +kernel
theorem dX11_faultOf_31 : decode cX11_faultOf 31 = .ok (.ifCond .eq 66, 3) := by decide +kernel
theorem dX11_faultOf_34 : decode cX11_faultOf 34 = .ok (.aload_n 0, 1) := by decide +kernel
theorem dX11_faultOf_35 : decode cX11_faultOf 35 = .ok (.invokevirtual 98, 3) := by decide +kernel
theorem dX11_faultOf_38 : decode cX11_faultOf 38 = .ok (.bipush 32, 2) := by decide +kernel
theorem dX11_faultOf_40 : decode cX11_faultOf 40 = .ok (.if_icmp .ne 16, 3) := by decide +kernel
theorem dX11_faultOf_43 : decode cX11_faultOf 43 = .ok (.aload_n 0, 1) := by decide +kernel
theorem dX11_faultOf_44 : decode cX11_faultOf 44 = .ok (.dup, 1) := by decide +kernel
theorem dX11_faultOf_45 : decode cX11_faultOf 45 = .ok (.getfield 89, 3) := by decide +kernel
theorem dX11_faultOf_48 : decode cX11_faultOf 48 = .ok (.iconst 1, 1) := by decide +kernel
theorem dX11_faultOf_49 : decode cX11_faultOf 49 = .ok (.iadd, 1) := by decide +kernel
theorem dX11_faultOf_50 : decode cX11_faultOf 50 = .ok (.putfield 89, 3) := by decide +kernel
theorem dX11_faultOf_53 : decode cX11_faultOf 53 = .ok (.goto (-19), 3) := by decide +kernel
theorem dX11_faultOf_56 : decode cX11_faultOf 56 = .ok (.aload_n 0, 1) := by decide +kernel
theorem dX11_faultOf_57 : decode cX11_faultOf 57 = .ok (.getfield 89, 3) := by decide +kernel
theorem dX11_faultOf_60 : decode cX11_faultOf 60 = .ok (.aload_n 0, 1) := by decide +kernel
theorem dX11_faultOf_61 : decode cX11_faultOf 61 = .ok (.getfield 92, 3) := by decide +kernel
theorem dX11_faultOf_64 : decode cX11_faultOf 64 = .ok (.if_icmp .lt 11, 3) := by decide +kernel
theorem dX11_faultOf_67 : decode cX11_faultOf 67 = .ok (.aload_n 0, 1) := by decide +kernel
theorem dX11_faultOf_68 : decode cX11_faultOf 68 = .ok (.getfield 105, 3) := by decide +kernel
theorem dX11_faultOf_71 : decode cX11_faultOf 71 = .ok (.iconst 2, 1) := by decide +kernel
theorem dX11_faultOf_72 : decode cX11_faultOf 72 = .ok (.if_icmp .ge 7, 3) := by decide +kernel
theorem dX11_faultOf_75 : decode cX11_faultOf 75 = .ok (.iconst 1, 1) := by decide +kernel
theorem dX11_faultOf_76 : decode cX11_faultOf 76 = .ok (.goto 4, 3) := by decide +kernel
theorem dX11_faultOf_79 : decode cX11_faultOf 79 = .ok (.iconst 0, 1) := by decide +kernel
theorem dX11_faultOf_80 : decode cX11_faultOf 80 = .ok (.istore_n 2, 1) := by decide +kernel
theorem dX11_faultOf_81 : decode cX11_faultOf 81 = .ok (.iload_n 2, 1) := by decide +kernel
theorem dX11_faultOf_82 : decode cX11_faultOf 82 = .ok (.ifCond .eq (-52), 3) := by decide +kernel
theorem dX11_faultOf_85 : decode cX11_faultOf 85 = .ok (.aload_n 0, 1) := by decide +kernel
theorem dX11_faultOf_86 : decode cX11_faultOf 86 = .ok (.invokevirtual 108, 3) := by decide +kernel
theorem dX11_faultOf_89 : decode cX11_faultOf 89 = .ok (.ifCond .ne (-59), 3) := by decide +kernel
theorem dX11_faultOf_92 : decode cX11_faultOf 92 = .ok (.aload_n 0, 1) := by decide +kernel
theorem dX11_faultOf_93 : decode cX11_faultOf 93 = .ok (.getfield 89, 3) := by decide +kernel
theorem dX11_faultOf_96 : decode cX11_faultOf 96 = .ok (.ireturn, 1) := by decide +kernel
theorem dX11_faultOf_97 : decode cX11_faultOf 97 = .ok (.bipush (-9), 2) := by decide +kernel
theorem dX11_faultOf_99 : decode cX11_faultOf 99 = .ok (.ireturn, 1) := by decide +kernel
theorem dX11_fault_0 : decode cX11_fault 0 = .ok (.iload_n 1, 1) := by decide +kernel
theorem dX11_fault_1 : decode cX11_fault 1 = .ok (.invokestatic 86, 3) := by decide +kernel
theorem dX11_fault_4 : decode cX11_fault 4 = .ok (.ifCond .ne 5, 3) := by decide +kernel
theorem dX11_fault_7 : decode cX11_fault 7 = .ok (.iconst (-1), 1) := by decide +kernel
theorem dX11_fault_8 : decode cX11_fault 8 = .ok (.ireturn, 1) := by decide +kernel
theorem dX11_fault_9 : decode cX11_fault 9 = .ok (.aload_n 0, 1) := by decide +kernel
theorem dX11_fault_10 : decode cX11_fault 10 = .ok (.getfield 19, 3) := by decide +kernel
theorem dX11_fault_13 : decode cX11_fault 13 = .ok (.iload_n 1, 1) := by decide +kernel
theorem dX11_fault_14 : decode cX11_fault 14 = .ok (.iaload, 1) := by decide +kernel
theorem dX11_fault_15 : decode cX11_fault 15 = .ok (.ifCond .ge 11, 3) := by decide +kernel
end
section
theorem dX11_fault_18 : decode cX11_fault 18 = .ok (.aload_n 0, 1) := by decide +kernel
theorem dX11_fault_19 : decode cX11_fault 19 = .ok (.iconst 1, 1) := by decide +kernel
theorem dX11_fault_20 : decode cX11_fault 20 = .ok (.invokevirtual 80, 3) := by decide +kernel
theorem dX11_fault_23 : decode cX11_fault 23 = .ok (.goto 8, 3) := by decide +kernel
theorem dX11_fault_26 : decode cX11_fault 26 = .ok (.aload_n 0, 1) := by decide +kernel
theorem dX11_fault_27 : decode cX11_fault 27 = .ok (.iload_n 1, 1) := by decide +kernel
theorem dX11_fault_28 : decode cX11_fault 28 = .ok (.invokevirtual 112, 3) := by decide +kernel
theorem dX11_fault_31 : decode cX11_fault 31 = .ok (.ireturn, 1) := by decide +kernel
theorem dX11_box_0 : decode cX11_box 0 = .ok (.iload_n 1, 1) := by decide +kernel
theorem dX11_box_1 : decode cX11_box 1 = .ok (.invokestatic 86, 3) := by decide +kernel
theorem dX11_box_4 : decode cX11_box 4 = .ok (.ifCond .ne 5, 3) := by decide +kernel
theorem dX11_box_7 : decode cX11_box 7 = .ok (.iconst (-1), 1) := by decide +kernel
theorem dX11_box_8 : decode cX11_box 8 = .ok (.ireturn, 1) := by decide +kernel
theorem dX11_box_9 : decode cX11_box 9 = .ok (.aload_n 0, 1) := by decide +kernel
theorem dX11_box_10 : decode cX11_box 10 = .ok (.getfield 19, 3) := by decide +kernel
theorem dX11_box_13 : decode cX11_box 13 = .ok (.iload_n 1, 1) := by decide +kernel
theorem dX11_box_14 : decode cX11_box 14 = .ok (.iaload, 1) := by decide +kernel
theorem dX11_box_15 : decode cX11_box 15 = .ok (.ifCond .ge 9, 3) := by decide +kernel
theorem dX11_box_18 : decode cX11_box 18 = .ok (.aload_n 0, 1) := by decide +kernel
theorem dX11_box_19 : decode cX11_box 19 = .ok (.iconst 1, 1) := by decide +kernel
theorem dX11_box_20 : decode cX11_box 20 = .ok (.invokevirtual 80, 3) := by decide +kernel
theorem dX11_box_23 : decode cX11_box 23 = .ok (.ireturn, 1) := by decide +kernel
theorem dX11_box_24 : decode cX11_box 24 = .ok (.aload_n 0, 1) := by decide +kernel
theorem dX11_box_25 : decode cX11_box 25 = .ok (.iload_n 1, 1) := by decide +kernel
theorem dX11_box_26 : decode cX11_box 26 = .ok (.invokevirtual 112, 3) := by decide +kernel
theorem dX11_box_29 : decode cX11_box 29 = .ok (.bipush (-9), 2) := by decide +kernel
theorem dX11_box_31 : decode cX11_box 31 = .ok (.if_icmp .eq 6, 3) := by decide +kernel
theorem dX11_box_34 : decode cX11_box 34 = .ok (.bipush (-4), 2) := by decide +kernel
theorem dX11_box_36 : decode cX11_box 36 = .ok (.ireturn, 1) := by decide +kernel
theorem dX11_box_37 : decode cX11_box 37 = .ok (.iconst 0, 1) := by decide +kernel
theorem dX11_box_38 : decode cX11_box 38 = .ok (.istore_n 2, 1) := by decide +kernel
theorem dX11_box_39 : decode cX11_box 39 = .ok (.iload_n 2, 1) := by decide +kernel
theorem dX11_box_40 : decode cX11_box 40 = .ok (.sipush 1568, 3) := by decide +kernel
theorem dX11_box_43 : decode cX11_box 43 = .ok (.if_icmp .ge 16, 3) := by decide +kernel
theorem dX11_box_46 : decode cX11_box 46 = .ok (.aload_n 0, 1) := by decide +kernel
theorem dX11_box_47 : decode cX11_box 47 = .ok (.getfield 7, 3) := by decide +kernel
theorem dX11_box_50 : decode cX11_box 50 = .ok (.iload_n 2, 1) := by decide +kernel
theorem dX11_box_51 : decode cX11_box 51 = .ok (.iconst 0, 1) := by decide +kernel
theorem dX11_box_52 : decode cX11_box 52 = .ok (.iastore, 1) := by decide +kernel
theorem dX11_box_53 : decode cX11_box 53 = .ok (.iinc 2 1, 3) := by decide +kernel
theorem dX11_box_56 : decode cX11_box 56 = .ok (.goto (-17), 3) := by decide +kernel
theorem dX11_box_59 : decode cX11_box 59 = .ok (.aload_n 0, 1) := by decide +kernel
theorem dX11_box_60 : decode cX11_box 60 = .ok (.getfield 7, 3) := by decide +kernel
theorem dX11_box_63 : decode cX11_box 63 = .ok (.iconst 0, 1) := by decide +kernel
theorem dX11_box_64 : decode cX11_box 64 = .ok (.aload_n 0, 1) := by decide +kernel
theorem dX11_box_65 : decode cX11_box 65 = .ok (.getfield 105, 3) := by decide +kernel
theorem dX11_box_68 : decode cX11_box 68 = .ok (.iastore, 1) := by decide +kernel
theorem dX11_box_69 : decode cX11_box 69 = .ok (.iconst 0, 1) := by decide +kernel
theorem dX11_box_70 : decode cX11_box 70 = .ok (.istore_n 2, 1) := by decide +kernel
theorem dX11_box_71 : decode cX11_box 71 = .ok (.iload_n 2, 1) := by decide +kernel
theorem dX11_box_72 : decode cX11_box 72 = .ok (.aload_n 0, 1) := by decide +kernel
theorem dX11_box_73 : decode cX11_box 73 = .ok (.getfield 105, 3) := by decide +kernel
theorem dX11_box_76 : decode cX11_box 76 = .ok (.if_icmp .ge 64, 3) := by decide +kernel
theorem dX11_box_79 : decode cX11_box 79 = .ok (.aload_n 0, 1) := by decide +kernel
theorem dX11_box_80 : decode cX11_box 80 = .ok (.getfield 7, 3) := by decide +kernel
theorem dX11_box_83 : decode cX11_box 83 = .ok (.bipush 10, 2) := by decide +kernel
theorem dX11_box_85 : decode cX11_box 85 = .ok (.iload_n 2, 1) := by decide +kernel
theorem dX11_box_86 : decode cX11_box 86 = .ok (.iadd, 1) := by decide +kernel
theorem dX11_box_87 : decode cX11_box 87 = .ok (.aload_n 0, 1) := by decide +kernel
theorem dX11_box_88 : decode cX11_box 88 = .ok (.getfield 35, 3) := by decide +kernel
theorem dX11_box_91 : decode cX11_box 91 = .ok (.iconst 3, 1) := by decide +kernel
theorem dX11_box_92 : decode cX11_box 92 = .ok (.iload_n 2, 1) := by decide +kernel
theorem dX11_box_93 : decode cX11_box 93 = .ok (.imul, 1) := by decide +kernel
theorem dX11_box_94 : decode cX11_box 94 = .ok (.iaload, 1) := by decide +kernel
theorem dX11_box_95 : decode cX11_box 95 = .ok (.iastore, 1) := by decide +kernel
theorem dX11_box_96 : decode cX11_box 96 = .ok (.aload_n 0, 1) := by decide +kernel
theorem dX11_box_97 : decode cX11_box 97 = .ok (.getfield 7, 3) := by decide +kernel
theorem dX11_box_100 : decode cX11_box 100 = .ok (.bipush 17, 2) := by decide +kernel
theorem dX11_box_102 : decode cX11_box 102 = .ok (.iload_n 2, 1) := by decide +kernel
theorem dX11_box_103 : decode cX11_box 103 = .ok (.iadd, 1) := by decide +kernel
theorem dX11_box_104 : decode cX11_box 104 = .ok (.aload_n 0, 1) := by decide +kernel
theorem dX11_box_105 : decode cX11_box 105 = .ok (.getfield 35, 3) := by decide +kernel
theorem dX11_box_108 : decode cX11_box 108 = .ok (.iconst 3, 1) := by decide +kernel
theorem dX11_box_109 : decode cX11_box 109 = .ok (.iload_n 2, 1) := by decide +kernel
theorem dX11_box_110 : decode cX11_box 110 = .ok (.imul, 1) := by decide +kernel
theorem dX11_box_111 : decode cX11_box 111 = .ok (.iconst 1, 1) := by decide +kernel
theorem dX11_box_112 : decode cX11_box 112 = .ok (.iadd, 1) := by decide +kernel
theorem dX11_box_113 : decode cX11_box 113 = .ok (.iaload, 1) := by decide +kernel
theorem dX11_box_114 : decode cX11_box 114 = .ok (.iastore, 1) := by decide +kernel
theorem dX11_box_115 : decode cX11_box 115 = .ok (.aload_n 0, 1) := by decide +kernel
theorem dX11_box_116 : decode cX11_box 116 = .ok (.getfield 7, 3) := by decide +kernel
theorem dX11_box_119 : decode cX11_box 119 = .ok (.bipush 24, 2) := by decide +kernel
theorem dX11_box_121 : decode cX11_box 121 = .ok (.iload_n 2, 1) := by decide +kernel
theorem dX11_box_122 : decode cX11_box 122 = .ok (.iadd, 1) := by decide +kernel
theorem dX11_box_123 : decode cX11_box 123 = .ok (.aload_n 0, 1) := by decide +kernel
theorem dX11_box_124 : decode cX11_box 124 = .ok (.getfield 35, 3) := by decide +kernel
theorem dX11_box_127 : decode cX11_box 127 = .ok (.iconst 3, 1) := by decide +kernel
theorem dX11_box_128 : decode cX11_box 128 = .ok (.iload_n 2, 1) := by decide +kernel
theorem dX11_box_129 : decode cX11_box 129 = .ok (.imul, 1) := by decide +kernel
theorem dX11_box_130 : decode cX11_box 130 = .ok (.iconst 2, 1) := by decide +kernel
theorem dX11_box_131 : decode cX11_box 131 = .ok (.iadd, 1) := by decide +kernel
theorem dX11_box_132 : decode cX11_box 132 = .ok (.iaload, 1) := by decide +kernel
theorem dX11_box_133 : decode cX11_box 133 = .ok (.iastore, 1) := by decide +kernel
theorem dX11_box_134 : decode cX11_box 134 = .ok (.iinc 2 1, 3) := by decide +kernel
theorem dX11_box_137 : decode cX11_box 137 = .ok (.goto (-66), 3) := by decide +kernel
theorem dX11_box_140 : decode cX11_box 140 = .ok (.aload_n 0, 1) := by decide +kernel
theorem dX11_box_141 : decode cX11_box 141 = .ok (.getfield 105, 3) := by decide +kernel
theorem dX11_box_144 : decode cX11_box 144 = .ok (.ireturn, 1) := by decide +kernel
theorem dX11_worn_0 : decode cX11_worn 0 = .ok (.iload_n 2, 1) := by decide +kernel
theorem dX11_worn_1 : decode cX11_worn 1 = .ok (.iload_n 1, 1) := by decide +kernel
theorem dX11_worn_2 : decode cX11_worn 2 = .ok (.if_icmp .ne 12, 3) := by decide +kernel
theorem dX11_worn_5 : decode cX11_worn 5 = .ok (.iload_n 0, 1) := by decide +kernel
theorem dX11_worn_6 : decode cX11_worn 6 = .ok (.iload_n 2, 1) := by decide +kernel
theorem dX11_worn_7 : decode cX11_worn 7 = .ok (.imul, 1) := by decide +kernel
theorem dX11_worn_8 : decode cX11_worn 8 = .ok (.bipush 10, 2) := by decide +kernel
theorem dX11_worn_10 : decode cX11_worn 10 = .ok (.irem, 1) := by decide +kernel
theorem dX11_worn_11 : decode cX11_worn 11 = .ok (.goto 6, 3) := by decide +kernel
theorem dX11_worn_14 : decode cX11_worn 14 = .ok (.iload_n 0, 1) := by decide +kernel
theorem dX11_worn_15 : decode cX11_worn 15 = .ok (.iload_n 2, 1) := by decide +kernel
theorem dX11_worn_16 : decode cX11_worn 16 = .ok (.imul, 1) := by decide +kernel
theorem dX11_worn_17 : decode cX11_worn 17 = .ok (.ireturn, 1) := by decide +kernel
theorem dX11_showsBy_0 : decode cX11_showsBy 0 = .ok (.iload_n 0, 1) := by decide +kernel
theorem dX11_showsBy_1 : decode cX11_showsBy 1 = .ok (.tableswitch 107 1 5 #[35, 42, 49, 65, 89], 35) := by decide +kernel
theorem dX11_showsBy_36 : decode cX11_showsBy 36 = .ok (.iload_n 1, 1) := by decide +kernel
theorem dX11_showsBy_37 : decode cX11_showsBy 37 = .ok (.iload_n 2, 1) := by decide +kernel
theorem dX11_showsBy_38 : decode cX11_showsBy 38 = .ok (.iload_n 3, 1) := by decide +kernel
theorem dX11_showsBy_39 : decode cX11_showsBy 39 = .ok (.invokestatic 115, 3) := by decide +kernel
theorem dX11_showsBy_42 : decode cX11_showsBy 42 = .ok (.ireturn, 1) := by decide +kernel
theorem dX11_showsBy_43 : decode cX11_showsBy 43 = .ok (.bipush 9, 2) := by decide +kernel
theorem dX11_showsBy_45 : decode cX11_showsBy 45 = .ok (.iload_n 1, 1) := by decide +kernel
theorem dX11_showsBy_46 : decode cX11_showsBy 46 = .ok (.isub, 1) := by decide +kernel
theorem dX11_showsBy_47 : decode cX11_showsBy 47 = .ok (.iload_n 3, 1) := by decide +kernel
theorem dX11_showsBy_48 : decode cX11_showsBy 48 = .ok (.imul, 1) := by decide +kernel
theorem dX11_showsBy_49 : decode cX11_showsBy 49 = .ok (.ireturn, 1) := by decide +kernel
theorem dX11_showsBy_50 : decode cX11_showsBy 50 = .ok (.iload_n 3, 1) := by decide +kernel
theorem dX11_showsBy_51 : decode cX11_showsBy 51 = .ok (.bipush 9, 2) := by decide +kernel
theorem dX11_showsBy_53 : decode cX11_showsBy 53 = .ok (.if_icmp .ne 7, 3) := by decide +kernel
theorem dX11_showsBy_56 : decode cX11_showsBy 56 = .ok (.iload_n 1, 1) := by decide +kernel
theorem dX11_showsBy_57 : decode cX11_showsBy 57 = .ok (.goto 8, 3) := by decide +kernel
theorem dX11_showsBy_60 : decode cX11_showsBy 60 = .ok (.iload_n 1, 1) := by decide +kernel
theorem dX11_showsBy_61 : decode cX11_showsBy 61 = .ok (.iload_n 3, 1) := by decide +kernel
theorem dX11_showsBy_62 : decode cX11_showsBy 62 = .ok (.iconst 1, 1) := by decide +kernel
theorem dX11_showsBy_63 : decode cX11_showsBy 63 = .ok (.iadd, 1) := by decide +kernel
theorem dX11_showsBy_64 : decode cX11_showsBy 64 = .ok (.imul, 1) := by decide +kernel
theorem dX11_showsBy_65 : decode cX11_showsBy 65 = .ok (.ireturn, 1) := by decide +kernel
theorem dX11_showsBy_66 : decode cX11_showsBy 66 = .ok (.iload_n 3, 1) := by decide +kernel
theorem dX11_showsBy_67 : decode cX11_showsBy 67 = .ok (.bipush 9, 2) := by decide +kernel
theorem dX11_showsBy_69 : decode cX11_showsBy 69 = .ok (.iload_n 2, 1) := by decide +kernel
theorem dX11_showsBy_70 : decode cX11_showsBy 70 = .ok (.isub, 1) := by decide +kernel
theorem dX11_showsBy_71 : decode cX11_showsBy 71 = .ok (.if_icmp .le 12, 3) := by decide +kernel
theorem dX11_showsBy_74 : decode cX11_showsBy 74 = .ok (.iload_n 1, 1) := by decide +kernel
theorem dX11_showsBy_75 : decode cX11_showsBy 75 = .ok (.iload_n 3, 1) := by decide +kernel
theorem dX11_showsBy_76 : decode cX11_showsBy 76 = .ok (.imul, 1) := by decide +kernel
theorem dX11_showsBy_77 : decode cX11_showsBy 77 = .ok (.bipush 10, 2) := by decide +kernel
theorem dX11_showsBy_79 : decode cX11_showsBy 79 = .ok (.irem, 1) := by decide +kernel
theorem dX11_showsBy_80 : decode cX11_showsBy 80 = .ok (.goto 9, 3) := by decide +kernel
theorem dX11_showsBy_83 : decode cX11_showsBy 83 = .ok (.iload_n 1, 1) := by decide +kernel
theorem dX11_showsBy_84 : decode cX11_showsBy 84 = .ok (.iload_n 2, 1) := by decide +kernel
theorem dX11_showsBy_85 : decode cX11_showsBy 85 = .ok (.iload_n 3, 1) := by decide +kernel
theorem dX11_showsBy_86 : decode cX11_showsBy 86 = .ok (.invokestatic 115, 3) := by decide +kernel
theorem dX11_showsBy_89 : decode cX11_showsBy 89 = .ok (.ireturn, 1) := by decide +kernel
theorem dX11_showsBy_90 : decode cX11_showsBy 90 = .ok (.iload_n 3, 1) := by decide +kernel
theorem dX11_showsBy_91 : decode cX11_showsBy 91 = .ok (.iload_n 2, 1) := by decide +kernel
theorem dX11_showsBy_92 : decode cX11_showsBy 92 = .ok (.if_icmp .lt 9, 3) := by decide +kernel
theorem dX11_showsBy_95 : decode cX11_showsBy 95 = .ok (.iload_n 1, 1) := by decide +kernel
theorem dX11_showsBy_96 : decode cX11_showsBy 96 = .ok (.iload_n 3, 1) := by decide +kernel
theorem dX11_showsBy_97 : decode cX11_showsBy 97 = .ok (.imul, 1) := by decide +kernel
theorem dX11_showsBy_98 : decode cX11_showsBy 98 = .ok (.goto 9, 3) := by decide +kernel
theorem dX11_showsBy_101 : decode cX11_showsBy 101 = .ok (.bipush 9, 2) := by decide +kernel
theorem dX11_showsBy_103 : decode cX11_showsBy 103 = .ok (.iload_n 1, 1) := by decide +kernel
theorem dX11_showsBy_104 : decode cX11_showsBy 104 = .ok (.isub, 1) := by decide +kernel
theorem dX11_showsBy_105 : decode cX11_showsBy 105 = .ok (.iload_n 3, 1) := by decide +kernel
theorem dX11_showsBy_106 : decode cX11_showsBy 106 = .ok (.imul, 1) := by decide +kernel
theorem dX11_showsBy_107 : decode cX11_showsBy 107 = .ok (.ireturn, 1) := by decide +kernel
theorem dX11_showsBy_108 : decode cX11_showsBy 108 = .ok (.iload_n 1, 1) := by decide +kernel
theorem dX11_showsBy_109 : decode cX11_showsBy 109 = .ok (.iload_n 3, 1) := by decide +kernel
theorem dX11_showsBy_110 : decode cX11_showsBy 110 = .ok (.imul, 1) := by decide +kernel
theorem dX11_showsBy_111 : decode cX11_showsBy 111 = .ok (.ireturn, 1) := by decide +kernel
theorem dX11_digitOf_0 : decode cX11_digitOf 0 = .ok (.aload_n 0, 1) := by decide +kernel
theorem dX11_digitOf_1 : decode cX11_digitOf 1 = .ok (.getfield 7, 3) := by decide +kernel
theorem dX11_digitOf_4 : decode cX11_digitOf 4 = .ok (.iconst 2, 1) := by decide +kernel
theorem dX11_digitOf_5 : decode cX11_digitOf 5 = .ok (.iaload, 1) := by decide +kernel
theorem dX11_digitOf_6 : decode cX11_digitOf 6 = .ok (.iload_n 1, 1) := by decide +kernel
theorem dX11_digitOf_7 : decode cX11_digitOf 7 = .ok (.invokestatic 119, 3) := by decide +kernel
theorem dX11_digitOf_10 : decode cX11_digitOf 10 = .ok (.ifCond .eq 18, 3) := by decide +kernel
theorem dX11_digitOf_13 : decode cX11_digitOf 13 = .ok (.bipush 9, 2) := by decide +kernel
theorem dX11_digitOf_15 : decode cX11_digitOf 15 = .ok (.aload_n 0, 1) := by decide +kernel
theorem dX11_digitOf_16 : decode cX11_digitOf 16 = .ok (.getfield 7, 3) := by decide +kernel
theorem dX11_digitOf_19 : decode cX11_digitOf 19 = .ok (.bipush 17, 2) := by decide +kernel
theorem dX11_digitOf_21 : decode cX11_digitOf 21 = .ok (.iload_n 1, 1) := by decide +kernel
theorem dX11_digitOf_22 : decode cX11_digitOf 22 = .ok (.iadd, 1) := by decide +kernel
theorem dX11_digitOf_23 : decode cX11_digitOf 23 = .ok (.iaload, 1) := by decide +kernel
theorem dX11_digitOf_24 : decode cX11_digitOf 24 = .ok (.isub, 1) := by decide +kernel
theorem dX11_digitOf_25 : decode cX11_digitOf 25 = .ok (.goto 12, 3) := by decide +kernel
theorem dX11_digitOf_28 : decode cX11_digitOf 28 = .ok (.aload_n 0, 1) := by decide +kernel
theorem dX11_digitOf_29 : decode cX11_digitOf 29 = .ok (.getfield 7, 3) := by decide +kernel
theorem dX11_digitOf_32 : decode cX11_digitOf 32 = .ok (.bipush 17, 2) := by decide +kernel
theorem dX11_digitOf_34 : decode cX11_digitOf 34 = .ok (.iload_n 1, 1) := by decide +kernel
theorem dX11_digitOf_35 : decode cX11_digitOf 35 = .ok (.iadd, 1) := by decide +kernel
theorem dX11_digitOf_36 : decode cX11_digitOf 36 = .ok (.iaload, 1) := by decide +kernel
theorem dX11_digitOf_37 : decode cX11_digitOf 37 = .ok (.ireturn, 1) := by decide +kernel
theorem dX11_showsOf_0 : decode cX11_showsOf 0 = .ok (.aload_n 0, 1) := by decide +kernel
theorem dX11_showsOf_1 : decode cX11_showsOf 1 = .ok (.getfield 7, 3) := by decide +kernel
theorem dX11_showsOf_4 : decode cX11_showsOf 4 = .ok (.bipush 10, 2) := by decide +kernel
theorem dX11_showsOf_6 : decode cX11_showsOf 6 = .ok (.iload_n 1, 1) := by decide +kernel
theorem dX11_showsOf_7 : decode cX11_showsOf 7 = .ok (.iadd, 1) := by decide +kernel
theorem dX11_showsOf_8 : decode cX11_showsOf 8 = .ok (.iaload, 1) := by decide +kernel
theorem dX11_showsOf_9 : decode cX11_showsOf 9 = .ok (.aload_n 0, 1) := by decide +kernel
theorem dX11_showsOf_10 : decode cX11_showsOf 10 = .ok (.iload_n 1, 1) := by decide +kernel
theorem dX11_showsOf_11 : decode cX11_showsOf 11 = .ok (.invokevirtual 123, 3) := by decide +kernel
theorem dX11_showsOf_14 : decode cX11_showsOf 14 = .ok (.aload_n 0, 1) := by decide +kernel
theorem dX11_showsOf_15 : decode cX11_showsOf 15 = .ok (.getfield 7, 3) := by decide +kernel
theorem dX11_showsOf_18 : decode cX11_showsOf 18 = .ok (.bipush 24, 2) := by decide +kernel
theorem dX11_showsOf_20 : decode cX11_showsOf 20 = .ok (.iload_n 1, 1) := by decide +kernel
theorem dX11_showsOf_21 : decode cX11_showsOf 21 = .ok (.iadd, 1) := by decide +kernel
theorem dX11_showsOf_22 : decode cX11_showsOf 22 = .ok (.iaload, 1) := by decide +kernel
theorem dX11_showsOf_23 : decode cX11_showsOf 23 = .ok (.iload_n 2, 1) := by decide +kernel
theorem dX11_showsOf_24 : decode cX11_showsOf 24 = .ok (.invokestatic 126, 3) := by decide +kernel
theorem dX11_showsOf_27 : decode cX11_showsOf 27 = .ok (.ireturn, 1) := by decide +kernel
theorem dX11_placeOf_0 : decode cX11_placeOf 0 = .ok (.iconst 0, 1) := by decide +kernel
theorem dX11_placeOf_1 : decode cX11_placeOf 1 = .ok (.istore_n 2, 1) := by decide +kernel
theorem dX11_placeOf_2 : decode cX11_placeOf 2 = .ok (.iload_n 2, 1) := by decide +kernel
theorem dX11_placeOf_3 : decode cX11_placeOf 3 = .ok (.aload_n 0, 1) := by decide +kernel
theorem dX11_placeOf_4 : decode cX11_placeOf 4 = .ok (.getfield 7, 3) := by decide +kernel
theorem dX11_placeOf_7 : decode cX11_placeOf 7 = .ok (.iconst 1, 1) := by decide +kernel
theorem dX11_placeOf_8 : decode cX11_placeOf 8 = .ok (.iaload, 1) := by decide +kernel
theorem dX11_placeOf_9 : decode cX11_placeOf 9 = .ok (.if_icmp .ge 23, 3) := by decide +kernel
theorem dX11_placeOf_12 : decode cX11_placeOf 12 = .ok (.aload_n 0, 1) := by decide +kernel
theorem dX11_placeOf_13 : decode cX11_placeOf 13 = .ok (.getfield 7, 3) := by decide +kernel
theorem dX11_placeOf_16 : decode cX11_placeOf 16 = .ok (.iconst 3, 1) := by decide +kernel
theorem dX11_placeOf_17 : decode cX11_placeOf 17 = .ok (.iload_n 2, 1) := by decide +kernel
theorem dX11_placeOf_18 : decode cX11_placeOf 18 = .ok (.iadd, 1) := by decide +kernel
theorem dX11_placeOf_19 : decode cX11_placeOf 19 = .ok (.iaload, 1) := by decide +kernel
theorem dX11_placeOf_20 : decode cX11_placeOf 20 = .ok (.iload_n 1, 1) := by decide +kernel
theorem dX11_placeOf_21 : decode cX11_placeOf 21 = .ok (.if_icmp .ne 5, 3) := by decide +kernel
theorem dX11_placeOf_24 : decode cX11_placeOf 24 = .ok (.iload_n 2, 1) := by decide +kernel
theorem dX11_placeOf_25 : decode cX11_placeOf 25 = .ok (.ireturn, 1) := by decide +kernel
theorem dX11_placeOf_26 : decode cX11_placeOf 26 = .ok (.iinc 2 1, 3) := by decide +kernel
theorem dX11_placeOf_29 : decode cX11_placeOf 29 = .ok (.goto (-27), 3) := by decide +kernel
theorem dX11_placeOf_32 : decode cX11_placeOf 32 = .ok (.bipush (-9), 2) := by decide +kernel
theorem dX11_placeOf_34 : decode cX11_placeOf 34 = .ok (.ireturn, 1) := by decide +kernel
theorem dX11_rodOf_0 : decode cX11_rodOf 0 = .ok (.iload_n 2, 1) := by decide +kernel
theorem dX11_rodOf_1 : decode cX11_rodOf 1 = .ok (.tableswitch 63 0 3 #[31, 41, 47, 57], 31) := by decide +kernel
theorem dX11_rodOf_32 : decode cX11_rodOf 32 = .ok (.aload_n 0, 1) := by decide +kernel
theorem dX11_rodOf_33 : decode cX11_rodOf 33 = .ok (.getfield 7, 3) := by decide +kernel
theorem dX11_rodOf_36 : decode cX11_rodOf 36 = .ok (.bipush 10, 2) := by decide +kernel
theorem dX11_rodOf_38 : decode cX11_rodOf 38 = .ok (.iload_n 1, 1) := by decide +kernel
theorem dX11_rodOf_39 : decode cX11_rodOf 39 = .ok (.iadd, 1) := by decide +kernel
theorem dX11_rodOf_40 : decode cX11_rodOf 40 = .ok (.iaload, 1) := by decide +kernel
theorem dX11_rodOf_41 : decode cX11_rodOf 41 = .ok (.ireturn, 1) := by decide +kernel
theorem dX11_rodOf_42 : decode cX11_rodOf 42 = .ok (.aload_n 0, 1) := by decide +kernel
theorem dX11_rodOf_43 : decode cX11_rodOf 43 = .ok (.iload_n 1, 1) := by decide +kernel
theorem dX11_rodOf_44 : decode cX11_rodOf 44 = .ok (.invokevirtual 123, 3) := by decide +kernel
theorem dX11_rodOf_47 : decode cX11_rodOf 47 = .ok (.ireturn, 1) := by decide +kernel
theorem dX11_rodOf_48 : decode cX11_rodOf 48 = .ok (.aload_n 0, 1) := by decide +kernel
theorem dX11_rodOf_49 : decode cX11_rodOf 49 = .ok (.getfield 7, 3) := by decide +kernel
theorem dX11_rodOf_52 : decode cX11_rodOf 52 = .ok (.bipush 24, 2) := by decide +kernel
theorem dX11_rodOf_54 : decode cX11_rodOf 54 = .ok (.iload_n 1, 1) := by decide +kernel
theorem dX11_rodOf_55 : decode cX11_rodOf 55 = .ok (.iadd, 1) := by decide +kernel
theorem dX11_rodOf_56 : decode cX11_rodOf 56 = .ok (.iaload, 1) := by decide +kernel
theorem dX11_rodOf_57 : decode cX11_rodOf 57 = .ok (.ireturn, 1) := by decide +kernel
theorem dX11_rodOf_58 : decode cX11_rodOf 58 = .ok (.aload_n 0, 1) := by decide +kernel
theorem dX11_rodOf_59 : decode cX11_rodOf 59 = .ok (.iload_n 1, 1) := by decide +kernel
theorem dX11_rodOf_60 : decode cX11_rodOf 60 = .ok (.invokevirtual 130, 3) := by decide +kernel
theorem dX11_rodOf_63 : decode cX11_rodOf 63 = .ok (.ireturn, 1) := by decide +kernel
theorem dX11_rodOf_64 : decode cX11_rodOf 64 = .ok (.aload_n 0, 1) := by decide +kernel
theorem dX11_rodOf_65 : decode cX11_rodOf 65 = .ok (.getfield 7, 3) := by decide +kernel
theorem dX11_rodOf_68 : decode cX11_rodOf 68 = .ok (.iconst 2, 1) := by decide +kernel
theorem dX11_rodOf_69 : decode cX11_rodOf 69 = .ok (.iaload, 1) := by decide +kernel
theorem dX11_rodOf_70 : decode cX11_rodOf 70 = .ok (.iload_n 1, 1) := by decide +kernel
theorem dX11_rodOf_71 : decode cX11_rodOf 71 = .ok (.ishr, 1) := by decide +kernel
theorem dX11_rodOf_72 : decode cX11_rodOf 72 = .ok (.iconst 1, 1) := by decide +kernel
theorem dX11_rodOf_73 : decode cX11_rodOf 73 = .ok (.iand, 1) := by decide +kernel
theorem dX11_rodOf_74 : decode cX11_rodOf 74 = .ok (.ireturn, 1) := by decide +kernel
theorem dX11_rod_0 : decode cX11_rod 0 = .ok (.aload_n 0, 1) := by decide +kernel
theorem dX11_rod_1 : decode cX11_rod 1 = .ok (.iload_n 1, 1) := by decide +kernel
theorem dX11_rod_2 : decode cX11_rod 2 = .ok (.invokevirtual 133, 3) := by decide +kernel
theorem dX11_rod_5 : decode cX11_rod 5 = .ok (.ifCond .eq 28, 3) := by decide +kernel
theorem dX11_rod_8 : decode cX11_rod 8 = .ok (.iload_n 2, 1) := by decide +kernel
theorem dX11_rod_9 : decode cX11_rod 9 = .ok (.i2l, 1) := by decide +kernel
theorem dX11_rod_10 : decode cX11_rod 10 = .ok (.lconst 0, 1) := by decide +kernel
theorem dX11_rod_11 : decode cX11_rod 11 = .ok (.ldc2_w 136, 3) := by decide +kernel
theorem dX11_rod_14 : decode cX11_rod 14 = .ok (.invokestatic 68, 3) := by decide +kernel
theorem dX11_rod_17 : decode cX11_rod 17 = .ok (.ifCond .eq 16, 3) := by decide +kernel
theorem dX11_rod_20 : decode cX11_rod 20 = .ok (.aload_n 0, 1) := by decide +kernel
theorem dX11_rod_21 : decode cX11_rod 21 = .ok (.aload_n 0, 1) := by decide +kernel
theorem dX11_rod_22 : decode cX11_rod 22 = .ok (.iload_n 1, 1) := by decide +kernel
theorem dX11_rod_23 : decode cX11_rod 23 = .ok (.iload_n 2, 1) := by decide +kernel
theorem dX11_rod_24 : decode cX11_rod 24 = .ok (.invokevirtual 138, 3) := by decide +kernel
theorem dX11_rod_27 : decode cX11_rod 27 = .ok (.invokevirtual 83, 3) := by decide +kernel
theorem dX11_rod_30 : decode cX11_rod 30 = .ok (.goto 4, 3) := by decide +kernel
theorem dX11_rod_33 : decode cX11_rod 33 = .ok (.iconst (-1), 1) := by decide +kernel
theorem dX11_rod_34 : decode cX11_rod 34 = .ok (.ireturn, 1) := by decide +kernel
theorem dX11_isA_0 : decode cX11_isA 0 = .ok (.iload_n 1, 1) := by decide +kernel
theorem dX11_isA_1 : decode cX11_isA 1 = .ok (.iload_n 0, 1) := by decide +kernel
theorem dX11_isA_2 : decode cX11_isA 2 = .ok (.if_icmp .eq 23, 3) := by decide +kernel
theorem dX11_isA_5 : decode cX11_isA 5 = .ok (.iload_n 1, 1) := by decide +kernel
theorem dX11_isA_6 : decode cX11_isA 6 = .ok (.iconst 1, 1) := by decide +kernel
theorem dX11_isA_7 : decode cX11_isA 7 = .ok (.if_icmp .ne 8, 3) := by decide +kernel
theorem dX11_isA_10 : decode cX11_isA 10 = .ok (.iload_n 0, 1) := by decide +kernel
theorem dX11_isA_11 : decode cX11_isA 11 = .ok (.iconst 4, 1) := by decide +kernel
theorem dX11_isA_12 : decode cX11_isA 12 = .ok (.if_icmp .eq 13, 3) := by decide +kernel
theorem dX11_isA_15 : decode cX11_isA 15 = .ok (.iload_n 1, 1) := by decide +kernel
theorem dX11_isA_16 : decode cX11_isA 16 = .ok (.iconst 2, 1) := by decide +kernel
theorem dX11_isA_17 : decode cX11_isA 17 = .ok (.if_icmp .ne 12, 3) := by decide +kernel
theorem dX11_isA_20 : decode cX11_isA 20 = .ok (.iload_n 0, 1) := by decide +kernel
theorem dX11_isA_21 : decode cX11_isA 21 = .ok (.iconst 5, 1) := by decide +kernel
theorem dX11_isA_22 : decode cX11_isA 22 = .ok (.if_icmp .ne 7, 3) := by decide +kernel
theorem dX11_isA_25 : decode cX11_isA 25 = .ok (.iconst 1, 1) := by decide +kernel
theorem dX11_isA_26 : decode cX11_isA 26 = .ok (.goto 4, 3) := by decide +kernel
theorem dX11_isA_29 : decode cX11_isA 29 = .ok (.iconst 0, 1) := by decide +kernel
theorem dX11_isA_30 : decode cX11_isA 30 = .ok (.ireturn, 1) := by decide +kernel
theorem dX11_linesAgainst_0 : decode cX11_linesAgainst 0 = .ok (.iconst 0, 1) := by decide +kernel
theorem dX11_linesAgainst_1 : decode cX11_linesAgainst 1 = .ok (.istore 4, 2) := by decide +kernel
theorem dX11_linesAgainst_3 : decode cX11_linesAgainst 3 = .ok (.iconst 1, 1) := by decide +kernel
theorem dX11_linesAgainst_4 : decode cX11_linesAgainst 4 = .ok (.istore 5, 2) := by decide +kernel
theorem dX11_linesAgainst_6 : decode cX11_linesAgainst 6 = .ok (.iload 5, 2) := by decide +kernel
theorem dX11_linesAgainst_8 : decode cX11_linesAgainst 8 = .ok (.bipush 10, 2) := by decide +kernel
theorem dX11_linesAgainst_10 : decode cX11_linesAgainst 10 = .ok (.if_icmp .ge 83, 3) := by decide +kernel
theorem dX11_linesAgainst_13 : decode cX11_linesAgainst 13 = .ok (.aload_n 0, 1) := by decide +kernel
theorem dX11_linesAgainst_14 : decode cX11_linesAgainst 14 = .ok (.iload_n 1, 1) := by decide +kernel
theorem dX11_linesAgainst_15 : decode cX11_linesAgainst 15 = .ok (.iload 5, 2) := by decide +kernel
theorem dX11_linesAgainst_17 : decode cX11_linesAgainst 17 = .ok (.invokevirtual 142, 3) := by decide +kernel
theorem dX11_linesAgainst_20 : decode cX11_linesAgainst 20 = .ok (.istore 6, 2) := by decide +kernel
theorem dX11_linesAgainst_22 : decode cX11_linesAgainst 22 = .ok (.iload_n 2, 1) := by decide +kernel
theorem dX11_linesAgainst_23 : decode cX11_linesAgainst 23 = .ok (.aload_n 0, 1) := by decide +kernel
theorem dX11_linesAgainst_24 : decode cX11_linesAgainst 24 = .ok (.iload_n 1, 1) := by decide +kernel
theorem dX11_linesAgainst_25 : decode cX11_linesAgainst 25 = .ok (.invokevirtual 123, 3) := by decide +kernel
theorem dX11_linesAgainst_28 : decode cX11_linesAgainst 28 = .ok (.aload_n 0, 1) := by decide +kernel
theorem dX11_linesAgainst_29 : decode cX11_linesAgainst 29 = .ok (.getfield 7, 3) := by decide +kernel
theorem dX11_linesAgainst_32 : decode cX11_linesAgainst 32 = .ok (.bipush 24, 2) := by decide +kernel
theorem dX11_linesAgainst_34 : decode cX11_linesAgainst 34 = .ok (.iload_n 1, 1) := by decide +kernel
theorem dX11_linesAgainst_35 : decode cX11_linesAgainst 35 = .ok (.iadd, 1) := by decide +kernel
theorem dX11_linesAgainst_36 : decode cX11_linesAgainst 36 = .ok (.iaload, 1) := by decide +kernel
theorem dX11_linesAgainst_37 : decode cX11_linesAgainst 37 = .ok (.iload 5, 2) := by decide +kernel
theorem dX11_linesAgainst_39 : decode cX11_linesAgainst 39 = .ok (.invokestatic 126, 3) := by decide +kernel
theorem dX11_linesAgainst_42 : decode cX11_linesAgainst 42 = .ok (.istore 7, 2) := by decide +kernel
theorem dX11_linesAgainst_44 : decode cX11_linesAgainst 44 = .ok (.iload 4, 2) := by decide +kernel
theorem dX11_linesAgainst_46 : decode cX11_linesAgainst 46 = .ok (.iload_n 3, 1) := by decide +kernel
theorem dX11_linesAgainst_47 : decode cX11_linesAgainst 47 = .ok (.ifCond .ge 10, 3) := by decide +kernel
theorem dX11_linesAgainst_50 : decode cX11_linesAgainst 50 = .ok (.iload 6, 2) := by decide +kernel
theorem dX11_linesAgainst_52 : decode cX11_linesAgainst 52 = .ok (.iload 7, 2) := by decide +kernel
theorem dX11_linesAgainst_54 : decode cX11_linesAgainst 54 = .ok (.if_icmp .lt 25, 3) := by decide +kernel
theorem dX11_linesAgainst_57 : decode cX11_linesAgainst 57 = .ok (.iload_n 3, 1) := by decide +kernel
theorem dX11_linesAgainst_58 : decode cX11_linesAgainst 58 = .ok (.ifCond .le 10, 3) := by decide +kernel
theorem dX11_linesAgainst_61 : decode cX11_linesAgainst 61 = .ok (.iload 6, 2) := by decide +kernel
theorem dX11_linesAgainst_63 : decode cX11_linesAgainst 63 = .ok (.iload 7, 2) := by decide +kernel
theorem dX11_linesAgainst_65 : decode cX11_linesAgainst 65 = .ok (.if_icmp .gt 14, 3) := by decide +kernel
theorem dX11_linesAgainst_68 : decode cX11_linesAgainst 68 = .ok (.iload_n 3, 1) := by decide +kernel
theorem dX11_linesAgainst_69 : decode cX11_linesAgainst 69 = .ok (.ifCond .ne 14, 3) := by decide +kernel
theorem dX11_linesAgainst_72 : decode cX11_linesAgainst 72 = .ok (.iload 6, 2) := by decide +kernel
theorem dX11_linesAgainst_74 : decode cX11_linesAgainst 74 = .ok (.iload 7, 2) := by decide +kernel
theorem dX11_linesAgainst_76 : decode cX11_linesAgainst 76 = .ok (.if_icmp .eq 7, 3) := by decide +kernel
theorem dX11_linesAgainst_79 : decode cX11_linesAgainst 79 = .ok (.iconst 1, 1) := by decide +kernel
theorem dX11_linesAgainst_80 : decode cX11_linesAgainst 80 = .ok (.goto 4, 3) := by decide +kernel
theorem dX11_linesAgainst_83 : decode cX11_linesAgainst 83 = .ok (.iconst 0, 1) := by decide +kernel
theorem dX11_linesAgainst_84 : decode cX11_linesAgainst 84 = .ok (.iadd, 1) := by decide +kernel
theorem dX11_linesAgainst_85 : decode cX11_linesAgainst 85 = .ok (.istore 4, 2) := by decide +kernel
theorem dX11_linesAgainst_87 : decode cX11_linesAgainst 87 = .ok (.iinc 5 1, 3) := by decide +kernel
theorem dX11_linesAgainst_90 : decode cX11_linesAgainst 90 = .ok (.goto (-84), 3) := by decide +kernel
theorem dX11_linesAgainst_93 : decode cX11_linesAgainst 93 = .ok (.iload 4, 2) := by decide +kernel
theorem dX11_linesAgainst_95 : decode cX11_linesAgainst 95 = .ok (.ireturn, 1) := by decide +kernel
theorem dX11_mark_0 : decode cX11_mark 0 = .ok (.aload_n 0, 1) := by decide +kernel
theorem dX11_mark_1 : decode cX11_mark 1 = .ok (.iload_n 1, 1) := by decide +kernel
theorem dX11_mark_2 : decode cX11_mark 2 = .ok (.invokevirtual 133, 3) := by decide +kernel
theorem dX11_mark_5 : decode cX11_mark 5 = .ok (.ifCond .eq 15, 3) := by decide +kernel
theorem dX11_mark_8 : decode cX11_mark 8 = .ok (.iload_n 2, 1) := by decide +kernel
theorem dX11_mark_9 : decode cX11_mark 9 = .ok (.i2l, 1) := by decide +kernel
theorem dX11_mark_10 : decode cX11_mark 10 = .ok (.lconst 1, 1) := by decide +kernel
theorem dX11_mark_11 : decode cX11_mark 11 = .ok (.ldc2_w 66, 3) := by decide +kernel
theorem dX11_mark_14 : decode cX11_mark 14 = .ok (.invokestatic 68, 3) := by decide +kernel
theorem dX11_mark_17 : decode cX11_mark 17 = .ok (.ifCond .ne 5, 3) := by decide +kernel
theorem dX11_mark_20 : decode cX11_mark 20 = .ok (.iconst (-1), 1) := by decide +kernel
theorem dX11_mark_21 : decode cX11_mark 21 = .ok (.ireturn, 1) := by decide +kernel
theorem dX11_mark_22 : decode cX11_mark 22 = .ok (.aload_n 0, 1) := by decide +kernel
theorem dX11_mark_23 : decode cX11_mark 23 = .ok (.getfield 7, 3) := by decide +kernel
theorem dX11_mark_26 : decode cX11_mark 26 = .ok (.bipush 10, 2) := by decide +kernel
theorem dX11_mark_28 : decode cX11_mark 28 = .ok (.iload_n 1, 1) := by decide +kernel
theorem dX11_mark_29 : decode cX11_mark 29 = .ok (.iadd, 1) := by decide +kernel
theorem dX11_mark_30 : decode cX11_mark 30 = .ok (.iaload, 1) := by decide +kernel
theorem dX11_mark_31 : decode cX11_mark 31 = .ok (.iload_n 2, 1) := by decide +kernel
theorem dX11_mark_32 : decode cX11_mark 32 = .ok (.invokestatic 145, 3) := by decide +kernel
theorem dX11_mark_35 : decode cX11_mark 35 = .ok (.ifCond .ne 9, 3) := by decide +kernel
theorem dX11_mark_38 : decode cX11_mark 38 = .ok (.aload_n 0, 1) := by decide +kernel
theorem dX11_mark_39 : decode cX11_mark 39 = .ok (.iconst 3, 1) := by decide +kernel
theorem dX11_mark_40 : decode cX11_mark 40 = .ok (.invokevirtual 80, 3) := by decide +kernel
theorem dX11_mark_43 : decode cX11_mark 43 = .ok (.ireturn, 1) := by decide +kernel
theorem dX11_mark_44 : decode cX11_mark 44 = .ok (.aload_n 0, 1) := by decide +kernel
theorem dX11_mark_45 : decode cX11_mark 45 = .ok (.getfield 7, 3) := by decide +kernel
theorem dX11_mark_48 : decode cX11_mark 48 = .ok (.bipush 24, 2) := by decide +kernel
theorem dX11_mark_50 : decode cX11_mark 50 = .ok (.iload_n 1, 1) := by decide +kernel
theorem dX11_mark_51 : decode cX11_mark 51 = .ok (.iadd, 1) := by decide +kernel
theorem dX11_mark_52 : decode cX11_mark 52 = .ok (.iaload, 1) := by decide +kernel
theorem dX11_mark_53 : decode cX11_mark 53 = .ok (.istore_n 3, 1) := by decide +kernel
theorem dX11_mark_54 : decode cX11_mark 54 = .ok (.iload_n 2, 1) := by decide +kernel
theorem dX11_mark_55 : decode cX11_mark 55 = .ok (.tableswitch 82 1 4 #[29, 37, 45, 74], 29) := by decide +kernel
theorem dX11_mark_84 : decode cX11_mark 84 = .ok (.aload_n 0, 1) := by decide +kernel
theorem dX11_mark_85 : decode cX11_mark 85 = .ok (.iload_n 1, 1) := by decide +kernel
theorem dX11_mark_86 : decode cX11_mark 86 = .ok (.iconst 0, 1) := by decide +kernel
theorem dX11_mark_87 : decode cX11_mark 87 = .ok (.iconst (-1), 1) := by decide +kernel
theorem dX11_mark_88 : decode cX11_mark 88 = .ok (.invokevirtual 148, 3) := by decide +kernel
theorem dX11_mark_91 : decode cX11_mark 91 = .ok (.ireturn, 1) := by decide +kernel
theorem dX11_mark_92 : decode cX11_mark 92 = .ok (.aload_n 0, 1) := by decide +kernel
theorem dX11_mark_93 : decode cX11_mark 93 = .ok (.iload_n 1, 1) := by decide +kernel
theorem dX11_mark_94 : decode cX11_mark 94 = .ok (.iconst 0, 1) := by decide +kernel
theorem dX11_mark_95 : decode cX11_mark 95 = .ok (.iconst 1, 1) := by decide +kernel
theorem dX11_mark_96 : decode cX11_mark 96 = .ok (.invokevirtual 148, 3) := by decide +kernel
theorem dX11_mark_99 : decode cX11_mark 99 = .ok (.ireturn, 1) := by decide +kernel
theorem dX11_mark_100 : decode cX11_mark 100 = .ok (.iload_n 3, 1) := by decide +kernel
theorem dX11_mark_101 : decode cX11_mark 101 = .ok (.ifCond .ne 9, 3) := by decide +kernel
theorem dX11_mark_104 : decode cX11_mark 104 = .ok (.sipush 500, 3) := by decide +kernel
theorem dX11_mark_107 : decode cX11_mark 107 = .ok (.goto 21, 3) := by decide +kernel
theorem dX11_mark_110 : decode cX11_mark 110 = .ok (.sipush 500, 3) := by decide +kernel
theorem dX11_mark_113 : decode cX11_mark 113 = .ok (.aload_n 0, 1) := by decide +kernel
theorem dX11_mark_114 : decode cX11_mark 114 = .ok (.iload_n 1, 1) := by decide +kernel
theorem dX11_mark_115 : decode cX11_mark 115 = .ok (.iload_n 3, 1) := by decide +kernel
theorem dX11_mark_116 : decode cX11_mark 116 = .ok (.invokevirtual 142, 3) := by decide +kernel
theorem dX11_mark_119 : decode cX11_mark 119 = .ok (.iadd, 1) := by decide +kernel
theorem dX11_mark_120 : decode cX11_mark 120 = .ok (.aload_n 0, 1) := by decide +kernel
theorem dX11_mark_121 : decode cX11_mark 121 = .ok (.iload_n 1, 1) := by decide +kernel
theorem dX11_mark_122 : decode cX11_mark 122 = .ok (.invokevirtual 123, 3) := by decide +kernel
theorem dX11_mark_125 : decode cX11_mark 125 = .ok (.iload_n 3, 1) := by decide +kernel
theorem dX11_mark_126 : decode cX11_mark 126 = .ok (.imul, 1) := by decide +kernel
theorem dX11_mark_127 : decode cX11_mark 127 = .ok (.isub, 1) := by decide +kernel
theorem dX11_mark_128 : decode cX11_mark 128 = .ok (.ireturn, 1) := by decide +kernel
theorem dX11_mark_129 : decode cX11_mark 129 = .ok (.aload_n 0, 1) := by decide +kernel
theorem dX11_mark_130 : decode cX11_mark 130 = .ok (.iload_n 1, 1) := by decide +kernel
theorem dX11_mark_131 : decode cX11_mark 131 = .ok (.iconst 1, 1) := by decide +kernel
theorem dX11_mark_132 : decode cX11_mark 132 = .ok (.iconst (-1), 1) := by decide +kernel
theorem dX11_mark_133 : decode cX11_mark 133 = .ok (.invokevirtual 148, 3) := by decide +kernel
theorem dX11_mark_136 : decode cX11_mark 136 = .ok (.ireturn, 1) := by decide +kernel
theorem dX11_mark_137 : decode cX11_mark 137 = .ok (.aload_n 0, 1) := by decide +kernel
theorem dX11_mark_138 : decode cX11_mark 138 = .ok (.iload_n 1, 1) := by decide +kernel
theorem dX11_mark_139 : decode cX11_mark 139 = .ok (.iconst 2, 1) := by decide +kernel
theorem dX11_mark_140 : decode cX11_mark 140 = .ok (.iconst 0, 1) := by decide +kernel
theorem dX11_mark_141 : decode cX11_mark 141 = .ok (.invokevirtual 148, 3) := by decide +kernel
theorem dX11_mark_144 : decode cX11_mark 144 = .ok (.ireturn, 1) := by decide +kernel
theorem dX11_shows_0 : decode cX11_shows 0 = .ok (.aload_n 0, 1) := by decide +kernel
theorem dX11_shows_1 : decode cX11_shows 1 = .ok (.iload_n 1, 1) := by decide +kernel
theorem dX11_shows_2 : decode cX11_shows 2 = .ok (.invokevirtual 133, 3) := by decide +kernel
theorem dX11_shows_5 : decode cX11_shows 5 = .ok (.ifCond .eq 19, 3) := by decide +kernel
theorem dX11_shows_8 : decode cX11_shows 8 = .ok (.iload_n 2, 1) := by decide +kernel
theorem dX11_shows_9 : decode cX11_shows 9 = .ok (.invokestatic 151, 3) := by decide +kernel
theorem dX11_shows_12 : decode cX11_shows 12 = .ok (.ifCond .eq 12, 3) := by decide +kernel
theorem dX11_shows_15 : decode cX11_shows 15 = .ok (.aload_n 0, 1) := by decide +kernel
theorem dX11_shows_16 : decode cX11_shows 16 = .ok (.iload_n 1, 1) := by decide +kernel
theorem dX11_shows_17 : decode cX11_shows 17 = .ok (.iload_n 2, 1) := by decide +kernel
theorem dX11_shows_18 : decode cX11_shows 18 = .ok (.invokevirtual 142, 3) := by decide +kernel
theorem dX11_shows_21 : decode cX11_shows 21 = .ok (.goto 4, 3) := by decide +kernel
theorem dX11_shows_24 : decode cX11_shows 24 = .ok (.iconst (-1), 1) := by decide +kernel
theorem dX11_shows_25 : decode cX11_shows 25 = .ok (.ireturn, 1) := by decide +kernel
theorem dX11_minds_0 : decode cX11_minds 0 = .ok (.bipush 32, 2) := by decide +kernel
theorem dX11_minds_2 : decode cX11_minds 2 = .ok (.bipush 9, 2) := by decide +kernel
theorem dX11_minds_4 : decode cX11_minds 4 = .ok (.aload_n 0, 1) := by decide +kernel
theorem dX11_minds_5 : decode cX11_minds 5 = .ok (.getfield 7, 3) := by decide +kernel
theorem dX11_minds_8 : decode cX11_minds 8 = .ok (.bipush 31, 2) := by decide +kernel
theorem dX11_minds_10 : decode cX11_minds 10 = .ok (.iaload, 1) := by decide +kernel
theorem dX11_minds_11 : decode cX11_minds 11 = .ok (.imul, 1) := by decide +kernel
theorem dX11_minds_12 : decode cX11_minds 12 = .ok (.iadd, 1) := by decide +kernel
theorem dX11_minds_13 : decode cX11_minds 13 = .ok (.istore_n 1, 1) := by decide +kernel
theorem dX11_minds_14 : decode cX11_minds 14 = .ok (.aload_n 0, 1) := by decide +kernel
theorem dX11_minds_15 : decode cX11_minds 15 = .ok (.getfield 7, 3) := by decide +kernel
theorem dX11_minds_18 : decode cX11_minds 18 = .ok (.iload_n 1, 1) := by decide +kernel
theorem dX11_minds_19 : decode cX11_minds 19 = .ok (.aload_n 0, 1) := by decide +kernel
theorem dX11_minds_20 : decode cX11_minds 20 = .ok (.getfield 7, 3) := by decide +kernel
theorem dX11_minds_23 : decode cX11_minds 23 = .ok (.iconst 1, 1) := by decide +kernel
theorem dX11_minds_24 : decode cX11_minds 24 = .ok (.iaload, 1) := by decide +kernel
theorem dX11_minds_25 : decode cX11_minds 25 = .ok (.iastore, 1) := by decide +kernel
theorem dX11_minds_26 : decode cX11_minds 26 = .ok (.aload_n 0, 1) := by decide +kernel
theorem dX11_minds_27 : decode cX11_minds 27 = .ok (.getfield 7, 3) := by decide +kernel
theorem dX11_minds_30 : decode cX11_minds 30 = .ok (.iload_n 1, 1) := by decide +kernel
theorem dX11_minds_31 : decode cX11_minds 31 = .ok (.iconst 1, 1) := by decide +kernel
theorem dX11_minds_32 : decode cX11_minds 32 = .ok (.iadd, 1) := by decide +kernel
theorem dX11_minds_33 : decode cX11_minds 33 = .ok (.aload_n 0, 1) := by decide +kernel
theorem dX11_minds_34 : decode cX11_minds 34 = .ok (.getfield 7, 3) := by decide +kernel
theorem dX11_minds_37 : decode cX11_minds 37 = .ok (.iconst 2, 1) := by decide +kernel
theorem dX11_minds_38 : decode cX11_minds 38 = .ok (.iaload, 1) := by decide +kernel
theorem dX11_minds_39 : decode cX11_minds 39 = .ok (.iastore, 1) := by decide +kernel
theorem dX11_minds_40 : decode cX11_minds 40 = .ok (.iconst 0, 1) := by decide +kernel
theorem dX11_minds_41 : decode cX11_minds 41 = .ok (.istore_n 2, 1) := by decide +kernel
theorem dX11_minds_42 : decode cX11_minds 42 = .ok (.iload_n 2, 1) := by decide +kernel
theorem dX11_minds_43 : decode cX11_minds 43 = .ok (.bipush 7, 2) := by decide +kernel
theorem dX11_minds_45 : decode cX11_minds 45 = .ok (.if_icmp .ge 27, 3) := by decide +kernel
theorem dX11_minds_48 : decode cX11_minds 48 = .ok (.aload_n 0, 1) := by decide +kernel
theorem dX11_minds_49 : decode cX11_minds 49 = .ok (.getfield 7, 3) := by decide +kernel
theorem dX11_minds_52 : decode cX11_minds 52 = .ok (.iload_n 1, 1) := by decide +kernel
theorem dX11_minds_53 : decode cX11_minds 53 = .ok (.iconst 2, 1) := by decide +kernel
theorem dX11_minds_54 : decode cX11_minds 54 = .ok (.iadd, 1) := by decide +kernel
theorem dX11_minds_55 : decode cX11_minds 55 = .ok (.iload_n 2, 1) := by decide +kernel
theorem dX11_minds_56 : decode cX11_minds 56 = .ok (.iadd, 1) := by decide +kernel
theorem dX11_minds_57 : decode cX11_minds 57 = .ok (.aload_n 0, 1) := by decide +kernel
theorem dX11_minds_58 : decode cX11_minds 58 = .ok (.getfield 7, 3) := by decide +kernel
theorem dX11_minds_61 : decode cX11_minds 61 = .ok (.iconst 3, 1) := by decide +kernel
theorem dX11_minds_62 : decode cX11_minds 62 = .ok (.iload_n 2, 1) := by decide +kernel
theorem dX11_minds_63 : decode cX11_minds 63 = .ok (.iadd, 1) := by decide +kernel
theorem dX11_minds_64 : decode cX11_minds 64 = .ok (.iaload, 1) := by decide +kernel
theorem dX11_minds_65 : decode cX11_minds 65 = .ok (.iastore, 1) := by decide +kernel
theorem dX11_minds_66 : decode cX11_minds 66 = .ok (.iinc 2 1, 3) := by decide +kernel
theorem dX11_minds_69 : decode cX11_minds 69 = .ok (.goto (-27), 3) := by decide +kernel
theorem dX11_minds_72 : decode cX11_minds 72 = .ok (.aload_n 0, 1) := by decide +kernel
theorem dX11_minds_73 : decode cX11_minds 73 = .ok (.getfield 7, 3) := by decide +kernel
theorem dX11_minds_76 : decode cX11_minds 76 = .ok (.bipush 31, 2) := by decide +kernel
theorem dX11_minds_78 : decode cX11_minds 78 = .ok (.dup2, 1) := by decide +kernel
theorem dX11_minds_79 : decode cX11_minds 79 = .ok (.iaload, 1) := by decide +kernel
theorem dX11_minds_80 : decode cX11_minds 80 = .ok (.iconst 1, 1) := by decide +kernel
theorem dX11_minds_81 : decode cX11_minds 81 = .ok (.iadd, 1) := by decide +kernel
theorem dX11_minds_82 : decode cX11_minds 82 = .ok (.iastore, 1) := by decide +kernel
theorem dX11_minds_83 : decode cX11_minds 83 = .ok (.return_, 1) := by decide +kernel
theorem dX11_lays_0 : decode cX11_lays 0 = .ok (.aload_n 0, 1) := by decide +kernel
theorem dX11_lays_1 : decode cX11_lays 1 = .ok (.getfield 7, 3) := by decide +kernel
theorem dX11_lays_4 : decode cX11_lays 4 = .ok (.iconst 3, 1) := by decide +kernel
theorem dX11_lays_5 : decode cX11_lays 5 = .ok (.aload_n 0, 1) := by decide +kernel
theorem dX11_lays_6 : decode cX11_lays 6 = .ok (.getfield 7, 3) := by decide +kernel
theorem dX11_lays_9 : decode cX11_lays 9 = .ok (.iconst 1, 1) := by decide +kernel
theorem dX11_lays_10 : decode cX11_lays 10 = .ok (.iaload, 1) := by decide +kernel
theorem dX11_lays_11 : decode cX11_lays 11 = .ok (.iadd, 1) := by decide +kernel
theorem dX11_lays_12 : decode cX11_lays 12 = .ok (.iload_n 1, 1) := by decide +kernel
theorem dX11_lays_13 : decode cX11_lays 13 = .ok (.iastore, 1) := by decide +kernel
theorem dX11_lays_14 : decode cX11_lays 14 = .ok (.aload_n 0, 1) := by decide +kernel
theorem dX11_lays_15 : decode cX11_lays 15 = .ok (.getfield 7, 3) := by decide +kernel
theorem dX11_lays_18 : decode cX11_lays 18 = .ok (.iconst 1, 1) := by decide +kernel
theorem dX11_lays_19 : decode cX11_lays 19 = .ok (.dup2, 1) := by decide +kernel
theorem dX11_lays_20 : decode cX11_lays 20 = .ok (.iaload, 1) := by decide +kernel
theorem dX11_lays_21 : decode cX11_lays 21 = .ok (.iconst 1, 1) := by decide +kernel
theorem dX11_lays_22 : decode cX11_lays 22 = .ok (.iadd, 1) := by decide +kernel
theorem dX11_lays_23 : decode cX11_lays 23 = .ok (.iastore, 1) := by decide +kernel
theorem dX11_lays_24 : decode cX11_lays 24 = .ok (.return_, 1) := by decide +kernel
theorem dX11_laid_0 : decode cX11_laid 0 = .ok (.aload_n 0, 1) := by decide +kernel
theorem dX11_laid_1 : decode cX11_laid 1 = .ok (.iload_n 1, 1) := by decide +kernel
theorem dX11_laid_2 : decode cX11_laid 2 = .ok (.invokevirtual 133, 3) := by decide +kernel
theorem dX11_laid_5 : decode cX11_laid 5 = .ok (.ifCond .ne 5, 3) := by decide +kernel
theorem dX11_laid_8 : decode cX11_laid 8 = .ok (.iconst (-1), 1) := by decide +kernel
theorem dX11_laid_9 : decode cX11_laid 9 = .ok (.ireturn, 1) := by decide +kernel
theorem dX11_laid_10 : decode cX11_laid 10 = .ok (.aload_n 0, 1) := by decide +kernel
theorem dX11_laid_11 : decode cX11_laid 11 = .ok (.iload_n 1, 1) := by decide +kernel
theorem dX11_laid_12 : decode cX11_laid 12 = .ok (.invokevirtual 130, 3) := by decide +kernel
theorem dX11_laid_15 : decode cX11_laid 15 = .ok (.ifCond .lt 6, 3) := by decide +kernel
theorem dX11_laid_18 : decode cX11_laid 18 = .ok (.bipush (-4), 2) := by decide +kernel
theorem dX11_laid_20 : decode cX11_laid 20 = .ok (.ireturn, 1) := by decide +kernel
theorem dX11_laid_21 : decode cX11_laid 21 = .ok (.aload_n 0, 1) := by decide +kernel
theorem dX11_laid_22 : decode cX11_laid 22 = .ok (.getfield 7, 3) := by decide +kernel
theorem dX11_laid_25 : decode cX11_laid 25 = .ok (.bipush 31, 2) := by decide +kernel
theorem dX11_laid_27 : decode cX11_laid 27 = .ok (.iaload, 1) := by decide +kernel
theorem dX11_laid_28 : decode cX11_laid 28 = .ok (.bipush 40, 2) := by decide +kernel
theorem dX11_laid_30 : decode cX11_laid 30 = .ok (.if_icmp .ne 6, 3) := by decide +kernel
theorem dX11_laid_33 : decode cX11_laid 33 = .ok (.bipush (-2), 2) := by decide +kernel
theorem dX11_laid_35 : decode cX11_laid 35 = .ok (.ireturn, 1) := by decide +kernel
theorem dX11_laid_36 : decode cX11_laid 36 = .ok (.aload_n 0, 1) := by decide +kernel
theorem dX11_laid_37 : decode cX11_laid 37 = .ok (.invokevirtual 154, 3) := by decide +kernel
theorem dX11_laid_40 : decode cX11_laid 40 = .ok (.aload_n 0, 1) := by decide +kernel
theorem dX11_laid_41 : decode cX11_laid 41 = .ok (.iload_n 1, 1) := by decide +kernel
theorem dX11_laid_42 : decode cX11_laid 42 = .ok (.invokevirtual 157, 3) := by decide +kernel
theorem dX11_laid_45 : decode cX11_laid 45 = .ok (.aload_n 0, 1) := by decide +kernel
theorem dX11_laid_46 : decode cX11_laid 46 = .ok (.getfield 7, 3) := by decide +kernel
theorem dX11_laid_49 : decode cX11_laid 49 = .ok (.iconst 1, 1) := by decide +kernel
theorem dX11_laid_50 : decode cX11_laid 50 = .ok (.iaload, 1) := by decide +kernel
theorem dX11_laid_51 : decode cX11_laid 51 = .ok (.ireturn, 1) := by decide +kernel
theorem dX11_lifts_0 : decode cX11_lifts 0 = .ok (.aload_n 0, 1) := by decide +kernel
theorem dX11_lifts_1 : decode cX11_lifts 1 = .ok (.getfield 7, 3) := by decide +kernel
theorem dX11_lifts_4 : decode cX11_lifts 4 = .ok (.iconst 1, 1) := by decide +kernel
theorem dX11_lifts_5 : decode cX11_lifts 5 = .ok (.dup2, 1) := by decide +kernel
theorem dX11_lifts_6 : decode cX11_lifts 6 = .ok (.iaload, 1) := by decide +kernel
theorem dX11_lifts_7 : decode cX11_lifts 7 = .ok (.iconst 1, 1) := by decide +kernel
theorem dX11_lifts_8 : decode cX11_lifts 8 = .ok (.isub, 1) := by decide +kernel
theorem dX11_lifts_9 : decode cX11_lifts 9 = .ok (.iastore, 1) := by decide +kernel
theorem dX11_lifts_10 : decode cX11_lifts 10 = .ok (.aload_n 0, 1) := by decide +kernel
theorem dX11_lifts_11 : decode cX11_lifts 11 = .ok (.getfield 7, 3) := by decide +kernel
theorem dX11_lifts_14 : decode cX11_lifts 14 = .ok (.iconst 3, 1) := by decide +kernel
theorem dX11_lifts_15 : decode cX11_lifts 15 = .ok (.aload_n 0, 1) := by decide +kernel
theorem dX11_lifts_16 : decode cX11_lifts 16 = .ok (.getfield 7, 3) := by decide +kernel
theorem dX11_lifts_19 : decode cX11_lifts 19 = .ok (.iconst 1, 1) := by decide +kernel
theorem dX11_lifts_20 : decode cX11_lifts 20 = .ok (.iaload, 1) := by decide +kernel
theorem dX11_lifts_21 : decode cX11_lifts 21 = .ok (.iadd, 1) := by decide +kernel
theorem dX11_lifts_22 : decode cX11_lifts 22 = .ok (.iaload, 1) := by decide +kernel
theorem dX11_lifts_23 : decode cX11_lifts 23 = .ok (.istore_n 1, 1) := by decide +kernel
theorem dX11_lifts_24 : decode cX11_lifts 24 = .ok (.aload_n 0, 1) := by decide +kernel
theorem dX11_lifts_25 : decode cX11_lifts 25 = .ok (.getfield 7, 3) := by decide +kernel
theorem dX11_lifts_28 : decode cX11_lifts 28 = .ok (.iconst 3, 1) := by decide +kernel
theorem dX11_lifts_29 : decode cX11_lifts 29 = .ok (.aload_n 0, 1) := by decide +kernel
theorem dX11_lifts_30 : decode cX11_lifts 30 = .ok (.getfield 7, 3) := by decide +kernel
theorem dX11_lifts_33 : decode cX11_lifts 33 = .ok (.iconst 1, 1) := by decide +kernel
theorem dX11_lifts_34 : decode cX11_lifts 34 = .ok (.iaload, 1) := by decide +kernel
theorem dX11_lifts_35 : decode cX11_lifts 35 = .ok (.iadd, 1) := by decide +kernel
theorem dX11_lifts_36 : decode cX11_lifts 36 = .ok (.iconst 0, 1) := by decide +kernel
theorem dX11_lifts_37 : decode cX11_lifts 37 = .ok (.iastore, 1) := by decide +kernel
theorem dX11_lifts_38 : decode cX11_lifts 38 = .ok (.iload_n 1, 1) := by decide +kernel
theorem dX11_lifts_39 : decode cX11_lifts 39 = .ok (.ireturn, 1) := by decide +kernel
theorem dX11_lift_0 : decode cX11_lift 0 = .ok (.aload_n 0, 1) := by decide +kernel
theorem dX11_lift_1 : decode cX11_lift 1 = .ok (.getfield 7, 3) := by decide +kernel
theorem dX11_lift_4 : decode cX11_lift 4 = .ok (.iconst 1, 1) := by decide +kernel
theorem dX11_lift_5 : decode cX11_lift 5 = .ok (.iaload, 1) := by decide +kernel
theorem dX11_lift_6 : decode cX11_lift 6 = .ok (.ifCond .ne 6, 3) := by decide +kernel
theorem dX11_lift_9 : decode cX11_lift 9 = .ok (.bipush (-4), 2) := by decide +kernel
theorem dX11_lift_11 : decode cX11_lift 11 = .ok (.ireturn, 1) := by decide +kernel
theorem dX11_lift_12 : decode cX11_lift 12 = .ok (.aload_n 0, 1) := by decide +kernel
theorem dX11_lift_13 : decode cX11_lift 13 = .ok (.getfield 7, 3) := by decide +kernel
theorem dX11_lift_16 : decode cX11_lift 16 = .ok (.bipush 31, 2) := by decide +kernel
theorem dX11_lift_18 : decode cX11_lift 18 = .ok (.iaload, 1) := by decide +kernel
theorem dX11_lift_19 : decode cX11_lift 19 = .ok (.bipush 40, 2) := by decide +kernel
theorem dX11_lift_21 : decode cX11_lift 21 = .ok (.if_icmp .ne 6, 3) := by decide +kernel
theorem dX11_lift_24 : decode cX11_lift 24 = .ok (.bipush (-2), 2) := by decide +kernel
theorem dX11_lift_26 : decode cX11_lift 26 = .ok (.ireturn, 1) := by decide +kernel
theorem dX11_lift_27 : decode cX11_lift 27 = .ok (.aload_n 0, 1) := by decide +kernel
theorem dX11_lift_28 : decode cX11_lift 28 = .ok (.invokevirtual 154, 3) := by decide +kernel
theorem dX11_lift_31 : decode cX11_lift 31 = .ok (.aload_n 0, 1) := by decide +kernel
theorem dX11_lift_32 : decode cX11_lift 32 = .ok (.invokevirtual 161, 3) := by decide +kernel
theorem dX11_lift_35 : decode cX11_lift 35 = .ok (.ireturn, 1) := by decide +kernel
theorem dX11_change_0 : decode cX11_change 0 = .ok (.iload_n 1, 1) := by decide +kernel
theorem dX11_change_1 : decode cX11_change 1 = .ok (.i2l, 1) := by decide +kernel
theorem dX11_change_2 : decode cX11_change 2 = .ok (.lconst 0, 1) := by decide +kernel
theorem dX11_change_3 : decode cX11_change 3 = .ok (.aload_n 0, 1) := by decide +kernel
theorem dX11_change_4 : decode cX11_change 4 = .ok (.getfield 7, 3) := by decide +kernel
theorem dX11_change_7 : decode cX11_change 7 = .ok (.iconst 1, 1) := by decide +kernel
theorem dX11_change_8 : decode cX11_change 8 = .ok (.iaload, 1) := by decide +kernel
theorem dX11_change_9 : decode cX11_change 9 = .ok (.iconst 1, 1) := by decide +kernel
theorem dX11_change_10 : decode cX11_change 10 = .ok (.isub, 1) := by decide +kernel
theorem dX11_change_11 : decode cX11_change 11 = .ok (.i2l, 1) := by decide +kernel
theorem dX11_change_12 : decode cX11_change 12 = .ok (.invokestatic 68, 3) := by decide +kernel
theorem dX11_change_15 : decode cX11_change 15 = .ok (.ifCond .eq 26, 3) := by decide +kernel
theorem dX11_change_18 : decode cX11_change 18 = .ok (.iload_n 2, 1) := by decide +kernel
theorem dX11_change_19 : decode cX11_change 19 = .ok (.i2l, 1) := by decide +kernel
theorem dX11_change_20 : decode cX11_change 20 = .ok (.lconst 0, 1) := by decide +kernel
theorem dX11_change_21 : decode cX11_change 21 = .ok (.aload_n 0, 1) := by decide +kernel
theorem dX11_change_22 : decode cX11_change 22 = .ok (.getfield 7, 3) := by decide +kernel
theorem dX11_change_25 : decode cX11_change 25 = .ok (.iconst 1, 1) := by decide +kernel
theorem dX11_change_26 : decode cX11_change 26 = .ok (.iaload, 1) := by decide +kernel
theorem dX11_change_27 : decode cX11_change 27 = .ok (.iconst 1, 1) := by decide +kernel
theorem dX11_change_28 : decode cX11_change 28 = .ok (.isub, 1) := by decide +kernel
theorem dX11_change_29 : decode cX11_change 29 = .ok (.i2l, 1) := by decide +kernel
theorem dX11_change_30 : decode cX11_change 30 = .ok (.invokestatic 68, 3) := by decide +kernel
theorem dX11_change_33 : decode cX11_change 33 = .ok (.ifCond .eq 8, 3) := by decide +kernel
theorem dX11_change_36 : decode cX11_change 36 = .ok (.iload_n 1, 1) := by decide +kernel
theorem dX11_change_37 : decode cX11_change 37 = .ok (.iload_n 2, 1) := by decide +kernel
theorem dX11_change_38 : decode cX11_change 38 = .ok (.if_icmp .ne 5, 3) := by decide +kernel
theorem dX11_change_41 : decode cX11_change 41 = .ok (.iconst (-1), 1) := by decide +kernel
theorem dX11_change_42 : decode cX11_change 42 = .ok (.ireturn, 1) := by decide +kernel
theorem dX11_change_43 : decode cX11_change 43 = .ok (.aload_n 0, 1) := by decide +kernel
theorem dX11_change_44 : decode cX11_change 44 = .ok (.getfield 7, 3) := by decide +kernel
theorem dX11_change_47 : decode cX11_change 47 = .ok (.bipush 31, 2) := by decide +kernel
theorem dX11_change_49 : decode cX11_change 49 = .ok (.iaload, 1) := by decide +kernel
theorem dX11_change_50 : decode cX11_change 50 = .ok (.bipush 40, 2) := by decide +kernel
theorem dX11_change_52 : decode cX11_change 52 = .ok (.if_icmp .ne 6, 3) := by decide +kernel
theorem dX11_change_55 : decode cX11_change 55 = .ok (.bipush (-2), 2) := by decide +kernel
theorem dX11_change_57 : decode cX11_change 57 = .ok (.ireturn, 1) := by decide +kernel
theorem dX11_change_58 : decode cX11_change 58 = .ok (.aload_n 0, 1) := by decide +kernel
theorem dX11_change_59 : decode cX11_change 59 = .ok (.invokevirtual 154, 3) := by decide +kernel
theorem dX11_change_62 : decode cX11_change 62 = .ok (.aload_n 0, 1) := by decide +kernel
theorem dX11_change_63 : decode cX11_change 63 = .ok (.getfield 7, 3) := by decide +kernel
theorem dX11_change_66 : decode cX11_change 66 = .ok (.iconst 3, 1) := by decide +kernel
theorem dX11_change_67 : decode cX11_change 67 = .ok (.iload_n 1, 1) := by decide +kernel
theorem dX11_change_68 : decode cX11_change 68 = .ok (.iadd, 1) := by decide +kernel
theorem dX11_change_69 : decode cX11_change 69 = .ok (.iaload, 1) := by decide +kernel
theorem dX11_change_70 : decode cX11_change 70 = .ok (.istore_n 3, 1) := by decide +kernel
theorem dX11_change_71 : decode cX11_change 71 = .ok (.aload_n 0, 1) := by decide +kernel
theorem dX11_change_72 : decode cX11_change 72 = .ok (.getfield 7, 3) := by decide +kernel
theorem dX11_change_75 : decode cX11_change 75 = .ok (.iconst 3, 1) := by decide +kernel
theorem dX11_change_76 : decode cX11_change 76 = .ok (.iload_n 1, 1) := by decide +kernel
theorem dX11_change_77 : decode cX11_change 77 = .ok (.iadd, 1) := by decide +kernel
theorem dX11_change_78 : decode cX11_change 78 = .ok (.aload_n 0, 1) := by decide +kernel
theorem dX11_change_79 : decode cX11_change 79 = .ok (.getfield 7, 3) := by decide +kernel
theorem dX11_change_82 : decode cX11_change 82 = .ok (.iconst 3, 1) := by decide +kernel
theorem dX11_change_83 : decode cX11_change 83 = .ok (.iload_n 2, 1) := by decide +kernel
theorem dX11_change_84 : decode cX11_change 84 = .ok (.iadd, 1) := by decide +kernel
theorem dX11_change_85 : decode cX11_change 85 = .ok (.iaload, 1) := by decide +kernel
theorem dX11_change_86 : decode cX11_change 86 = .ok (.iastore, 1) := by decide +kernel
theorem dX11_change_87 : decode cX11_change 87 = .ok (.aload_n 0, 1) := by decide +kernel
theorem dX11_change_88 : decode cX11_change 88 = .ok (.getfield 7, 3) := by decide +kernel
theorem dX11_change_91 : decode cX11_change 91 = .ok (.iconst 3, 1) := by decide +kernel
theorem dX11_change_92 : decode cX11_change 92 = .ok (.iload_n 2, 1) := by decide +kernel
theorem dX11_change_93 : decode cX11_change 93 = .ok (.iadd, 1) := by decide +kernel
theorem dX11_change_94 : decode cX11_change 94 = .ok (.iload_n 3, 1) := by decide +kernel
theorem dX11_change_95 : decode cX11_change 95 = .ok (.iastore, 1) := by decide +kernel
theorem dX11_change_96 : decode cX11_change 96 = .ok (.aload_n 0, 1) := by decide +kernel
theorem dX11_change_97 : decode cX11_change 97 = .ok (.getfield 7, 3) := by decide +kernel
theorem dX11_change_100 : decode cX11_change 100 = .ok (.iconst 3, 1) := by decide +kernel
theorem dX11_change_101 : decode cX11_change 101 = .ok (.iload_n 1, 1) := by decide +kernel
theorem dX11_change_102 : decode cX11_change 102 = .ok (.iadd, 1) := by decide +kernel
theorem dX11_change_103 : decode cX11_change 103 = .ok (.iaload, 1) := by decide +kernel
theorem dX11_change_104 : decode cX11_change 104 = .ok (.ireturn, 1) := by decide +kernel
theorem dX11_over_0 : decode cX11_over 0 = .ok (.aload_n 0, 1) := by decide +kernel
theorem dX11_over_1 : decode cX11_over 1 = .ok (.iload_n 1, 1) := by decide +kernel
theorem dX11_over_2 : decode cX11_over 2 = .ok (.invokevirtual 133, 3) := by decide +kernel
theorem dX11_over_5 : decode cX11_over 5 = .ok (.ifCond .ne 5, 3) := by decide +kernel
theorem dX11_over_8 : decode cX11_over 8 = .ok (.iconst (-1), 1) := by decide +kernel
theorem dX11_over_9 : decode cX11_over 9 = .ok (.ireturn, 1) := by decide +kernel
theorem dX11_over_10 : decode cX11_over 10 = .ok (.aload_n 0, 1) := by decide +kernel
theorem dX11_over_11 : decode cX11_over 11 = .ok (.getfield 7, 3) := by decide +kernel
theorem dX11_over_14 : decode cX11_over 14 = .ok (.bipush 31, 2) := by decide +kernel
theorem dX11_over_16 : decode cX11_over 16 = .ok (.iaload, 1) := by decide +kernel
theorem dX11_over_17 : decode cX11_over 17 = .ok (.bipush 40, 2) := by decide +kernel
theorem dX11_over_19 : decode cX11_over 19 = .ok (.if_icmp .ne 6, 3) := by decide +kernel
theorem dX11_over_22 : decode cX11_over 22 = .ok (.bipush (-2), 2) := by decide +kernel
theorem dX11_over_24 : decode cX11_over 24 = .ok (.ireturn, 1) := by decide +kernel
theorem dX11_over_25 : decode cX11_over 25 = .ok (.aload_n 0, 1) := by decide +kernel
theorem dX11_over_26 : decode cX11_over 26 = .ok (.invokevirtual 154, 3) := by decide +kernel
theorem dX11_over_29 : decode cX11_over 29 = .ok (.aload_n 0, 1) := by decide +kernel
theorem dX11_over_30 : decode cX11_over 30 = .ok (.getfield 7, 3) := by decide +kernel
theorem dX11_over_33 : decode cX11_over 33 = .ok (.iconst 2, 1) := by decide +kernel
theorem dX11_over_34 : decode cX11_over 34 = .ok (.dup2, 1) := by decide +kernel
theorem dX11_over_35 : decode cX11_over 35 = .ok (.iaload, 1) := by decide +kernel
theorem dX11_over_36 : decode cX11_over 36 = .ok (.iconst 1, 1) := by decide +kernel
theorem dX11_over_37 : decode cX11_over 37 = .ok (.iload_n 1, 1) := by decide +kernel
theorem dX11_over_38 : decode cX11_over 38 = .ok (.ishl, 1) := by decide +kernel
theorem dX11_over_39 : decode cX11_over 39 = .ok (.ixor, 1) := by decide +kernel
theorem dX11_over_40 : decode cX11_over 40 = .ok (.iastore, 1) := by decide +kernel
theorem dX11_over_41 : decode cX11_over 41 = .ok (.aload_n 0, 1) := by decide +kernel
theorem dX11_over_42 : decode cX11_over 42 = .ok (.iload_n 1, 1) := by decide +kernel
theorem dX11_over_43 : decode cX11_over 43 = .ok (.invokevirtual 123, 3) := by decide +kernel
theorem dX11_over_46 : decode cX11_over 46 = .ok (.ireturn, 1) := by decide +kernel
theorem dX11_undo_0 : decode cX11_undo 0 = .ok (.iload_n 1, 1) := by decide +kernel
theorem dX11_undo_1 : decode cX11_undo 1 = .ok (.i2l, 1) := by decide +kernel
theorem dX11_undo_2 : decode cX11_undo 2 = .ok (.lconst 0, 1) := by decide +kernel
theorem dX11_undo_3 : decode cX11_undo 3 = .ok (.aload_n 0, 1) := by decide +kernel
theorem dX11_undo_4 : decode cX11_undo 4 = .ok (.getfield 7, 3) := by decide +kernel
theorem dX11_undo_7 : decode cX11_undo 7 = .ok (.bipush 31, 2) := by decide +kernel
theorem dX11_undo_9 : decode cX11_undo 9 = .ok (.iaload, 1) := by decide +kernel
theorem dX11_undo_10 : decode cX11_undo 10 = .ok (.i2l, 1) := by decide +kernel
theorem dX11_undo_11 : decode cX11_undo 11 = .ok (.invokestatic 68, 3) := by decide +kernel
theorem dX11_undo_14 : decode cX11_undo 14 = .ok (.ifCond .ne 5, 3) := by decide +kernel
theorem dX11_undo_17 : decode cX11_undo 17 = .ok (.iconst (-1), 1) := by decide +kernel
theorem dX11_undo_18 : decode cX11_undo 18 = .ok (.ireturn, 1) := by decide +kernel
theorem dX11_undo_19 : decode cX11_undo 19 = .ok (.aload_n 0, 1) := by decide +kernel
theorem dX11_undo_20 : decode cX11_undo 20 = .ok (.getfield 7, 3) := by decide +kernel
theorem dX11_undo_23 : decode cX11_undo 23 = .ok (.bipush 31, 2) := by decide +kernel
theorem dX11_undo_25 : decode cX11_undo 25 = .ok (.iaload, 1) := by decide +kernel
theorem dX11_undo_26 : decode cX11_undo 26 = .ok (.iload_n 1, 1) := by decide +kernel
theorem dX11_undo_27 : decode cX11_undo 27 = .ok (.isub, 1) := by decide +kernel
theorem dX11_undo_28 : decode cX11_undo 28 = .ok (.istore_n 2, 1) := by decide +kernel
theorem dX11_undo_29 : decode cX11_undo 29 = .ok (.iload_n 2, 1) := by decide +kernel
theorem dX11_undo_30 : decode cX11_undo 30 = .ok (.ifCond .le 81, 3) := by decide +kernel
theorem dX11_undo_33 : decode cX11_undo 33 = .ok (.bipush 32, 2) := by decide +kernel
theorem dX11_undo_35 : decode cX11_undo 35 = .ok (.bipush 9, 2) := by decide +kernel
theorem dX11_undo_37 : decode cX11_undo 37 = .ok (.iload_n 1, 1) := by decide +kernel
theorem dX11_undo_38 : decode cX11_undo 38 = .ok (.imul, 1) := by decide +kernel
theorem dX11_undo_39 : decode cX11_undo 39 = .ok (.iadd, 1) := by decide +kernel
theorem dX11_undo_40 : decode cX11_undo 40 = .ok (.istore_n 3, 1) := by decide +kernel
theorem dX11_undo_41 : decode cX11_undo 41 = .ok (.aload_n 0, 1) := by decide +kernel
theorem dX11_undo_42 : decode cX11_undo 42 = .ok (.getfield 7, 3) := by decide +kernel
theorem dX11_undo_45 : decode cX11_undo 45 = .ok (.iconst 1, 1) := by decide +kernel
theorem dX11_undo_46 : decode cX11_undo 46 = .ok (.aload_n 0, 1) := by decide +kernel
theorem dX11_undo_47 : decode cX11_undo 47 = .ok (.getfield 7, 3) := by decide +kernel
theorem dX11_undo_50 : decode cX11_undo 50 = .ok (.iload_n 3, 1) := by decide +kernel
theorem dX11_undo_51 : decode cX11_undo 51 = .ok (.iaload, 1) := by decide +kernel
theorem dX11_undo_52 : decode cX11_undo 52 = .ok (.iastore, 1) := by decide +kernel
theorem dX11_undo_53 : decode cX11_undo 53 = .ok (.aload_n 0, 1) := by decide +kernel
theorem dX11_undo_54 : decode cX11_undo 54 = .ok (.getfield 7, 3) := by decide +kernel
theorem dX11_undo_57 : decode cX11_undo 57 = .ok (.iconst 2, 1) := by decide +kernel
theorem dX11_undo_58 : decode cX11_undo 58 = .ok (.aload_n 0, 1) := by decide +kernel
theorem dX11_undo_59 : decode cX11_undo 59 = .ok (.getfield 7, 3) := by decide +kernel
theorem dX11_undo_62 : decode cX11_undo 62 = .ok (.iload_n 3, 1) := by decide +kernel
theorem dX11_undo_63 : decode cX11_undo 63 = .ok (.iconst 1, 1) := by decide +kernel
theorem dX11_undo_64 : decode cX11_undo 64 = .ok (.iadd, 1) := by decide +kernel
theorem dX11_undo_65 : decode cX11_undo 65 = .ok (.iaload, 1) := by decide +kernel
theorem dX11_undo_66 : decode cX11_undo 66 = .ok (.iastore, 1) := by decide +kernel
theorem dX11_undo_67 : decode cX11_undo 67 = .ok (.iconst 0, 1) := by decide +kernel
theorem dX11_undo_68 : decode cX11_undo 68 = .ok (.istore 4, 2) := by decide +kernel
theorem dX11_undo_70 : decode cX11_undo 70 = .ok (.iload 4, 2) := by decide +kernel
theorem dX11_undo_72 : decode cX11_undo 72 = .ok (.bipush 7, 2) := by decide +kernel
theorem dX11_undo_74 : decode cX11_undo 74 = .ok (.if_icmp .ge 29, 3) := by decide +kernel
theorem dX11_undo_77 : decode cX11_undo 77 = .ok (.aload_n 0, 1) := by decide +kernel
theorem dX11_undo_78 : decode cX11_undo 78 = .ok (.getfield 7, 3) := by decide +kernel
theorem dX11_undo_81 : decode cX11_undo 81 = .ok (.iconst 3, 1) := by decide +kernel
theorem dX11_undo_82 : decode cX11_undo 82 = .ok (.iload 4, 2) := by decide +kernel
theorem dX11_undo_84 : decode cX11_undo 84 = .ok (.iadd, 1) := by decide +kernel
theorem dX11_undo_85 : decode cX11_undo 85 = .ok (.aload_n 0, 1) := by decide +kernel
theorem dX11_undo_86 : decode cX11_undo 86 = .ok (.getfield 7, 3) := by decide +kernel
theorem dX11_undo_89 : decode cX11_undo 89 = .ok (.iload_n 3, 1) := by decide +kernel
theorem dX11_undo_90 : decode cX11_undo 90 = .ok (.iconst 2, 1) := by decide +kernel
theorem dX11_undo_91 : decode cX11_undo 91 = .ok (.iadd, 1) := by decide +kernel
theorem dX11_undo_92 : decode cX11_undo 92 = .ok (.iload 4, 2) := by decide +kernel
theorem dX11_undo_94 : decode cX11_undo 94 = .ok (.iadd, 1) := by decide +kernel
theorem dX11_undo_95 : decode cX11_undo 95 = .ok (.iaload, 1) := by decide +kernel
theorem dX11_undo_96 : decode cX11_undo 96 = .ok (.iastore, 1) := by decide +kernel
theorem dX11_undo_97 : decode cX11_undo 97 = .ok (.iinc 4 1, 3) := by decide +kernel
theorem dX11_undo_100 : decode cX11_undo 100 = .ok (.goto (-30), 3) := by decide +kernel
theorem dX11_undo_103 : decode cX11_undo 103 = .ok (.aload_n 0, 1) := by decide +kernel
theorem dX11_undo_104 : decode cX11_undo 104 = .ok (.getfield 7, 3) := by decide +kernel
theorem dX11_undo_107 : decode cX11_undo 107 = .ok (.bipush 31, 2) := by decide +kernel
theorem dX11_undo_109 : decode cX11_undo 109 = .ok (.iload_n 1, 1) := by decide +kernel
theorem dX11_undo_110 : decode cX11_undo 110 = .ok (.iastore, 1) := by decide +kernel
theorem dX11_undo_111 : decode cX11_undo 111 = .ok (.iload_n 2, 1) := by decide +kernel
theorem dX11_undo_112 : decode cX11_undo 112 = .ok (.ireturn, 1) := by decide +kernel
theorem dX11_keep_0 : decode cX11_keep 0 = .ok (.iload_n 1, 1) := by decide +kernel
theorem dX11_keep_1 : decode cX11_keep 1 = .ok (.i2l, 1) := by decide +kernel
theorem dX11_keep_2 : decode cX11_keep 2 = .ok (.lconst 0, 1) := by decide +kernel
theorem dX11_keep_3 : decode cX11_keep 3 = .ok (.ldc2_w 164, 3) := by decide +kernel
theorem dX11_keep_6 : decode cX11_keep 6 = .ok (.invokestatic 68, 3) := by decide +kernel
theorem dX11_keep_9 : decode cX11_keep 9 = .ok (.ifCond .ne 5, 3) := by decide +kernel
theorem dX11_keep_12 : decode cX11_keep 12 = .ok (.iconst (-1), 1) := by decide +kernel
theorem dX11_keep_13 : decode cX11_keep 13 = .ok (.ireturn, 1) := by decide +kernel
theorem dX11_keep_14 : decode cX11_keep 14 = .ok (.aload_n 0, 1) := by decide +kernel
theorem dX11_keep_15 : decode cX11_keep 15 = .ok (.getfield 7, 3) := by decide +kernel
theorem dX11_keep_18 : decode cX11_keep 18 = .ok (.iconst 0, 1) := by decide +kernel
theorem dX11_keep_19 : decode cX11_keep 19 = .ok (.iaload, 1) := by decide +kernel
theorem dX11_keep_20 : decode cX11_keep 20 = .ok (.ifCond .ne 6, 3) := by decide +kernel
theorem dX11_keep_23 : decode cX11_keep 23 = .ok (.bipush (-4), 2) := by decide +kernel
theorem dX11_keep_25 : decode cX11_keep 25 = .ok (.ireturn, 1) := by decide +kernel
theorem dX11_keep_26 : decode cX11_keep 26 = .ok (.aload_n 0, 1) := by decide +kernel
theorem dX11_keep_27 : decode cX11_keep 27 = .ok (.iconst 0, 1) := by decide +kernel
theorem dX11_keep_28 : decode cX11_keep 28 = .ok (.sipush 392, 3) := by decide +kernel
theorem dX11_keep_31 : decode cX11_keep 31 = .ok (.sipush 392, 3) := by decide +kernel
theorem dX11_keep_34 : decode cX11_keep 34 = .ok (.iload_n 1, 1) := by decide +kernel
theorem dX11_keep_35 : decode cX11_keep 35 = .ok (.imul, 1) := by decide +kernel
theorem dX11_keep_36 : decode cX11_keep 36 = .ok (.iadd, 1) := by decide +kernel
theorem dX11_keep_37 : decode cX11_keep 37 = .ok (.invokevirtual 166, 3) := by decide +kernel
theorem dX11_keep_40 : decode cX11_keep 40 = .ok (.aload_n 0, 1) := by decide +kernel
theorem dX11_keep_41 : decode cX11_keep 41 = .ok (.getfield 7, 3) := by decide +kernel
theorem dX11_keep_44 : decode cX11_keep 44 = .ok (.bipush 31, 2) := by decide +kernel
theorem dX11_keep_46 : decode cX11_keep 46 = .ok (.iaload, 1) := by decide +kernel
theorem dX11_keep_47 : decode cX11_keep 47 = .ok (.ireturn, 1) := by decide +kernel
theorem dX11_on_0 : decode cX11_on 0 = .ok (.iload_n 1, 1) := by decide +kernel
theorem dX11_on_1 : decode cX11_on 1 = .ok (.i2l, 1) := by decide +kernel
theorem dX11_on_2 : decode cX11_on 2 = .ok (.lconst 0, 1) := by decide +kernel
theorem dX11_on_3 : decode cX11_on 3 = .ok (.ldc2_w 164, 3) := by decide +kernel
theorem dX11_on_6 : decode cX11_on 6 = .ok (.invokestatic 68, 3) := by decide +kernel
theorem dX11_on_9 : decode cX11_on 9 = .ok (.ifCond .ne 5, 3) := by decide +kernel
theorem dX11_on_12 : decode cX11_on 12 = .ok (.iconst (-1), 1) := by decide +kernel
theorem dX11_on_13 : decode cX11_on 13 = .ok (.ireturn, 1) := by decide +kernel
theorem dX11_on_14 : decode cX11_on 14 = .ok (.aload_n 0, 1) := by decide +kernel
theorem dX11_on_15 : decode cX11_on 15 = .ok (.getfield 7, 3) := by decide +kernel
theorem dX11_on_18 : decode cX11_on 18 = .ok (.sipush 392, 3) := by decide +kernel
theorem dX11_on_21 : decode cX11_on 21 = .ok (.sipush 392, 3) := by decide +kernel
theorem dX11_on_24 : decode cX11_on 24 = .ok (.iload_n 1, 1) := by decide +kernel
theorem dX11_on_25 : decode cX11_on 25 = .ok (.imul, 1) := by decide +kernel
theorem dX11_on_26 : decode cX11_on 26 = .ok (.iadd, 1) := by decide +kernel
theorem dX11_on_27 : decode cX11_on 27 = .ok (.iconst 0, 1) := by decide +kernel
theorem dX11_on_28 : decode cX11_on 28 = .ok (.iadd, 1) := by decide +kernel
theorem dX11_on_29 : decode cX11_on 29 = .ok (.iaload, 1) := by decide +kernel
theorem dX11_on_30 : decode cX11_on 30 = .ok (.ifCond .ne 9, 3) := by decide +kernel
theorem dX11_on_33 : decode cX11_on 33 = .ok (.aload_n 0, 1) := by decide +kernel
theorem dX11_on_34 : decode cX11_on 34 = .ok (.iconst 1, 1) := by decide +kernel
theorem dX11_on_35 : decode cX11_on 35 = .ok (.invokevirtual 80, 3) := by decide +kernel
theorem dX11_on_38 : decode cX11_on 38 = .ok (.ireturn, 1) := by decide +kernel
theorem dX11_on_39 : decode cX11_on 39 = .ok (.aload_n 0, 1) := by decide +kernel
theorem dX11_on_40 : decode cX11_on 40 = .ok (.sipush 392, 3) := by decide +kernel
theorem dX11_on_43 : decode cX11_on 43 = .ok (.sipush 392, 3) := by decide +kernel
theorem dX11_on_46 : decode cX11_on 46 = .ok (.iload_n 1, 1) := by decide +kernel
theorem dX11_on_47 : decode cX11_on 47 = .ok (.imul, 1) := by decide +kernel
theorem dX11_on_48 : decode cX11_on 48 = .ok (.iadd, 1) := by decide +kernel
theorem dX11_on_49 : decode cX11_on 49 = .ok (.iconst 0, 1) := by decide +kernel
theorem dX11_on_50 : decode cX11_on 50 = .ok (.invokevirtual 166, 3) := by decide +kernel
theorem dX11_on_53 : decode cX11_on 53 = .ok (.aload_n 0, 1) := by decide +kernel
theorem dX11_on_54 : decode cX11_on 54 = .ok (.getfield 7, 3) := by decide +kernel
theorem dX11_on_57 : decode cX11_on 57 = .ok (.bipush 31, 2) := by decide +kernel
theorem dX11_on_59 : decode cX11_on 59 = .ok (.iaload, 1) := by decide +kernel
theorem dX11_on_60 : decode cX11_on 60 = .ok (.ireturn, 1) := by decide +kernel
theorem dX11_readBy_0 : decode cX11_readBy 0 = .ok (.iconst 0, 1) := by decide +kernel
theorem dX11_readBy_1 : decode cX11_readBy 1 = .ok (.istore_n 2, 1) := by decide +kernel
theorem dX11_readBy_2 : decode cX11_readBy 2 = .ok (.iconst 0, 1) := by decide +kernel
theorem dX11_readBy_3 : decode cX11_readBy 3 = .ok (.istore_n 3, 1) := by decide +kernel
theorem dX11_readBy_4 : decode cX11_readBy 4 = .ok (.iload_n 3, 1) := by decide +kernel
theorem dX11_readBy_5 : decode cX11_readBy 5 = .ok (.aload_n 0, 1) := by decide +kernel
theorem dX11_readBy_6 : decode cX11_readBy 6 = .ok (.getfield 7, 3) := by decide +kernel
theorem dX11_readBy_9 : decode cX11_readBy 9 = .ok (.iconst 1, 1) := by decide +kernel
theorem dX11_readBy_10 : decode cX11_readBy 10 = .ok (.iaload, 1) := by decide +kernel
theorem dX11_readBy_11 : decode cX11_readBy 11 = .ok (.if_icmp .ge 28, 3) := by decide +kernel
theorem dX11_readBy_14 : decode cX11_readBy 14 = .ok (.bipush 10, 2) := by decide +kernel
theorem dX11_readBy_16 : decode cX11_readBy 16 = .ok (.iload_n 2, 1) := by decide +kernel
theorem dX11_readBy_17 : decode cX11_readBy 17 = .ok (.imul, 1) := by decide +kernel
theorem dX11_readBy_18 : decode cX11_readBy 18 = .ok (.aload_n 0, 1) := by decide +kernel
theorem dX11_readBy_19 : decode cX11_readBy 19 = .ok (.aload_n 0, 1) := by decide +kernel
theorem dX11_readBy_20 : decode cX11_readBy 20 = .ok (.getfield 7, 3) := by decide +kernel
theorem dX11_readBy_23 : decode cX11_readBy 23 = .ok (.iconst 3, 1) := by decide +kernel
theorem dX11_readBy_24 : decode cX11_readBy 24 = .ok (.iload_n 3, 1) := by decide +kernel
theorem dX11_readBy_25 : decode cX11_readBy 25 = .ok (.iadd, 1) := by decide +kernel
theorem dX11_readBy_26 : decode cX11_readBy 26 = .ok (.iaload, 1) := by decide +kernel
theorem dX11_readBy_27 : decode cX11_readBy 27 = .ok (.iload_n 1, 1) := by decide +kernel
theorem dX11_readBy_28 : decode cX11_readBy 28 = .ok (.invokevirtual 142, 3) := by decide +kernel
theorem dX11_readBy_31 : decode cX11_readBy 31 = .ok (.iadd, 1) := by decide +kernel
theorem dX11_readBy_32 : decode cX11_readBy 32 = .ok (.istore_n 2, 1) := by decide +kernel
theorem dX11_readBy_33 : decode cX11_readBy 33 = .ok (.iinc 3 1, 3) := by decide +kernel
theorem dX11_readBy_36 : decode cX11_readBy 36 = .ok (.goto (-32), 3) := by decide +kernel
theorem dX11_readBy_39 : decode cX11_readBy 39 = .ok (.iload_n 2, 1) := by decide +kernel
theorem dX11_readBy_40 : decode cX11_readBy 40 = .ok (.ireturn, 1) := by decide +kernel
theorem dX11_rightBy_0 : decode cX11_rightBy 0 = .ok (.iconst 0, 1) := by decide +kernel
theorem dX11_rightBy_1 : decode cX11_rightBy 1 = .ok (.istore_n 2, 1) := by decide +kernel
theorem dX11_rightBy_2 : decode cX11_rightBy 2 = .ok (.iconst 0, 1) := by decide +kernel
theorem dX11_rightBy_3 : decode cX11_rightBy 3 = .ok (.istore_n 3, 1) := by decide +kernel
theorem dX11_rightBy_4 : decode cX11_rightBy 4 = .ok (.iload_n 3, 1) := by decide +kernel
theorem dX11_rightBy_5 : decode cX11_rightBy 5 = .ok (.aload_n 0, 1) := by decide +kernel
theorem dX11_rightBy_6 : decode cX11_rightBy 6 = .ok (.getfield 7, 3) := by decide +kernel
theorem dX11_rightBy_9 : decode cX11_rightBy 9 = .ok (.iconst 1, 1) := by decide +kernel
theorem dX11_rightBy_10 : decode cX11_rightBy 10 = .ok (.iaload, 1) := by decide +kernel
theorem dX11_rightBy_11 : decode cX11_rightBy 11 = .ok (.if_icmp .ge 27, 3) := by decide +kernel
theorem dX11_rightBy_14 : decode cX11_rightBy 14 = .ok (.bipush 10, 2) := by decide +kernel
theorem dX11_rightBy_16 : decode cX11_rightBy 16 = .ok (.iload_n 2, 1) := by decide +kernel
theorem dX11_rightBy_17 : decode cX11_rightBy 17 = .ok (.imul, 1) := by decide +kernel
theorem dX11_rightBy_18 : decode cX11_rightBy 18 = .ok (.aload_n 0, 1) := by decide +kernel
theorem dX11_rightBy_19 : decode cX11_rightBy 19 = .ok (.aload_n 0, 1) := by decide +kernel
theorem dX11_rightBy_20 : decode cX11_rightBy 20 = .ok (.getfield 7, 3) := by decide +kernel
theorem dX11_rightBy_23 : decode cX11_rightBy 23 = .ok (.iconst 3, 1) := by decide +kernel
theorem dX11_rightBy_24 : decode cX11_rightBy 24 = .ok (.iload_n 3, 1) := by decide +kernel
theorem dX11_rightBy_25 : decode cX11_rightBy 25 = .ok (.iadd, 1) := by decide +kernel
theorem dX11_rightBy_26 : decode cX11_rightBy 26 = .ok (.iaload, 1) := by decide +kernel
theorem dX11_rightBy_27 : decode cX11_rightBy 27 = .ok (.invokevirtual 123, 3) := by decide +kernel
theorem dX11_rightBy_30 : decode cX11_rightBy 30 = .ok (.iadd, 1) := by decide +kernel
theorem dX11_rightBy_31 : decode cX11_rightBy 31 = .ok (.istore_n 2, 1) := by decide +kernel
theorem dX11_rightBy_32 : decode cX11_rightBy 32 = .ok (.iinc 3 1, 3) := by decide +kernel
theorem dX11_rightBy_35 : decode cX11_rightBy 35 = .ok (.goto (-31), 3) := by decide +kernel
theorem dX11_rightBy_38 : decode cX11_rightBy 38 = .ok (.iload_n 2, 1) := by decide +kernel
theorem dX11_rightBy_39 : decode cX11_rightBy 39 = .ok (.iload_n 1, 1) := by decide +kernel
theorem dX11_rightBy_40 : decode cX11_rightBy 40 = .ok (.imul, 1) := by decide +kernel
theorem dX11_rightBy_41 : decode cX11_rightBy 41 = .ok (.ireturn, 1) := by decide +kernel
theorem dX11_reads_0 : decode cX11_reads 0 = .ok (.iload_n 1, 1) := by decide +kernel
theorem dX11_reads_1 : decode cX11_reads 1 = .ok (.invokestatic 151, 3) := by decide +kernel
theorem dX11_reads_4 : decode cX11_reads 4 = .ok (.ifCond .ne 5, 3) := by decide +kernel
theorem dX11_reads_7 : decode cX11_reads 7 = .ok (.iconst (-1), 1) := by decide +kernel
theorem dX11_reads_8 : decode cX11_reads 8 = .ok (.ireturn, 1) := by decide +kernel
theorem dX11_reads_9 : decode cX11_reads 9 = .ok (.aload_n 0, 1) := by decide +kernel
theorem dX11_reads_10 : decode cX11_reads 10 = .ok (.aload_n 0, 1) := by decide +kernel
theorem dX11_reads_11 : decode cX11_reads 11 = .ok (.iload_n 1, 1) := by decide +kernel
theorem dX11_reads_12 : decode cX11_reads 12 = .ok (.invokevirtual 170, 3) := by decide +kernel
theorem dX11_reads_15 : decode cX11_reads 15 = .ok (.putfield 60, 3) := by decide +kernel
theorem dX11_reads_18 : decode cX11_reads 18 = .ok (.aload_n 0, 1) := by decide +kernel
theorem dX11_reads_19 : decode cX11_reads 19 = .ok (.iload_n 1, 1) := by decide +kernel
theorem dX11_reads_20 : decode cX11_reads 20 = .ok (.invokevirtual 173, 3) := by decide +kernel
theorem dX11_reads_23 : decode cX11_reads 23 = .ok (.ireturn, 1) := by decide +kernel
theorem dX11_wrong_0 : decode cX11_wrong 0 = .ok (.iconst 0, 1) := by decide +kernel
theorem dX11_wrong_1 : decode cX11_wrong 1 = .ok (.istore_n 1, 1) := by decide +kernel
theorem dX11_wrong_2 : decode cX11_wrong 2 = .ok (.iconst 1, 1) := by decide +kernel
theorem dX11_wrong_3 : decode cX11_wrong 3 = .ok (.istore_n 2, 1) := by decide +kernel
theorem dX11_wrong_4 : decode cX11_wrong 4 = .ok (.iload_n 2, 1) := by decide +kernel
theorem dX11_wrong_5 : decode cX11_wrong 5 = .ok (.bipush 10, 2) := by decide +kernel
theorem dX11_wrong_7 : decode cX11_wrong 7 = .ok (.if_icmp .ge 32, 3) := by decide +kernel
theorem dX11_wrong_10 : decode cX11_wrong 10 = .ok (.iload_n 1, 1) := by decide +kernel
theorem dX11_wrong_11 : decode cX11_wrong 11 = .ok (.aload_n 0, 1) := by decide +kernel
theorem dX11_wrong_12 : decode cX11_wrong 12 = .ok (.iload_n 2, 1) := by decide +kernel
theorem dX11_wrong_13 : decode cX11_wrong 13 = .ok (.invokevirtual 173, 3) := by decide +kernel
theorem dX11_wrong_16 : decode cX11_wrong 16 = .ok (.aload_n 0, 1) := by decide +kernel
theorem dX11_wrong_17 : decode cX11_wrong 17 = .ok (.iload_n 2, 1) := by decide +kernel
theorem dX11_wrong_18 : decode cX11_wrong 18 = .ok (.invokevirtual 170, 3) := by decide +kernel
theorem dX11_wrong_21 : decode cX11_wrong 21 = .ok (.if_icmp .eq 9, 3) := by decide +kernel
theorem dX11_wrong_24 : decode cX11_wrong 24 = .ok (.iconst 1, 1) := by decide +kernel
theorem dX11_wrong_25 : decode cX11_wrong 25 = .ok (.iload_n 2, 1) := by decide +kernel
theorem dX11_wrong_26 : decode cX11_wrong 26 = .ok (.ishl, 1) := by decide +kernel
theorem dX11_wrong_27 : decode cX11_wrong 27 = .ok (.goto 4, 3) := by decide +kernel
theorem dX11_wrong_30 : decode cX11_wrong 30 = .ok (.iconst 0, 1) := by decide +kernel
theorem dX11_wrong_31 : decode cX11_wrong 31 = .ok (.ior, 1) := by decide +kernel
theorem dX11_wrong_32 : decode cX11_wrong 32 = .ok (.istore_n 1, 1) := by decide +kernel
theorem dX11_wrong_33 : decode cX11_wrong 33 = .ok (.iinc 2 1, 3) := by decide +kernel
theorem dX11_wrong_36 : decode cX11_wrong 36 = .ok (.goto (-32), 3) := by decide +kernel
theorem dX11_wrong_39 : decode cX11_wrong 39 = .ok (.iload_n 1, 1) := by decide +kernel
theorem dX11_wrong_40 : decode cX11_wrong 40 = .ok (.ireturn, 1) := by decide +kernel
theorem dX11_carries_0 : decode cX11_carries 0 = .ok (.iload_n 1, 1) := by decide +kernel
theorem dX11_carries_1 : decode cX11_carries 1 = .ok (.invokestatic 151, 3) := by decide +kernel
theorem dX11_carries_4 : decode cX11_carries 4 = .ok (.ifCond .ne 5, 3) := by decide +kernel
theorem dX11_carries_7 : decode cX11_carries 7 = .ok (.iconst (-1), 1) := by decide +kernel
theorem dX11_carries_8 : decode cX11_carries 8 = .ok (.ireturn, 1) := by decide +kernel
theorem dX11_carries_9 : decode cX11_carries 9 = .ok (.iconst 0, 1) := by decide +kernel
theorem dX11_carries_10 : decode cX11_carries 10 = .ok (.istore_n 2, 1) := by decide +kernel
theorem dX11_carries_11 : decode cX11_carries 11 = .ok (.iconst 0, 1) := by decide +kernel
theorem dX11_carries_12 : decode cX11_carries 12 = .ok (.istore_n 3, 1) := by decide +kernel
theorem dX11_carries_13 : decode cX11_carries 13 = .ok (.iconst 0, 1) := by decide +kernel
theorem dX11_carries_14 : decode cX11_carries 14 = .ok (.istore 4, 2) := by decide +kernel
theorem dX11_carries_16 : decode cX11_carries 16 = .ok (.aload_n 0, 1) := by decide +kernel
theorem dX11_carries_17 : decode cX11_carries 17 = .ok (.getfield 7, 3) := by decide +kernel
theorem dX11_carries_20 : decode cX11_carries 20 = .ok (.iconst 1, 1) := by decide +kernel
theorem dX11_carries_21 : decode cX11_carries 21 = .ok (.iaload, 1) := by decide +kernel
theorem dX11_carries_22 : decode cX11_carries 22 = .ok (.iconst 1, 1) := by decide +kernel
theorem dX11_carries_23 : decode cX11_carries 23 = .ok (.isub, 1) := by decide +kernel
theorem dX11_carries_24 : decode cX11_carries 24 = .ok (.istore 5, 2) := by decide +kernel
theorem dX11_carries_26 : decode cX11_carries 26 = .ok (.iload 5, 2) := by decide +kernel
theorem dX11_carries_28 : decode cX11_carries 28 = .ok (.ifCond .lt 62, 3) := by decide +kernel
theorem dX11_carries_31 : decode cX11_carries 31 = .ok (.aload_n 0, 1) := by decide +kernel
theorem dX11_carries_32 : decode cX11_carries 32 = .ok (.aload_n 0, 1) := by decide +kernel
theorem dX11_carries_33 : decode cX11_carries 33 = .ok (.getfield 7, 3) := by decide +kernel
theorem dX11_carries_36 : decode cX11_carries 36 = .ok (.iconst 3, 1) := by decide +kernel
theorem dX11_carries_37 : decode cX11_carries 37 = .ok (.iload 5, 2) := by decide +kernel
theorem dX11_carries_39 : decode cX11_carries 39 = .ok (.iadd, 1) := by decide +kernel
theorem dX11_carries_40 : decode cX11_carries 40 = .ok (.iaload, 1) := by decide +kernel
theorem dX11_carries_41 : decode cX11_carries 41 = .ok (.iload_n 1, 1) := by decide +kernel
theorem dX11_carries_42 : decode cX11_carries 42 = .ok (.invokevirtual 142, 3) := by decide +kernel
theorem dX11_carries_45 : decode cX11_carries 45 = .ok (.iload_n 2, 1) := by decide +kernel
theorem dX11_carries_46 : decode cX11_carries 46 = .ok (.iadd, 1) := by decide +kernel
theorem dX11_carries_47 : decode cX11_carries 47 = .ok (.istore 6, 2) := by decide +kernel
theorem dX11_carries_49 : decode cX11_carries 49 = .ok (.iload 6, 2) := by decide +kernel
theorem dX11_carries_51 : decode cX11_carries 51 = .ok (.bipush 10, 2) := by decide +kernel
theorem dX11_carries_53 : decode cX11_carries 53 = .ok (.idiv, 1) := by decide +kernel
theorem dX11_carries_54 : decode cX11_carries 54 = .ok (.istore_n 2, 1) := by decide +kernel
theorem dX11_carries_55 : decode cX11_carries 55 = .ok (.iload_n 3, 1) := by decide +kernel
theorem dX11_carries_56 : decode cX11_carries 56 = .ok (.iload 6, 2) := by decide +kernel
theorem dX11_carries_58 : decode cX11_carries 58 = .ok (.bipush 10, 2) := by decide +kernel
theorem dX11_carries_60 : decode cX11_carries 60 = .ok (.if_icmp .lt 7, 3) := by decide +kernel
theorem dX11_carries_63 : decode cX11_carries 63 = .ok (.iconst 1, 1) := by decide +kernel
theorem dX11_carries_64 : decode cX11_carries 64 = .ok (.goto 4, 3) := by decide +kernel
theorem dX11_carries_67 : decode cX11_carries 67 = .ok (.iconst 0, 1) := by decide +kernel
theorem dX11_carries_68 : decode cX11_carries 68 = .ok (.iadd, 1) := by decide +kernel
theorem dX11_carries_69 : decode cX11_carries 69 = .ok (.istore_n 3, 1) := by decide +kernel
theorem dX11_carries_70 : decode cX11_carries 70 = .ok (.iload_n 2, 1) := by decide +kernel
theorem dX11_carries_71 : decode cX11_carries 71 = .ok (.iload 4, 2) := by decide +kernel
theorem dX11_carries_73 : decode cX11_carries 73 = .ok (.if_icmp .le 7, 3) := by decide +kernel
theorem dX11_carries_76 : decode cX11_carries 76 = .ok (.iload_n 2, 1) := by decide +kernel
theorem dX11_carries_77 : decode cX11_carries 77 = .ok (.goto 5, 3) := by decide +kernel
theorem dX11_carries_80 : decode cX11_carries 80 = .ok (.iload 4, 2) := by decide +kernel
theorem dX11_carries_82 : decode cX11_carries 82 = .ok (.istore 4, 2) := by decide +kernel
theorem dX11_carries_84 : decode cX11_carries 84 = .ok (.iinc 5 (-1), 3) := by decide +kernel
theorem dX11_carries_87 : decode cX11_carries 87 = .ok (.goto (-61), 3) := by decide +kernel
theorem dX11_carries_90 : decode cX11_carries 90 = .ok (.aload_n 0, 1) := by decide +kernel
theorem dX11_carries_91 : decode cX11_carries 91 = .ok (.iload 4, 2) := by decide +kernel
theorem dX11_carries_93 : decode cX11_carries 93 = .ok (.putfield 60, 3) := by decide +kernel
theorem dX11_carries_96 : decode cX11_carries 96 = .ok (.iload_n 3, 1) := by decide +kernel
theorem dX11_carries_97 : decode cX11_carries 97 = .ok (.ireturn, 1) := by decide +kernel
theorem dX11_goesNext_0 : decode cX11_goesNext 0 = .ok (.iload_n 3, 1) := by decide +kernel
theorem dX11_goesNext_1 : decode cX11_goesNext 1 = .ok (.ifCond .eq 28, 3) := by decide +kernel
theorem dX11_goesNext_4 : decode cX11_goesNext 4 = .ok (.aload_n 0, 1) := by decide +kernel
theorem dX11_goesNext_5 : decode cX11_goesNext 5 = .ok (.iconst 0, 1) := by decide +kernel
theorem dX11_goesNext_6 : decode cX11_goesNext 6 = .ok (.putfield 176, 3) := by decide +kernel
theorem dX11_goesNext_9 : decode cX11_goesNext 9 = .ok (.aload_n 0, 1) := by decide +kernel
theorem dX11_goesNext_10 : decode cX11_goesNext 10 = .ok (.getfield 38, 3) := by decide +kernel
theorem dX11_goesNext_13 : decode cX11_goesNext 13 = .ok (.iconst 0, 1) := by decide +kernel
theorem dX11_goesNext_14 : decode cX11_goesNext 14 = .ok (.iconst (-1), 1) := by decide +kernel
theorem dX11_goesNext_15 : decode cX11_goesNext 15 = .ok (.iastore, 1) := by decide +kernel
theorem dX11_goesNext_16 : decode cX11_goesNext 16 = .ok (.aload_n 0, 1) := by decide +kernel
theorem dX11_goesNext_17 : decode cX11_goesNext 17 = .ok (.getfield 41, 3) := by decide +kernel
theorem dX11_goesNext_20 : decode cX11_goesNext 20 = .ok (.iconst 0, 1) := by decide +kernel
theorem dX11_goesNext_21 : decode cX11_goesNext 21 = .ok (.iconst 0, 1) := by decide +kernel
theorem dX11_goesNext_22 : decode cX11_goesNext 22 = .ok (.iastore, 1) := by decide +kernel
theorem dX11_goesNext_23 : decode cX11_goesNext 23 = .ok (.iload_n 1, 1) := by decide +kernel
theorem dX11_goesNext_24 : decode cX11_goesNext 24 = .ok (.ifCond .ne 12, 3) := by decide +kernel
theorem dX11_goesNext_27 : decode cX11_goesNext 27 = .ok (.iconst 1, 1) := by decide +kernel
theorem dX11_goesNext_28 : decode cX11_goesNext 28 = .ok (.ireturn, 1) := by decide +kernel
theorem dX11_goesNext_29 : decode cX11_goesNext 29 = .ok (.aload_n 0, 1) := by decide +kernel
theorem dX11_goesNext_30 : decode cX11_goesNext 30 = .ok (.iload_n 1, 1) := by decide +kernel
theorem dX11_goesNext_31 : decode cX11_goesNext 31 = .ok (.iconst 1, 1) := by decide +kernel
theorem dX11_goesNext_32 : decode cX11_goesNext 32 = .ok (.isub, 1) := by decide +kernel
theorem dX11_goesNext_33 : decode cX11_goesNext 33 = .ok (.putfield 176, 3) := by decide +kernel
theorem dX11_goesNext_36 : decode cX11_goesNext 36 = .ok (.aload_n 0, 1) := by decide +kernel
theorem dX11_goesNext_37 : decode cX11_goesNext 37 = .ok (.getfield 176, 3) := by decide +kernel
theorem dX11_goesNext_40 : decode cX11_goesNext 40 = .ok (.ifCond .lt 177, 3) := by decide +kernel
theorem dX11_goesNext_43 : decode cX11_goesNext 43 = .ok (.iconst 0, 1) := by decide +kernel
theorem dX11_goesNext_44 : decode cX11_goesNext 44 = .ok (.istore 4, 2) := by decide +kernel
theorem dX11_goesNext_46 : decode cX11_goesNext 46 = .ok (.iconst 0, 1) := by decide +kernel
theorem dX11_goesNext_47 : decode cX11_goesNext 47 = .ok (.istore 5, 2) := by decide +kernel
theorem dX11_goesNext_49 : decode cX11_goesNext 49 = .ok (.iload 5, 2) := by decide +kernel
theorem dX11_goesNext_51 : decode cX11_goesNext 51 = .ok (.aload_n 0, 1) := by decide +kernel
theorem dX11_goesNext_52 : decode cX11_goesNext 52 = .ok (.getfield 176, 3) := by decide +kernel
theorem dX11_goesNext_55 : decode cX11_goesNext 55 = .ok (.if_icmp .ge 23, 3) := by decide +kernel
theorem dX11_goesNext_58 : decode cX11_goesNext 58 = .ok (.iload 4, 2) := by decide +kernel
theorem dX11_goesNext_60 : decode cX11_goesNext 60 = .ok (.iconst 1, 1) := by decide +kernel
theorem dX11_goesNext_61 : decode cX11_goesNext 61 = .ok (.aload_n 0, 1) := by decide +kernel
theorem dX11_goesNext_62 : decode cX11_goesNext 62 = .ok (.getfield 38, 3) := by decide +kernel
theorem dX11_goesNext_65 : decode cX11_goesNext 65 = .ok (.iload 5, 2) := by decide +kernel
theorem dX11_goesNext_67 : decode cX11_goesNext 67 = .ok (.iaload, 1) := by decide +kernel
theorem dX11_goesNext_68 : decode cX11_goesNext 68 = .ok (.ishl, 1) := by decide +kernel
theorem dX11_goesNext_69 : decode cX11_goesNext 69 = .ok (.ior, 1) := by decide +kernel
theorem dX11_goesNext_70 : decode cX11_goesNext 70 = .ok (.istore 4, 2) := by decide +kernel
theorem dX11_goesNext_72 : decode cX11_goesNext 72 = .ok (.iinc 5 1, 3) := by decide +kernel
theorem dX11_goesNext_75 : decode cX11_goesNext 75 = .ok (.goto (-26), 3) := by decide +kernel
theorem dX11_goesNext_78 : decode cX11_goesNext 78 = .ok (.aload_n 0, 1) := by decide +kernel
theorem dX11_goesNext_79 : decode cX11_goesNext 79 = .ok (.getfield 38, 3) := by decide +kernel
theorem dX11_goesNext_82 : decode cX11_goesNext 82 = .ok (.aload_n 0, 1) := by decide +kernel
theorem dX11_goesNext_83 : decode cX11_goesNext 83 = .ok (.getfield 176, 3) := by decide +kernel
theorem dX11_goesNext_86 : decode cX11_goesNext 86 = .ok (.iaload, 1) := by decide +kernel
theorem dX11_goesNext_87 : decode cX11_goesNext 87 = .ok (.iconst 1, 1) := by decide +kernel
theorem dX11_goesNext_88 : decode cX11_goesNext 88 = .ok (.iadd, 1) := by decide +kernel
theorem dX11_goesNext_89 : decode cX11_goesNext 89 = .ok (.istore 5, 2) := by decide +kernel
theorem dX11_goesNext_91 : decode cX11_goesNext 91 = .ok (.iload 5, 2) := by decide +kernel
theorem dX11_goesNext_93 : decode cX11_goesNext 93 = .ok (.aload_n 0, 1) := by decide +kernel
theorem dX11_goesNext_94 : decode cX11_goesNext 94 = .ok (.getfield 7, 3) := by decide +kernel
theorem dX11_goesNext_97 : decode cX11_goesNext 97 = .ok (.iconst 0, 1) := by decide +kernel
theorem dX11_goesNext_98 : decode cX11_goesNext 98 = .ok (.iaload, 1) := by decide +kernel
theorem dX11_goesNext_99 : decode cX11_goesNext 99 = .ok (.if_icmp .ge 19, 3) := by decide +kernel
theorem dX11_goesNext_102 : decode cX11_goesNext 102 = .ok (.iload 4, 2) := by decide +kernel
theorem dX11_goesNext_104 : decode cX11_goesNext 104 = .ok (.iload 5, 2) := by decide +kernel
theorem dX11_goesNext_106 : decode cX11_goesNext 106 = .ok (.invokestatic 119, 3) := by decide +kernel
theorem dX11_goesNext_109 : decode cX11_goesNext 109 = .ok (.ifCond .eq 9, 3) := by decide +kernel
theorem dX11_goesNext_112 : decode cX11_goesNext 112 = .ok (.iinc 5 1, 3) := by decide +kernel
theorem dX11_goesNext_115 : decode cX11_goesNext 115 = .ok (.goto (-24), 3) := by decide +kernel
theorem dX11_goesNext_118 : decode cX11_goesNext 118 = .ok (.aload_n 0, 1) := by decide +kernel
theorem dX11_goesNext_119 : decode cX11_goesNext 119 = .ok (.getfield 38, 3) := by decide +kernel
theorem dX11_goesNext_122 : decode cX11_goesNext 122 = .ok (.aload_n 0, 1) := by decide +kernel
theorem dX11_goesNext_123 : decode cX11_goesNext 123 = .ok (.getfield 176, 3) := by decide +kernel
theorem dX11_goesNext_126 : decode cX11_goesNext 126 = .ok (.iload 5, 2) := by decide +kernel
theorem dX11_goesNext_128 : decode cX11_goesNext 128 = .ok (.iastore, 1) := by decide +kernel
theorem dX11_goesNext_129 : decode cX11_goesNext 129 = .ok (.iload 5, 2) := by decide +kernel
theorem dX11_goesNext_131 : decode cX11_goesNext 131 = .ok (.aload_n 0, 1) := by decide +kernel
theorem dX11_goesNext_132 : decode cX11_goesNext 132 = .ok (.getfield 7, 3) := by decide +kernel
theorem dX11_goesNext_135 : decode cX11_goesNext 135 = .ok (.iconst 0, 1) := by decide +kernel
theorem dX11_goesNext_136 : decode cX11_goesNext 136 = .ok (.iaload, 1) := by decide +kernel
theorem dX11_goesNext_137 : decode cX11_goesNext 137 = .ok (.if_icmp .ne 16, 3) := by decide +kernel
theorem dX11_goesNext_140 : decode cX11_goesNext 140 = .ok (.aload_n 0, 1) := by decide +kernel
theorem dX11_goesNext_141 : decode cX11_goesNext 141 = .ok (.dup, 1) := by decide +kernel
theorem dX11_goesNext_142 : decode cX11_goesNext 142 = .ok (.getfield 176, 3) := by decide +kernel
theorem dX11_goesNext_145 : decode cX11_goesNext 145 = .ok (.iconst 1, 1) := by decide +kernel
theorem dX11_goesNext_146 : decode cX11_goesNext 146 = .ok (.isub, 1) := by decide +kernel
theorem dX11_goesNext_147 : decode cX11_goesNext 147 = .ok (.putfield 176, 3) := by decide +kernel
theorem dX11_goesNext_150 : decode cX11_goesNext 150 = .ok (.goto 64, 3) := by decide +kernel
theorem dX11_goesNext_153 : decode cX11_goesNext 153 = .ok (.aload_n 0, 1) := by decide +kernel
theorem dX11_goesNext_154 : decode cX11_goesNext 154 = .ok (.getfield 41, 3) := by decide +kernel
theorem dX11_goesNext_157 : decode cX11_goesNext 157 = .ok (.aload_n 0, 1) := by decide +kernel
theorem dX11_goesNext_158 : decode cX11_goesNext 158 = .ok (.getfield 176, 3) := by decide +kernel
theorem dX11_goesNext_161 : decode cX11_goesNext 161 = .ok (.iconst 1, 1) := by decide +kernel
theorem dX11_goesNext_162 : decode cX11_goesNext 162 = .ok (.iadd, 1) := by decide +kernel
theorem dX11_goesNext_163 : decode cX11_goesNext 163 = .ok (.bipush 10, 2) := by decide +kernel
theorem dX11_goesNext_165 : decode cX11_goesNext 165 = .ok (.aload_n 0, 1) := by decide +kernel
theorem dX11_goesNext_166 : decode cX11_goesNext 166 = .ok (.getfield 41, 3) := by decide +kernel
theorem dX11_goesNext_169 : decode cX11_goesNext 169 = .ok (.aload_n 0, 1) := by decide +kernel
theorem dX11_goesNext_170 : decode cX11_goesNext 170 = .ok (.getfield 176, 3) := by decide +kernel
theorem dX11_goesNext_173 : decode cX11_goesNext 173 = .ok (.iaload, 1) := by decide +kernel
theorem dX11_goesNext_174 : decode cX11_goesNext 174 = .ok (.imul, 1) := by decide +kernel
theorem dX11_goesNext_175 : decode cX11_goesNext 175 = .ok (.aload_n 0, 1) := by decide +kernel
theorem dX11_goesNext_176 : decode cX11_goesNext 176 = .ok (.iload 5, 2) := by decide +kernel
theorem dX11_goesNext_178 : decode cX11_goesNext 178 = .ok (.iload_n 2, 1) := by decide +kernel
theorem dX11_goesNext_179 : decode cX11_goesNext 179 = .ok (.invokevirtual 142, 3) := by decide +kernel
theorem dX11_goesNext_182 : decode cX11_goesNext 182 = .ok (.iadd, 1) := by decide +kernel
theorem dX11_goesNext_183 : decode cX11_goesNext 183 = .ok (.iastore, 1) := by decide +kernel
theorem dX11_goesNext_184 : decode cX11_goesNext 184 = .ok (.aload_n 0, 1) := by decide +kernel
theorem dX11_goesNext_185 : decode cX11_goesNext 185 = .ok (.dup, 1) := by decide +kernel
theorem dX11_goesNext_186 : decode cX11_goesNext 186 = .ok (.getfield 176, 3) := by decide +kernel
theorem dX11_goesNext_189 : decode cX11_goesNext 189 = .ok (.iconst 1, 1) := by decide +kernel
theorem dX11_goesNext_190 : decode cX11_goesNext 190 = .ok (.iadd, 1) := by decide +kernel
theorem dX11_goesNext_191 : decode cX11_goesNext 191 = .ok (.putfield 176, 3) := by decide +kernel
theorem dX11_goesNext_194 : decode cX11_goesNext 194 = .ok (.aload_n 0, 1) := by decide +kernel
theorem dX11_goesNext_195 : decode cX11_goesNext 195 = .ok (.getfield 176, 3) := by decide +kernel
theorem dX11_goesNext_198 : decode cX11_goesNext 198 = .ok (.iload_n 1, 1) := by decide +kernel
theorem dX11_goesNext_199 : decode cX11_goesNext 199 = .ok (.if_icmp .ne 5, 3) := by decide +kernel
theorem dX11_goesNext_202 : decode cX11_goesNext 202 = .ok (.iconst 1, 1) := by decide +kernel
theorem dX11_goesNext_203 : decode cX11_goesNext 203 = .ok (.ireturn, 1) := by decide +kernel
theorem dX11_goesNext_204 : decode cX11_goesNext 204 = .ok (.aload_n 0, 1) := by decide +kernel
theorem dX11_goesNext_205 : decode cX11_goesNext 205 = .ok (.getfield 38, 3) := by decide +kernel
theorem dX11_goesNext_208 : decode cX11_goesNext 208 = .ok (.aload_n 0, 1) := by decide +kernel
theorem dX11_goesNext_209 : decode cX11_goesNext 209 = .ok (.getfield 176, 3) := by decide +kernel
theorem dX11_goesNext_212 : decode cX11_goesNext 212 = .ok (.iconst (-1), 1) := by decide +kernel
theorem dX11_goesNext_213 : decode cX11_goesNext 213 = .ok (.iastore, 1) := by decide +kernel
theorem dX11_goesNext_214 : decode cX11_goesNext 214 = .ok (.goto (-178), 3) := by decide +kernel
theorem dX11_goesNext_217 : decode cX11_goesNext 217 = .ok (.iconst 0, 1) := by decide +kernel
theorem dX11_goesNext_218 : decode cX11_goesNext 218 = .ok (.ireturn, 1) := by decide +kernel
theorem dX11_keeps_0 : decode cX11_keeps 0 = .ok (.iconst 0, 1) := by decide +kernel
theorem dX11_keeps_1 : decode cX11_keeps 1 = .ok (.istore_n 2, 1) := by decide +kernel
theorem dX11_keeps_2 : decode cX11_keeps 2 = .ok (.iload_n 2, 1) := by decide +kernel
theorem dX11_keeps_3 : decode cX11_keeps 3 = .ok (.iload_n 1, 1) := by decide +kernel
theorem dX11_keeps_4 : decode cX11_keeps 4 = .ok (.if_icmp .ge 21, 3) := by decide +kernel
theorem dX11_keeps_7 : decode cX11_keeps 7 = .ok (.aload_n 0, 1) := by decide +kernel
theorem dX11_keeps_8 : decode cX11_keeps 8 = .ok (.getfield 44, 3) := by decide +kernel
theorem dX11_keeps_11 : decode cX11_keeps 11 = .ok (.iload_n 2, 1) := by decide +kernel
theorem dX11_keeps_12 : decode cX11_keeps 12 = .ok (.aload_n 0, 1) := by decide +kernel
theorem dX11_keeps_13 : decode cX11_keeps 13 = .ok (.getfield 38, 3) := by decide +kernel
theorem dX11_keeps_16 : decode cX11_keeps 16 = .ok (.iload_n 2, 1) := by decide +kernel
theorem dX11_keeps_17 : decode cX11_keeps 17 = .ok (.iaload, 1) := by decide +kernel
theorem dX11_keeps_18 : decode cX11_keeps 18 = .ok (.iastore, 1) := by decide +kernel
theorem dX11_keeps_19 : decode cX11_keeps 19 = .ok (.iinc 2 1, 3) := by decide +kernel
theorem dX11_keeps_22 : decode cX11_keeps 22 = .ok (.goto (-20), 3) := by decide +kernel
theorem dX11_keeps_25 : decode cX11_keeps 25 = .ok (.return_, 1) := by decide +kernel
theorem dX11_laysBest_0 : decode cX11_laysBest 0 = .ok (.aload_n 0, 1) := by decide +kernel
theorem dX11_laysBest_1 : decode cX11_laysBest 1 = .ok (.getfield 13, 3) := by decide +kernel
theorem dX11_laysBest_4 : decode cX11_laysBest 4 = .ok (.iload_n 2, 1) := by decide +kernel
theorem dX11_laysBest_5 : decode cX11_laysBest 5 = .ok (.iload_n 1, 1) := by decide +kernel
theorem dX11_laysBest_6 : decode cX11_laysBest 6 = .ok (.iastore, 1) := by decide +kernel
theorem dX11_laysBest_7 : decode cX11_laysBest 7 = .ok (.iconst 0, 1) := by decide +kernel
theorem dX11_laysBest_8 : decode cX11_laysBest 8 = .ok (.istore_n 3, 1) := by decide +kernel
theorem dX11_laysBest_9 : decode cX11_laysBest 9 = .ok (.iload_n 3, 1) := by decide +kernel
theorem dX11_laysBest_10 : decode cX11_laysBest 10 = .ok (.bipush 40, 2) := by decide +kernel
theorem dX11_laysBest_12 : decode cX11_laysBest 12 = .ok (.if_icmp .ge 35, 3) := by decide +kernel
theorem dX11_laysBest_15 : decode cX11_laysBest 15 = .ok (.aload_n 0, 1) := by decide +kernel
theorem dX11_laysBest_16 : decode cX11_laysBest 16 = .ok (.getfield 16, 3) := by decide +kernel
theorem dX11_laysBest_19 : decode cX11_laysBest 19 = .ok (.bipush 40, 2) := by decide +kernel
theorem dX11_laysBest_21 : decode cX11_laysBest 21 = .ok (.iload_n 2, 1) := by decide +kernel
theorem dX11_laysBest_22 : decode cX11_laysBest 22 = .ok (.imul, 1) := by decide +kernel
theorem dX11_laysBest_23 : decode cX11_laysBest 23 = .ok (.iload_n 3, 1) := by decide +kernel
theorem dX11_laysBest_24 : decode cX11_laysBest 24 = .ok (.iadd, 1) := by decide +kernel
theorem dX11_laysBest_25 : decode cX11_laysBest 25 = .ok (.iload_n 3, 1) := by decide +kernel
theorem dX11_laysBest_26 : decode cX11_laysBest 26 = .ok (.iload_n 1, 1) := by decide +kernel
theorem dX11_laysBest_27 : decode cX11_laysBest 27 = .ok (.if_icmp .ge 12, 3) := by decide +kernel
theorem dX11_laysBest_30 : decode cX11_laysBest 30 = .ok (.aload_n 0, 1) := by decide +kernel
theorem dX11_laysBest_31 : decode cX11_laysBest 31 = .ok (.getfield 44, 3) := by decide +kernel
theorem dX11_laysBest_34 : decode cX11_laysBest 34 = .ok (.iload_n 3, 1) := by decide +kernel
theorem dX11_laysBest_35 : decode cX11_laysBest 35 = .ok (.iaload, 1) := by decide +kernel
theorem dX11_laysBest_36 : decode cX11_laysBest 36 = .ok (.goto 4, 3) := by decide +kernel
theorem dX11_laysBest_39 : decode cX11_laysBest 39 = .ok (.iconst 0, 1) := by decide +kernel
theorem dX11_laysBest_40 : decode cX11_laysBest 40 = .ok (.iastore, 1) := by decide +kernel
theorem dX11_laysBest_41 : decode cX11_laysBest 41 = .ok (.iinc 3 1, 3) := by decide +kernel
theorem dX11_laysBest_44 : decode cX11_laysBest 44 = .ok (.goto (-35), 3) := by decide +kernel
theorem dX11_laysBest_47 : decode cX11_laysBest 47 = .ok (.return_, 1) := by decide +kernel
theorem dX11_makes_0 : decode cX11_makes 0 = .ok (.iload_n 1, 1) := by decide +kernel
theorem dX11_makes_1 : decode cX11_makes 1 = .ok (.i2l, 1) := by decide +kernel
theorem dX11_makes_2 : decode cX11_makes 2 = .ok (.lconst 0, 1) := by decide +kernel
theorem dX11_makes_3 : decode cX11_makes 3 = .ok (.ldc2_w 179, 3) := by decide +kernel
theorem dX11_makes_6 : decode cX11_makes 6 = .ok (.invokestatic 68, 3) := by decide +kernel
theorem dX11_makes_9 : decode cX11_makes 9 = .ok (.ifCond .eq 17, 3) := by decide +kernel
theorem dX11_makes_12 : decode cX11_makes 12 = .ok (.iload_n 2, 1) := by decide +kernel
theorem dX11_makes_13 : decode cX11_makes 13 = .ok (.invokestatic 151, 3) := by decide +kernel
theorem dX11_makes_16 : decode cX11_makes 16 = .ok (.ifCond .eq 10, 3) := by decide +kernel
theorem dX11_makes_19 : decode cX11_makes 19 = .ok (.iload_n 3, 1) := by decide +kernel
theorem dX11_makes_20 : decode cX11_makes 20 = .ok (.invokestatic 76, 3) := by decide +kernel
theorem dX11_makes_23 : decode cX11_makes 23 = .ok (.ifCond .ne 5, 3) := by decide +kernel
theorem dX11_makes_26 : decode cX11_makes 26 = .ok (.iconst (-1), 1) := by decide +kernel
theorem dX11_makes_27 : decode cX11_makes 27 = .ok (.ireturn, 1) := by decide +kernel
theorem dX11_makes_28 : decode cX11_makes 28 = .ok (.aload_n 0, 1) := by decide +kernel
theorem dX11_makes_29 : decode cX11_makes 29 = .ok (.getfield 7, 3) := by decide +kernel
theorem dX11_makes_32 : decode cX11_makes 32 = .ok (.iconst 0, 1) := by decide +kernel
theorem dX11_makes_33 : decode cX11_makes 33 = .ok (.iaload, 1) := by decide +kernel
theorem dX11_makes_34 : decode cX11_makes 34 = .ok (.ifCond .ne 6, 3) := by decide +kernel
theorem dX11_makes_37 : decode cX11_makes 37 = .ok (.bipush (-4), 2) := by decide +kernel
theorem dX11_makes_39 : decode cX11_makes 39 = .ok (.ireturn, 1) := by decide +kernel
theorem dX11_makes_40 : decode cX11_makes 40 = .ok (.iconst 0, 1) := by decide +kernel
theorem dX11_makes_41 : decode cX11_makes 41 = .ok (.istore 4, 2) := by decide +kernel
theorem dX11_makes_43 : decode cX11_makes 43 = .ok (.iload 4, 2) := by decide +kernel
theorem dX11_makes_45 : decode cX11_makes 45 = .ok (.aload_n 0, 1) := by decide +kernel
theorem dX11_makes_46 : decode cX11_makes 46 = .ok (.getfield 7, 3) := by decide +kernel
theorem dX11_makes_49 : decode cX11_makes 49 = .ok (.iconst 0, 1) := by decide +kernel
theorem dX11_makes_50 : decode cX11_makes 50 = .ok (.iaload, 1) := by decide +kernel
theorem dX11_makes_51 : decode cX11_makes 51 = .ok (.if_icmp .gt 77, 3) := by decide +kernel
theorem dX11_makes_54 : decode cX11_makes 54 = .ok (.aload_n 0, 1) := by decide +kernel
theorem dX11_makes_55 : decode cX11_makes 55 = .ok (.iload 4, 2) := by decide +kernel
theorem dX11_makes_57 : decode cX11_makes 57 = .ok (.iload_n 2, 1) := by decide +kernel
theorem dX11_makes_58 : decode cX11_makes 58 = .ok (.iconst 1, 1) := by decide +kernel
theorem dX11_makes_59 : decode cX11_makes 59 = .ok (.invokevirtual 181, 3) := by decide +kernel
theorem dX11_makes_62 : decode cX11_makes 62 = .ok (.istore 5, 2) := by decide +kernel
theorem dX11_makes_64 : decode cX11_makes 64 = .ok (.iload 5, 2) := by decide +kernel
theorem dX11_makes_66 : decode cX11_makes 66 = .ok (.ifCond .eq 56, 3) := by decide +kernel
theorem dX11_makes_69 : decode cX11_makes 69 = .ok (.aload_n 0, 1) := by decide +kernel
theorem dX11_makes_70 : decode cX11_makes 70 = .ok (.getfield 41, 3) := by decide +kernel
theorem dX11_makes_73 : decode cX11_makes 73 = .ok (.iload 4, 2) := by decide +kernel
theorem dX11_makes_75 : decode cX11_makes 75 = .ok (.iaload, 1) := by decide +kernel
theorem dX11_makes_76 : decode cX11_makes 76 = .ok (.iload_n 1, 1) := by decide +kernel
theorem dX11_makes_77 : decode cX11_makes 77 = .ok (.if_icmp .ne 19, 3) := by decide +kernel
theorem dX11_makes_80 : decode cX11_makes 80 = .ok (.aload_n 0, 1) := by decide +kernel
theorem dX11_makes_81 : decode cX11_makes 81 = .ok (.iload 4, 2) := by decide +kernel
theorem dX11_makes_83 : decode cX11_makes 83 = .ok (.invokevirtual 185, 3) := by decide +kernel
theorem dX11_makes_86 : decode cX11_makes 86 = .ok (.aload_n 0, 1) := by decide +kernel
theorem dX11_makes_87 : decode cX11_makes 87 = .ok (.iload 4, 2) := by decide +kernel
theorem dX11_makes_89 : decode cX11_makes 89 = .ok (.iload_n 3, 1) := by decide +kernel
theorem dX11_makes_90 : decode cX11_makes 90 = .ok (.invokevirtual 188, 3) := by decide +kernel
theorem dX11_makes_93 : decode cX11_makes 93 = .ok (.iload 4, 2) := by decide +kernel
theorem dX11_makes_95 : decode cX11_makes 95 = .ok (.ireturn, 1) := by decide +kernel
theorem dX11_makes_96 : decode cX11_makes 96 = .ok (.iload 4, 2) := by decide +kernel
theorem dX11_makes_98 : decode cX11_makes 98 = .ok (.ifCond .le 18, 3) := by decide +kernel
theorem dX11_makes_101 : decode cX11_makes 101 = .ok (.aload_n 0, 1) := by decide +kernel
theorem dX11_makes_102 : decode cX11_makes 102 = .ok (.iload 4, 2) := by decide +kernel
theorem dX11_makes_104 : decode cX11_makes 104 = .ok (.iload_n 2, 1) := by decide +kernel
theorem dX11_makes_105 : decode cX11_makes 105 = .ok (.iconst 0, 1) := by decide +kernel
theorem dX11_makes_106 : decode cX11_makes 106 = .ok (.invokevirtual 181, 3) := by decide +kernel
theorem dX11_makes_109 : decode cX11_makes 109 = .ok (.ifCond .eq 7, 3) := by decide +kernel
theorem dX11_makes_112 : decode cX11_makes 112 = .ok (.iconst 1, 1) := by decide +kernel
theorem dX11_makes_113 : decode cX11_makes 113 = .ok (.goto 4, 3) := by decide +kernel
theorem dX11_makes_116 : decode cX11_makes 116 = .ok (.iconst 0, 1) := by decide +kernel
theorem dX11_makes_117 : decode cX11_makes 117 = .ok (.istore 5, 2) := by decide +kernel
theorem dX11_makes_119 : decode cX11_makes 119 = .ok (.goto (-55), 3) := by decide +kernel
theorem dX11_makes_122 : decode cX11_makes 122 = .ok (.iinc 4 1, 3) := by decide +kernel
theorem dX11_makes_125 : decode cX11_makes 125 = .ok (.goto (-82), 3) := by decide +kernel
theorem dX11_makes_128 : decode cX11_makes 128 = .ok (.bipush (-9), 2) := by decide +kernel
theorem dX11_makes_130 : decode cX11_makes 130 = .ok (.ireturn, 1) := by decide +kernel
theorem dX11_most_0 : decode cX11_most 0 = .ok (.iload_n 2, 1) := by decide +kernel
theorem dX11_most_1 : decode cX11_most 1 = .ok (.invokestatic 151, 3) := by decide +kernel
theorem dX11_most_4 : decode cX11_most 4 = .ok (.ifCond .eq 10, 3) := by decide +kernel
theorem dX11_most_7 : decode cX11_most 7 = .ok (.iload_n 3, 1) := by decide +kernel
theorem dX11_most_8 : decode cX11_most 8 = .ok (.invokestatic 76, 3) := by decide +kernel
theorem dX11_most_11 : decode cX11_most 11 = .ok (.ifCond .ne 5, 3) := by decide +kernel
theorem dX11_most_14 : decode cX11_most 14 = .ok (.iconst (-1), 1) := by decide +kernel
theorem dX11_most_15 : decode cX11_most 15 = .ok (.ireturn, 1) := by decide +kernel
theorem dX11_most_16 : decode cX11_most 16 = .ok (.aload_n 0, 1) := by decide +kernel
theorem dX11_most_17 : decode cX11_most 17 = .ok (.getfield 7, 3) := by decide +kernel
theorem dX11_most_20 : decode cX11_most 20 = .ok (.iconst 0, 1) := by decide +kernel
theorem dX11_most_21 : decode cX11_most 21 = .ok (.iaload, 1) := by decide +kernel
theorem dX11_most_22 : decode cX11_most 22 = .ok (.ifCond .ne 6, 3) := by decide +kernel
theorem dX11_most_25 : decode cX11_most 25 = .ok (.bipush (-4), 2) := by decide +kernel
theorem dX11_most_27 : decode cX11_most 27 = .ok (.ireturn, 1) := by decide +kernel
theorem dX11_most_28 : decode cX11_most 28 = .ok (.iload_n 1, 1) := by decide +kernel
theorem dX11_most_29 : decode cX11_most 29 = .ok (.i2l, 1) := by decide +kernel
theorem dX11_most_30 : decode cX11_most 30 = .ok (.lconst 1, 1) := by decide +kernel
theorem dX11_most_31 : decode cX11_most 31 = .ok (.ldc2_w 66, 3) := by decide +kernel
theorem dX11_most_34 : decode cX11_most 34 = .ok (.invokestatic 68, 3) := by decide +kernel
theorem dX11_most_37 : decode cX11_most 37 = .ok (.ifCond .eq 13, 3) := by decide +kernel
theorem dX11_most_40 : decode cX11_most 40 = .ok (.iload_n 1, 1) := by decide +kernel
theorem dX11_most_41 : decode cX11_most 41 = .ok (.aload_n 0, 1) := by decide +kernel
theorem dX11_most_42 : decode cX11_most 42 = .ok (.getfield 7, 3) := by decide +kernel
theorem dX11_most_45 : decode cX11_most 45 = .ok (.iconst 0, 1) := by decide +kernel
theorem dX11_most_46 : decode cX11_most 46 = .ok (.iaload, 1) := by decide +kernel
theorem dX11_most_47 : decode cX11_most 47 = .ok (.if_icmp .le 5, 3) := by decide +kernel
theorem dX11_most_50 : decode cX11_most 50 = .ok (.iconst (-1), 1) := by decide +kernel
theorem dX11_most_51 : decode cX11_most 51 = .ok (.ireturn, 1) := by decide +kernel
theorem dX11_most_52 : decode cX11_most 52 = .ok (.iconst (-1), 1) := by decide +kernel
theorem dX11_most_53 : decode cX11_most 53 = .ok (.istore 4, 2) := by decide +kernel
theorem dX11_most_55 : decode cX11_most 55 = .ok (.aload_n 0, 1) := by decide +kernel
theorem dX11_most_56 : decode cX11_most 56 = .ok (.iload_n 1, 1) := by decide +kernel
theorem dX11_most_57 : decode cX11_most 57 = .ok (.iload_n 2, 1) := by decide +kernel
theorem dX11_most_58 : decode cX11_most 58 = .ok (.iconst 1, 1) := by decide +kernel
theorem dX11_most_59 : decode cX11_most 59 = .ok (.invokevirtual 181, 3) := by decide +kernel
theorem dX11_most_62 : decode cX11_most 62 = .ok (.istore 5, 2) := by decide +kernel
theorem dX11_most_64 : decode cX11_most 64 = .ok (.iload 5, 2) := by decide +kernel
theorem dX11_most_66 : decode cX11_most 66 = .ok (.ifCond .eq 39, 3) := by decide +kernel
theorem dX11_most_69 : decode cX11_most 69 = .ok (.aload_n 0, 1) := by decide +kernel
theorem dX11_most_70 : decode cX11_most 70 = .ok (.getfield 41, 3) := by decide +kernel
theorem dX11_most_73 : decode cX11_most 73 = .ok (.iload_n 1, 1) := by decide +kernel
theorem dX11_most_74 : decode cX11_most 74 = .ok (.iaload, 1) := by decide +kernel
theorem dX11_most_75 : decode cX11_most 75 = .ok (.iload 4, 2) := by decide +kernel
theorem dX11_most_77 : decode cX11_most 77 = .ok (.if_icmp .le 16, 3) := by decide +kernel
theorem dX11_most_80 : decode cX11_most 80 = .ok (.aload_n 0, 1) := by decide +kernel
theorem dX11_most_81 : decode cX11_most 81 = .ok (.getfield 41, 3) := by decide +kernel
theorem dX11_most_84 : decode cX11_most 84 = .ok (.iload_n 1, 1) := by decide +kernel
theorem dX11_most_85 : decode cX11_most 85 = .ok (.iaload, 1) := by decide +kernel
theorem dX11_most_86 : decode cX11_most 86 = .ok (.istore 4, 2) := by decide +kernel
theorem dX11_most_88 : decode cX11_most 88 = .ok (.aload_n 0, 1) := by decide +kernel
theorem dX11_most_89 : decode cX11_most 89 = .ok (.iload_n 1, 1) := by decide +kernel
theorem dX11_most_90 : decode cX11_most 90 = .ok (.invokevirtual 185, 3) := by decide +kernel
theorem dX11_most_93 : decode cX11_most 93 = .ok (.aload_n 0, 1) := by decide +kernel
theorem dX11_most_94 : decode cX11_most 94 = .ok (.iload_n 1, 1) := by decide +kernel
theorem dX11_most_95 : decode cX11_most 95 = .ok (.iload_n 2, 1) := by decide +kernel
theorem dX11_most_96 : decode cX11_most 96 = .ok (.iconst 0, 1) := by decide +kernel
theorem dX11_most_97 : decode cX11_most 97 = .ok (.invokevirtual 181, 3) := by decide +kernel
theorem dX11_most_100 : decode cX11_most 100 = .ok (.istore 5, 2) := by decide +kernel
theorem dX11_most_102 : decode cX11_most 102 = .ok (.goto (-38), 3) := by decide +kernel
theorem dX11_most_105 : decode cX11_most 105 = .ok (.aload_n 0, 1) := by decide +kernel
theorem dX11_most_106 : decode cX11_most 106 = .ok (.iload_n 1, 1) := by decide +kernel
theorem dX11_most_107 : decode cX11_most 107 = .ok (.iload_n 3, 1) := by decide +kernel
theorem dX11_most_108 : decode cX11_most 108 = .ok (.invokevirtual 188, 3) := by decide +kernel
theorem dX11_most_111 : decode cX11_most 111 = .ok (.iload 4, 2) := by decide +kernel
theorem dX11_most_113 : decode cX11_most 113 = .ok (.ireturn, 1) := by decide +kernel
theorem dX11_near_0 : decode cX11_near 0 = .ok (.iload_n 1, 1) := by decide +kernel
theorem dX11_near_1 : decode cX11_near 1 = .ok (.i2l, 1) := by decide +kernel
theorem dX11_near_2 : decode cX11_near 2 = .ok (.lconst 0, 1) := by decide +kernel
theorem dX11_near_3 : decode cX11_near 3 = .ok (.ldc2_w 191, 3) := by decide +kernel
theorem dX11_near_6 : decode cX11_near 6 = .ok (.invokestatic 68, 3) := by decide +kernel
theorem dX11_near_9 : decode cX11_near 9 = .ok (.ifCond .eq 10, 3) := by decide +kernel
theorem dX11_near_12 : decode cX11_near 12 = .ok (.iload_n 2, 1) := by decide +kernel
theorem dX11_near_13 : decode cX11_near 13 = .ok (.invokestatic 151, 3) := by decide +kernel
theorem dX11_near_16 : decode cX11_near 16 = .ok (.ifCond .ne 5, 3) := by decide +kernel
theorem dX11_near_19 : decode cX11_near 19 = .ok (.iconst (-1), 1) := by decide +kernel
theorem dX11_near_20 : decode cX11_near 20 = .ok (.ireturn, 1) := by decide +kernel
theorem dX11_near_21 : decode cX11_near 21 = .ok (.aload_n 0, 1) := by decide +kernel
theorem dX11_near_22 : decode cX11_near 22 = .ok (.getfield 7, 3) := by decide +kernel
theorem dX11_near_25 : decode cX11_near 25 = .ok (.iconst 0, 1) := by decide +kernel
theorem dX11_near_26 : decode cX11_near 26 = .ok (.iaload, 1) := by decide +kernel
theorem dX11_near_27 : decode cX11_near 27 = .ok (.ifCond .ne 6, 3) := by decide +kernel
theorem dX11_near_30 : decode cX11_near 30 = .ok (.bipush (-4), 2) := by decide +kernel
theorem dX11_near_32 : decode cX11_near 32 = .ok (.ireturn, 1) := by decide +kernel
theorem dX11_near_33 : decode cX11_near 33 = .ok (.aload_n 0, 1) := by decide +kernel
theorem dX11_near_34 : decode cX11_near 34 = .ok (.getfield 7, 3) := by decide +kernel
theorem dX11_near_37 : decode cX11_near 37 = .ok (.iconst 0, 1) := by decide +kernel
theorem dX11_near_38 : decode cX11_near 38 = .ok (.iaload, 1) := by decide +kernel
theorem dX11_near_39 : decode cX11_near 39 = .ok (.iconst 2, 1) := by decide +kernel
theorem dX11_near_40 : decode cX11_near 40 = .ok (.if_icmp .ne 7, 3) := by decide +kernel
theorem dX11_near_43 : decode cX11_near 43 = .ok (.iconst 2, 1) := by decide +kernel
theorem dX11_near_44 : decode cX11_near 44 = .ok (.goto 4, 3) := by decide +kernel
theorem dX11_near_47 : decode cX11_near 47 = .ok (.iconst 3, 1) := by decide +kernel
theorem dX11_near_48 : decode cX11_near 48 = .ok (.istore_n 3, 1) := by decide +kernel
theorem dX11_near_49 : decode cX11_near 49 = .ok (.ldc 193, 2) := by decide +kernel
theorem dX11_near_51 : decode cX11_near 51 = .ok (.istore 4, 2) := by decide +kernel
theorem dX11_near_53 : decode cX11_near 53 = .ok (.aload_n 0, 1) := by decide +kernel
theorem dX11_near_54 : decode cX11_near 54 = .ok (.iload_n 3, 1) := by decide +kernel
theorem dX11_near_55 : decode cX11_near 55 = .ok (.iload_n 2, 1) := by decide +kernel
theorem dX11_near_56 : decode cX11_near 56 = .ok (.iconst 1, 1) := by decide +kernel
theorem dX11_near_57 : decode cX11_near 57 = .ok (.invokevirtual 181, 3) := by decide +kernel
theorem dX11_near_60 : decode cX11_near 60 = .ok (.istore 5, 2) := by decide +kernel
theorem dX11_near_62 : decode cX11_near 62 = .ok (.iload 5, 2) := by decide +kernel
theorem dX11_near_64 : decode cX11_near 64 = .ok (.ifCond .eq 62, 3) := by decide +kernel
theorem dX11_near_67 : decode cX11_near 67 = .ok (.aload_n 0, 1) := by decide +kernel
theorem dX11_near_68 : decode cX11_near 68 = .ok (.getfield 41, 3) := by decide +kernel
theorem dX11_near_71 : decode cX11_near 71 = .ok (.iload_n 3, 1) := by decide +kernel
theorem dX11_near_72 : decode cX11_near 72 = .ok (.iaload, 1) := by decide +kernel
theorem dX11_near_73 : decode cX11_near 73 = .ok (.iload_n 1, 1) := by decide +kernel
theorem dX11_near_74 : decode cX11_near 74 = .ok (.if_icmp .le 14, 3) := by decide +kernel
theorem dX11_near_77 : decode cX11_near 77 = .ok (.aload_n 0, 1) := by decide +kernel
theorem dX11_near_78 : decode cX11_near 78 = .ok (.getfield 41, 3) := by decide +kernel
theorem dX11_near_81 : decode cX11_near 81 = .ok (.iload_n 3, 1) := by decide +kernel
theorem dX11_near_82 : decode cX11_near 82 = .ok (.iaload, 1) := by decide +kernel
theorem dX11_near_83 : decode cX11_near 83 = .ok (.iload_n 1, 1) := by decide +kernel
theorem dX11_near_84 : decode cX11_near 84 = .ok (.isub, 1) := by decide +kernel
theorem dX11_near_85 : decode cX11_near 85 = .ok (.goto 11, 3) := by decide +kernel
theorem dX11_near_88 : decode cX11_near 88 = .ok (.iload_n 1, 1) := by decide +kernel
theorem dX11_near_89 : decode cX11_near 89 = .ok (.aload_n 0, 1) := by decide +kernel
theorem dX11_near_90 : decode cX11_near 90 = .ok (.getfield 41, 3) := by decide +kernel
theorem dX11_near_93 : decode cX11_near 93 = .ok (.iload_n 3, 1) := by decide +kernel
theorem dX11_near_94 : decode cX11_near 94 = .ok (.iaload, 1) := by decide +kernel
theorem dX11_near_95 : decode cX11_near 95 = .ok (.isub, 1) := by decide +kernel
theorem dX11_near_96 : decode cX11_near 96 = .ok (.istore 6, 2) := by decide +kernel
theorem dX11_near_98 : decode cX11_near 98 = .ok (.iload 6, 2) := by decide +kernel
theorem dX11_near_100 : decode cX11_near 100 = .ok (.iload 4, 2) := by decide +kernel
theorem dX11_near_102 : decode cX11_near 102 = .ok (.if_icmp .ge 12, 3) := by decide +kernel
theorem dX11_near_105 : decode cX11_near 105 = .ok (.iload 6, 2) := by decide +kernel
theorem dX11_near_107 : decode cX11_near 107 = .ok (.istore 4, 2) := by decide +kernel
theorem dX11_near_109 : decode cX11_near 109 = .ok (.aload_n 0, 1) := by decide +kernel
theorem dX11_near_110 : decode cX11_near 110 = .ok (.iload_n 3, 1) := by decide +kernel
theorem dX11_near_111 : decode cX11_near 111 = .ok (.invokevirtual 185, 3) := by decide +kernel
theorem dX11_near_114 : decode cX11_near 114 = .ok (.aload_n 0, 1) := by decide +kernel
theorem dX11_near_115 : decode cX11_near 115 = .ok (.iload_n 3, 1) := by decide +kernel
theorem dX11_near_116 : decode cX11_near 116 = .ok (.iload_n 2, 1) := by decide +kernel
theorem dX11_near_117 : decode cX11_near 117 = .ok (.iconst 0, 1) := by decide +kernel
theorem dX11_near_118 : decode cX11_near 118 = .ok (.invokevirtual 181, 3) := by decide +kernel
theorem dX11_near_121 : decode cX11_near 121 = .ok (.istore 5, 2) := by decide +kernel
theorem dX11_near_123 : decode cX11_near 123 = .ok (.goto (-61), 3) := by decide +kernel
theorem dX11_near_126 : decode cX11_near 126 = .ok (.iconst 0, 1) := by decide +kernel
theorem dX11_near_127 : decode cX11_near 127 = .ok (.istore 6, 2) := by decide +kernel
theorem dX11_near_129 : decode cX11_near 129 = .ok (.iconst 0, 1) := by decide +kernel
theorem dX11_near_130 : decode cX11_near 130 = .ok (.istore 7, 2) := by decide +kernel
theorem dX11_near_132 : decode cX11_near 132 = .ok (.iload 7, 2) := by decide +kernel
theorem dX11_near_134 : decode cX11_near 134 = .ok (.iload_n 3, 1) := by decide +kernel
theorem dX11_near_135 : decode cX11_near 135 = .ok (.if_icmp .ge 24, 3) := by decide +kernel
theorem dX11_near_138 : decode cX11_near 138 = .ok (.bipush 10, 2) := by decide +kernel
theorem dX11_near_140 : decode cX11_near 140 = .ok (.iload 6, 2) := by decide +kernel
theorem dX11_near_142 : decode cX11_near 142 = .ok (.imul, 1) := by decide +kernel
theorem dX11_near_143 : decode cX11_near 143 = .ok (.aload_n 0, 1) := by decide +kernel
theorem dX11_near_144 : decode cX11_near 144 = .ok (.getfield 44, 3) := by decide +kernel
theorem dX11_near_147 : decode cX11_near 147 = .ok (.iload 7, 2) := by decide +kernel
theorem dX11_near_149 : decode cX11_near 149 = .ok (.iaload, 1) := by decide +kernel
theorem dX11_near_150 : decode cX11_near 150 = .ok (.iadd, 1) := by decide +kernel
theorem dX11_near_151 : decode cX11_near 151 = .ok (.istore 6, 2) := by decide +kernel
theorem dX11_near_153 : decode cX11_near 153 = .ok (.iinc 7 1, 3) := by decide +kernel
theorem dX11_near_156 : decode cX11_near 156 = .ok (.goto (-24), 3) := by decide +kernel
theorem dX11_near_159 : decode cX11_near 159 = .ok (.aload_n 0, 1) := by decide +kernel
theorem dX11_near_160 : decode cX11_near 160 = .ok (.iload 6, 2) := by decide +kernel
theorem dX11_near_162 : decode cX11_near 162 = .ok (.putfield 60, 3) := by decide +kernel
theorem dX11_near_165 : decode cX11_near 165 = .ok (.iload 4, 2) := by decide +kernel
theorem dX11_near_167 : decode cX11_near 167 = .ok (.ireturn, 1) := by decide +kernel
theorem dX11_againstPairs_0 : decode cX11_againstPairs 0 = .ok (.aload_n 0, 1) := by decide +kernel
theorem dX11_againstPairs_1 : decode cX11_againstPairs 1 = .ok (.getfield 13, 3) := by decide +kernel
theorem dX11_againstPairs_4 : decode cX11_againstPairs 4 = .ok (.iload_n 1, 1) := by decide +kernel
theorem dX11_againstPairs_5 : decode cX11_againstPairs 5 = .ok (.iaload, 1) := by decide +kernel
theorem dX11_againstPairs_6 : decode cX11_againstPairs 6 = .ok (.ifCond .ge 9, 3) := by decide +kernel
theorem dX11_againstPairs_9 : decode cX11_againstPairs 9 = .ok (.aload_n 0, 1) := by decide +kernel
theorem dX11_againstPairs_10 : decode cX11_againstPairs 10 = .ok (.iconst 1, 1) := by decide +kernel
theorem dX11_againstPairs_11 : decode cX11_againstPairs 11 = .ok (.invokevirtual 80, 3) := by decide +kernel
theorem dX11_againstPairs_14 : decode cX11_againstPairs 14 = .ok (.ireturn, 1) := by decide +kernel
theorem dX11_againstPairs_15 : decode cX11_againstPairs 15 = .ok (.aload_n 0, 1) := by decide +kernel
theorem dX11_againstPairs_16 : decode cX11_againstPairs 16 = .ok (.getfield 13, 3) := by decide +kernel
theorem dX11_againstPairs_19 : decode cX11_againstPairs 19 = .ok (.iload_n 1, 1) := by decide +kernel
theorem dX11_againstPairs_20 : decode cX11_againstPairs 20 = .ok (.iaload, 1) := by decide +kernel
theorem dX11_againstPairs_21 : decode cX11_againstPairs 21 = .ok (.iconst 2, 1) := by decide +kernel
theorem dX11_againstPairs_22 : decode cX11_againstPairs 22 = .ok (.irem, 1) := by decide +kernel
theorem dX11_againstPairs_23 : decode cX11_againstPairs 23 = .ok (.iconst 1, 1) := by decide +kernel
theorem dX11_againstPairs_24 : decode cX11_againstPairs 24 = .ok (.if_icmp .ne 9, 3) := by decide +kernel
theorem dX11_againstPairs_27 : decode cX11_againstPairs 27 = .ok (.aload_n 0, 1) := by decide +kernel
theorem dX11_againstPairs_28 : decode cX11_againstPairs 28 = .ok (.iconst 5, 1) := by decide +kernel
theorem dX11_againstPairs_29 : decode cX11_againstPairs 29 = .ok (.invokevirtual 80, 3) := by decide +kernel
theorem dX11_againstPairs_32 : decode cX11_againstPairs 32 = .ok (.ireturn, 1) := by decide +kernel
theorem dX11_againstPairs_33 : decode cX11_againstPairs 33 = .ok (.iconst 1, 1) := by decide +kernel
theorem dX11_againstPairs_34 : decode cX11_againstPairs 34 = .ok (.istore_n 2, 1) := by decide +kernel
theorem dX11_againstPairs_35 : decode cX11_againstPairs 35 = .ok (.iconst 0, 1) := by decide +kernel
theorem dX11_againstPairs_36 : decode cX11_againstPairs 36 = .ok (.istore_n 3, 1) := by decide +kernel
theorem dX11_againstPairs_37 : decode cX11_againstPairs 37 = .ok (.iload_n 3, 1) := by decide +kernel
theorem dX11_againstPairs_38 : decode cX11_againstPairs 38 = .ok (.aload_n 0, 1) := by decide +kernel
theorem dX11_againstPairs_39 : decode cX11_againstPairs 39 = .ok (.getfield 13, 3) := by decide +kernel
theorem dX11_againstPairs_42 : decode cX11_againstPairs 42 = .ok (.iload_n 1, 1) := by decide +kernel
theorem dX11_againstPairs_43 : decode cX11_againstPairs 43 = .ok (.iaload, 1) := by decide +kernel
theorem dX11_againstPairs_44 : decode cX11_againstPairs 44 = .ok (.if_icmp .ge 60, 3) := by decide +kernel
theorem dX11_againstPairs_47 : decode cX11_againstPairs 47 = .ok (.iload_n 2, 1) := by decide +kernel
theorem dX11_againstPairs_48 : decode cX11_againstPairs 48 = .ok (.ifCond .eq 48, 3) := by decide +kernel
theorem dX11_againstPairs_51 : decode cX11_againstPairs 51 = .ok (.aload_n 0, 1) := by decide +kernel
theorem dX11_againstPairs_52 : decode cX11_againstPairs 52 = .ok (.getfield 16, 3) := by decide +kernel
theorem dX11_againstPairs_55 : decode cX11_againstPairs 55 = .ok (.bipush 40, 2) := by decide +kernel
theorem dX11_againstPairs_57 : decode cX11_againstPairs 57 = .ok (.iload_n 1, 1) := by decide +kernel
theorem dX11_againstPairs_58 : decode cX11_againstPairs 58 = .ok (.imul, 1) := by decide +kernel
theorem dX11_againstPairs_59 : decode cX11_againstPairs 59 = .ok (.iload_n 3, 1) := by decide +kernel
theorem dX11_againstPairs_60 : decode cX11_againstPairs 60 = .ok (.iadd, 1) := by decide +kernel
theorem dX11_againstPairs_61 : decode cX11_againstPairs 61 = .ok (.iaload, 1) := by decide +kernel
theorem dX11_againstPairs_62 : decode cX11_againstPairs 62 = .ok (.invokestatic 151, 3) := by decide +kernel
theorem dX11_againstPairs_65 : decode cX11_againstPairs 65 = .ok (.ifCond .eq 31, 3) := by decide +kernel
theorem dX11_againstPairs_68 : decode cX11_againstPairs 68 = .ok (.aload_n 0, 1) := by decide +kernel
theorem dX11_againstPairs_69 : decode cX11_againstPairs 69 = .ok (.getfield 16, 3) := by decide +kernel
theorem dX11_againstPairs_72 : decode cX11_againstPairs 72 = .ok (.bipush 40, 2) := by decide +kernel
theorem dX11_againstPairs_74 : decode cX11_againstPairs 74 = .ok (.iload_n 1, 1) := by decide +kernel
theorem dX11_againstPairs_75 : decode cX11_againstPairs 75 = .ok (.imul, 1) := by decide +kernel
theorem dX11_againstPairs_76 : decode cX11_againstPairs 76 = .ok (.iload_n 3, 1) := by decide +kernel
theorem dX11_againstPairs_77 : decode cX11_againstPairs 77 = .ok (.iadd, 1) := by decide +kernel
theorem dX11_againstPairs_78 : decode cX11_againstPairs 78 = .ok (.iconst 1, 1) := by decide +kernel
theorem dX11_againstPairs_79 : decode cX11_againstPairs 79 = .ok (.iadd, 1) := by decide +kernel
theorem dX11_againstPairs_80 : decode cX11_againstPairs 80 = .ok (.iaload, 1) := by decide +kernel
theorem dX11_againstPairs_81 : decode cX11_againstPairs 81 = .ok (.i2l, 1) := by decide +kernel
theorem dX11_againstPairs_82 : decode cX11_againstPairs 82 = .ok (.lconst 0, 1) := by decide +kernel
theorem dX11_againstPairs_83 : decode cX11_againstPairs 83 = .ok (.ldc2_w 194, 3) := by decide +kernel
theorem dX11_againstPairs_86 : decode cX11_againstPairs 86 = .ok (.invokestatic 68, 3) := by decide +kernel
theorem dX11_againstPairs_89 : decode cX11_againstPairs 89 = .ok (.ifCond .eq 7, 3) := by decide +kernel
theorem dX11_againstPairs_92 : decode cX11_againstPairs 92 = .ok (.iconst 1, 1) := by decide +kernel
theorem dX11_againstPairs_93 : decode cX11_againstPairs 93 = .ok (.goto 4, 3) := by decide +kernel
theorem dX11_againstPairs_96 : decode cX11_againstPairs 96 = .ok (.iconst 0, 1) := by decide +kernel
theorem dX11_againstPairs_97 : decode cX11_againstPairs 97 = .ok (.istore_n 2, 1) := by decide +kernel
theorem dX11_againstPairs_98 : decode cX11_againstPairs 98 = .ok (.iinc 3 2, 3) := by decide +kernel
theorem dX11_againstPairs_101 : decode cX11_againstPairs 101 = .ok (.goto (-64), 3) := by decide +kernel
theorem dX11_againstPairs_104 : decode cX11_againstPairs 104 = .ok (.iload_n 2, 1) := by decide +kernel
theorem dX11_againstPairs_105 : decode cX11_againstPairs 105 = .ok (.ifCond .eq 7, 3) := by decide +kernel
theorem dX11_againstPairs_108 : decode cX11_againstPairs 108 = .ok (.iconst 0, 1) := by decide +kernel
theorem dX11_againstPairs_109 : decode cX11_againstPairs 109 = .ok (.goto 8, 3) := by decide +kernel
theorem dX11_againstPairs_112 : decode cX11_againstPairs 112 = .ok (.aload_n 0, 1) := by decide +kernel
theorem dX11_againstPairs_113 : decode cX11_againstPairs 113 = .ok (.iconst 3, 1) := by decide +kernel
theorem dX11_againstPairs_114 : decode cX11_againstPairs 114 = .ok (.invokevirtual 80, 3) := by decide +kernel
theorem dX11_againstPairs_117 : decode cX11_againstPairs 117 = .ok (.ireturn, 1) := by decide +kernel
theorem dX11_showedSo_0 : decode cX11_showedSo 0 = .ok (.iconst 1, 1) := by decide +kernel
theorem dX11_showedSo_1 : decode cX11_showedSo 1 = .ok (.istore 5, 2) := by decide +kernel
theorem dX11_showedSo_3 : decode cX11_showedSo 3 = .ok (.iconst 0, 1) := by decide +kernel
theorem dX11_showedSo_4 : decode cX11_showedSo 4 = .ok (.istore 6, 2) := by decide +kernel
theorem dX11_showedSo_6 : decode cX11_showedSo 6 = .ok (.iload 6, 2) := by decide +kernel
theorem dX11_showedSo_8 : decode cX11_showedSo 8 = .ok (.aload_n 0, 1) := by decide +kernel
theorem dX11_showedSo_9 : decode cX11_showedSo 9 = .ok (.getfield 13, 3) := by decide +kernel
theorem dX11_showedSo_12 : decode cX11_showedSo 12 = .ok (.iload 4, 2) := by decide +kernel
theorem dX11_showedSo_14 : decode cX11_showedSo 14 = .ok (.iaload, 1) := by decide +kernel
theorem dX11_showedSo_15 : decode cX11_showedSo 15 = .ok (.if_icmp .ge 58, 3) := by decide +kernel
theorem dX11_showedSo_18 : decode cX11_showedSo 18 = .ok (.iload 5, 2) := by decide +kernel
theorem dX11_showedSo_20 : decode cX11_showedSo 20 = .ok (.ifCond .eq 44, 3) := by decide +kernel
theorem dX11_showedSo_23 : decode cX11_showedSo 23 = .ok (.iload_n 1, 1) := by decide +kernel
theorem dX11_showedSo_24 : decode cX11_showedSo 24 = .ok (.iload_n 2, 1) := by decide +kernel
theorem dX11_showedSo_25 : decode cX11_showedSo 25 = .ok (.iload_n 3, 1) := by decide +kernel
theorem dX11_showedSo_26 : decode cX11_showedSo 26 = .ok (.aload_n 0, 1) := by decide +kernel
theorem dX11_showedSo_27 : decode cX11_showedSo 27 = .ok (.getfield 16, 3) := by decide +kernel
theorem dX11_showedSo_30 : decode cX11_showedSo 30 = .ok (.bipush 40, 2) := by decide +kernel
theorem dX11_showedSo_32 : decode cX11_showedSo 32 = .ok (.iload 4, 2) := by decide +kernel
theorem dX11_showedSo_34 : decode cX11_showedSo 34 = .ok (.imul, 1) := by decide +kernel
theorem dX11_showedSo_35 : decode cX11_showedSo 35 = .ok (.iload 6, 2) := by decide +kernel
theorem dX11_showedSo_37 : decode cX11_showedSo 37 = .ok (.iadd, 1) := by decide +kernel
theorem dX11_showedSo_38 : decode cX11_showedSo 38 = .ok (.iaload, 1) := by decide +kernel
theorem dX11_showedSo_39 : decode cX11_showedSo 39 = .ok (.invokestatic 126, 3) := by decide +kernel
theorem dX11_showedSo_42 : decode cX11_showedSo 42 = .ok (.aload_n 0, 1) := by decide +kernel
theorem dX11_showedSo_43 : decode cX11_showedSo 43 = .ok (.getfield 16, 3) := by decide +kernel
theorem dX11_showedSo_46 : decode cX11_showedSo 46 = .ok (.bipush 40, 2) := by decide +kernel
theorem dX11_showedSo_48 : decode cX11_showedSo 48 = .ok (.iload 4, 2) := by decide +kernel
theorem dX11_showedSo_50 : decode cX11_showedSo 50 = .ok (.imul, 1) := by decide +kernel
theorem dX11_showedSo_51 : decode cX11_showedSo 51 = .ok (.iload 6, 2) := by decide +kernel
theorem dX11_showedSo_53 : decode cX11_showedSo 53 = .ok (.iadd, 1) := by decide +kernel
theorem dX11_showedSo_54 : decode cX11_showedSo 54 = .ok (.iconst 1, 1) := by decide +kernel
theorem dX11_showedSo_55 : decode cX11_showedSo 55 = .ok (.iadd, 1) := by decide +kernel
theorem dX11_showedSo_56 : decode cX11_showedSo 56 = .ok (.iaload, 1) := by decide +kernel
theorem dX11_showedSo_57 : decode cX11_showedSo 57 = .ok (.if_icmp .ne 7, 3) := by decide +kernel
theorem dX11_showedSo_60 : decode cX11_showedSo 60 = .ok (.iconst 1, 1) := by decide +kernel
theorem dX11_showedSo_61 : decode cX11_showedSo 61 = .ok (.goto 4, 3) := by decide +kernel
theorem dX11_showedSo_64 : decode cX11_showedSo 64 = .ok (.iconst 0, 1) := by decide +kernel
theorem dX11_showedSo_65 : decode cX11_showedSo 65 = .ok (.istore 5, 2) := by decide +kernel
theorem dX11_showedSo_67 : decode cX11_showedSo 67 = .ok (.iinc 6 2, 3) := by decide +kernel
theorem dX11_showedSo_70 : decode cX11_showedSo 70 = .ok (.goto (-64), 3) := by decide +kernel
theorem dX11_showedSo_73 : decode cX11_showedSo 73 = .ok (.iload 5, 2) := by decide +kernel
theorem dX11_showedSo_75 : decode cX11_showedSo 75 = .ok (.ireturn, 1) := by decide +kernel
theorem dX11_digits_0 : decode cX11_digits 0 = .ok (.aload_n 0, 1) := by decide +kernel
theorem dX11_digits_1 : decode cX11_digits 1 = .ok (.iload_n 1, 1) := by decide +kernel
theorem dX11_digits_2 : decode cX11_digits 2 = .ok (.invokevirtual 133, 3) := by decide +kernel
theorem dX11_digits_5 : decode cX11_digits 5 = .ok (.ifCond .eq 10, 3) := by decide +kernel
theorem dX11_digits_8 : decode cX11_digits 8 = .ok (.iload_n 2, 1) := by decide +kernel
theorem dX11_digits_9 : decode cX11_digits 9 = .ok (.invokestatic 76, 3) := by decide +kernel
theorem dX11_digits_12 : decode cX11_digits 12 = .ok (.ifCond .ne 5, 3) := by decide +kernel
theorem dX11_digits_15 : decode cX11_digits 15 = .ok (.iconst (-1), 1) := by decide +kernel
theorem dX11_digits_16 : decode cX11_digits 16 = .ok (.ireturn, 1) := by decide +kernel
theorem dX11_digits_17 : decode cX11_digits 17 = .ok (.aload_n 0, 1) := by decide +kernel
theorem dX11_digits_18 : decode cX11_digits 18 = .ok (.iload_n 2, 1) := by decide +kernel
theorem dX11_digits_19 : decode cX11_digits 19 = .ok (.invokevirtual 196, 3) := by decide +kernel
theorem dX11_digits_22 : decode cX11_digits 22 = .ok (.istore_n 3, 1) := by decide +kernel
theorem dX11_digits_23 : decode cX11_digits 23 = .ok (.iload_n 3, 1) := by decide +kernel
theorem dX11_digits_24 : decode cX11_digits 24 = .ok (.ifCond .eq 5, 3) := by decide +kernel
theorem dX11_digits_27 : decode cX11_digits 27 = .ok (.iload_n 3, 1) := by decide +kernel
theorem dX11_digits_28 : decode cX11_digits 28 = .ok (.ireturn, 1) := by decide +kernel
theorem dX11_digits_29 : decode cX11_digits 29 = .ok (.iconst 0, 1) := by decide +kernel
theorem dX11_digits_30 : decode cX11_digits 30 = .ok (.istore 4, 2) := by decide +kernel
theorem dX11_digits_32 : decode cX11_digits 32 = .ok (.iconst 0, 1) := by decide +kernel
theorem dX11_digits_33 : decode cX11_digits 33 = .ok (.istore 5, 2) := by decide +kernel
theorem dX11_digits_35 : decode cX11_digits 35 = .ok (.iload 5, 2) := by decide +kernel
theorem dX11_digits_37 : decode cX11_digits 37 = .ok (.bipush 10, 2) := by decide +kernel
theorem dX11_digits_39 : decode cX11_digits 39 = .ok (.if_icmp .ge 50, 3) := by decide +kernel
theorem dX11_digits_42 : decode cX11_digits 42 = .ok (.iload 4, 2) := by decide +kernel
theorem dX11_digits_44 : decode cX11_digits 44 = .ok (.aload_n 0, 1) := by decide +kernel
theorem dX11_digits_45 : decode cX11_digits 45 = .ok (.aload_n 0, 1) := by decide +kernel
theorem dX11_digits_46 : decode cX11_digits 46 = .ok (.getfield 7, 3) := by decide +kernel
theorem dX11_digits_49 : decode cX11_digits 49 = .ok (.bipush 10, 2) := by decide +kernel
theorem dX11_digits_51 : decode cX11_digits 51 = .ok (.iload_n 1, 1) := by decide +kernel
theorem dX11_digits_52 : decode cX11_digits 52 = .ok (.iadd, 1) := by decide +kernel
theorem dX11_digits_53 : decode cX11_digits 53 = .ok (.iaload, 1) := by decide +kernel
theorem dX11_digits_54 : decode cX11_digits 54 = .ok (.iload 5, 2) := by decide +kernel
theorem dX11_digits_56 : decode cX11_digits 56 = .ok (.aload_n 0, 1) := by decide +kernel
theorem dX11_digits_57 : decode cX11_digits 57 = .ok (.getfield 7, 3) := by decide +kernel
theorem dX11_digits_60 : decode cX11_digits 60 = .ok (.bipush 24, 2) := by decide +kernel
theorem dX11_digits_62 : decode cX11_digits 62 = .ok (.iload_n 1, 1) := by decide +kernel
theorem dX11_digits_63 : decode cX11_digits 63 = .ok (.iadd, 1) := by decide +kernel
theorem dX11_digits_64 : decode cX11_digits 64 = .ok (.iaload, 1) := by decide +kernel
theorem dX11_digits_65 : decode cX11_digits 65 = .ok (.iload_n 2, 1) := by decide +kernel
theorem dX11_digits_66 : decode cX11_digits 66 = .ok (.invokevirtual 199, 3) := by decide +kernel
theorem dX11_digits_69 : decode cX11_digits 69 = .ok (.ifCond .eq 10, 3) := by decide +kernel
theorem dX11_digits_72 : decode cX11_digits 72 = .ok (.iconst 1, 1) := by decide +kernel
theorem dX11_digits_73 : decode cX11_digits 73 = .ok (.iload 5, 2) := by decide +kernel
theorem dX11_digits_75 : decode cX11_digits 75 = .ok (.ishl, 1) := by decide +kernel
theorem dX11_digits_76 : decode cX11_digits 76 = .ok (.goto 4, 3) := by decide +kernel
theorem dX11_digits_79 : decode cX11_digits 79 = .ok (.iconst 0, 1) := by decide +kernel
theorem dX11_digits_80 : decode cX11_digits 80 = .ok (.ior, 1) := by decide +kernel
theorem dX11_digits_81 : decode cX11_digits 81 = .ok (.istore 4, 2) := by decide +kernel
theorem dX11_digits_83 : decode cX11_digits 83 = .ok (.iinc 5 1, 3) := by decide +kernel
theorem dX11_digits_86 : decode cX11_digits 86 = .ok (.goto (-51), 3) := by decide +kernel
theorem dX11_digits_89 : decode cX11_digits 89 = .ok (.iload 4, 2) := by decide +kernel
theorem dX11_digits_91 : decode cX11_digits 91 = .ok (.ireturn, 1) := by decide +kernel
theorem dX11_kindsOf_0 : decode cX11_kindsOf 0 = .ok (.iconst 0, 1) := by decide +kernel
theorem dX11_kindsOf_1 : decode cX11_kindsOf 1 = .ok (.istore_n 3, 1) := by decide +kernel
theorem dX11_kindsOf_2 : decode cX11_kindsOf 2 = .ok (.iconst 0, 1) := by decide +kernel
theorem dX11_kindsOf_3 : decode cX11_kindsOf 3 = .ok (.istore 4, 2) := by decide +kernel
theorem dX11_kindsOf_5 : decode cX11_kindsOf 5 = .ok (.iload 4, 2) := by decide +kernel
theorem dX11_kindsOf_7 : decode cX11_kindsOf 7 = .ok (.iconst 5, 1) := by decide +kernel
theorem dX11_kindsOf_8 : decode cX11_kindsOf 8 = .ok (.if_icmp .gt 44, 3) := by decide +kernel
theorem dX11_kindsOf_11 : decode cX11_kindsOf 11 = .ok (.iload_n 3, 1) := by decide +kernel
theorem dX11_kindsOf_12 : decode cX11_kindsOf 12 = .ok (.aload_n 0, 1) := by decide +kernel
theorem dX11_kindsOf_13 : decode cX11_kindsOf 13 = .ok (.iload 4, 2) := by decide +kernel
theorem dX11_kindsOf_15 : decode cX11_kindsOf 15 = .ok (.aload_n 0, 1) := by decide +kernel
theorem dX11_kindsOf_16 : decode cX11_kindsOf 16 = .ok (.iload_n 1, 1) := by decide +kernel
theorem dX11_kindsOf_17 : decode cX11_kindsOf 17 = .ok (.invokevirtual 123, 3) := by decide +kernel
theorem dX11_kindsOf_20 : decode cX11_kindsOf 20 = .ok (.aload_n 0, 1) := by decide +kernel
theorem dX11_kindsOf_21 : decode cX11_kindsOf 21 = .ok (.getfield 7, 3) := by decide +kernel
theorem dX11_kindsOf_24 : decode cX11_kindsOf 24 = .ok (.bipush 24, 2) := by decide +kernel
theorem dX11_kindsOf_26 : decode cX11_kindsOf 26 = .ok (.iload_n 1, 1) := by decide +kernel
theorem dX11_kindsOf_27 : decode cX11_kindsOf 27 = .ok (.iadd, 1) := by decide +kernel
theorem dX11_kindsOf_28 : decode cX11_kindsOf 28 = .ok (.iaload, 1) := by decide +kernel
theorem dX11_kindsOf_29 : decode cX11_kindsOf 29 = .ok (.iload_n 2, 1) := by decide +kernel
theorem dX11_kindsOf_30 : decode cX11_kindsOf 30 = .ok (.invokevirtual 199, 3) := by decide +kernel
theorem dX11_kindsOf_33 : decode cX11_kindsOf 33 = .ok (.ifCond .eq 10, 3) := by decide +kernel
theorem dX11_kindsOf_36 : decode cX11_kindsOf 36 = .ok (.iconst 1, 1) := by decide +kernel
theorem dX11_kindsOf_37 : decode cX11_kindsOf 37 = .ok (.iload 4, 2) := by decide +kernel
theorem dX11_kindsOf_39 : decode cX11_kindsOf 39 = .ok (.ishl, 1) := by decide +kernel
theorem dX11_kindsOf_40 : decode cX11_kindsOf 40 = .ok (.goto 4, 3) := by decide +kernel
theorem dX11_kindsOf_43 : decode cX11_kindsOf 43 = .ok (.iconst 0, 1) := by decide +kernel
theorem dX11_kindsOf_44 : decode cX11_kindsOf 44 = .ok (.ior, 1) := by decide +kernel
theorem dX11_kindsOf_45 : decode cX11_kindsOf 45 = .ok (.istore_n 3, 1) := by decide +kernel
theorem dX11_kindsOf_46 : decode cX11_kindsOf 46 = .ok (.iinc 4 1, 3) := by decide +kernel
theorem dX11_kindsOf_49 : decode cX11_kindsOf 49 = .ok (.goto (-44), 3) := by decide +kernel
theorem dX11_kindsOf_52 : decode cX11_kindsOf 52 = .ok (.iload_n 3, 1) := by decide +kernel
theorem dX11_kindsOf_53 : decode cX11_kindsOf 53 = .ok (.ireturn, 1) := by decide +kernel
theorem dX11_kinds_0 : decode cX11_kinds 0 = .ok (.aload_n 0, 1) := by decide +kernel
theorem dX11_kinds_1 : decode cX11_kinds 1 = .ok (.iload_n 1, 1) := by decide +kernel
theorem dX11_kinds_2 : decode cX11_kinds 2 = .ok (.invokevirtual 133, 3) := by decide +kernel
theorem dX11_kinds_5 : decode cX11_kinds 5 = .ok (.ifCond .eq 10, 3) := by decide +kernel
theorem dX11_kinds_8 : decode cX11_kinds 8 = .ok (.iload_n 2, 1) := by decide +kernel
theorem dX11_kinds_9 : decode cX11_kinds 9 = .ok (.invokestatic 76, 3) := by decide +kernel
theorem dX11_kinds_12 : decode cX11_kinds 12 = .ok (.ifCond .ne 5, 3) := by decide +kernel
theorem dX11_kinds_15 : decode cX11_kinds 15 = .ok (.iconst (-1), 1) := by decide +kernel
theorem dX11_kinds_16 : decode cX11_kinds 16 = .ok (.ireturn, 1) := by decide +kernel
theorem dX11_kinds_17 : decode cX11_kinds 17 = .ok (.aload_n 0, 1) := by decide +kernel
theorem dX11_kinds_18 : decode cX11_kinds 18 = .ok (.iload_n 2, 1) := by decide +kernel
theorem dX11_kinds_19 : decode cX11_kinds 19 = .ok (.invokevirtual 196, 3) := by decide +kernel
theorem dX11_kinds_22 : decode cX11_kinds 22 = .ok (.istore_n 3, 1) := by decide +kernel
theorem dX11_kinds_23 : decode cX11_kinds 23 = .ok (.iload_n 3, 1) := by decide +kernel
theorem dX11_kinds_24 : decode cX11_kinds 24 = .ok (.ifCond .eq 7, 3) := by decide +kernel
theorem dX11_kinds_27 : decode cX11_kinds 27 = .ok (.iload_n 3, 1) := by decide +kernel
theorem dX11_kinds_28 : decode cX11_kinds 28 = .ok (.goto 9, 3) := by decide +kernel
theorem dX11_kinds_31 : decode cX11_kinds 31 = .ok (.aload_n 0, 1) := by decide +kernel
theorem dX11_kinds_32 : decode cX11_kinds 32 = .ok (.iload_n 1, 1) := by decide +kernel
theorem dX11_kinds_33 : decode cX11_kinds 33 = .ok (.iload_n 2, 1) := by decide +kernel
theorem dX11_kinds_34 : decode cX11_kinds 34 = .ok (.invokevirtual 203, 3) := by decide +kernel
theorem dX11_kinds_37 : decode cX11_kinds 37 = .ok (.ireturn, 1) := by decide +kernel
theorem dX11_test_0 : decode cX11_test 0 = .ok (.aload_n 0, 1) := by decide +kernel
theorem dX11_test_1 : decode cX11_test 1 = .ok (.iload_n 1, 1) := by decide +kernel
theorem dX11_test_2 : decode cX11_test 2 = .ok (.invokevirtual 133, 3) := by decide +kernel
theorem dX11_test_5 : decode cX11_test 5 = .ok (.ifCond .eq 10, 3) := by decide +kernel
theorem dX11_test_8 : decode cX11_test 8 = .ok (.iload_n 2, 1) := by decide +kernel
theorem dX11_test_9 : decode cX11_test 9 = .ok (.invokestatic 76, 3) := by decide +kernel
theorem dX11_test_12 : decode cX11_test 12 = .ok (.ifCond .ne 5, 3) := by decide +kernel
theorem dX11_test_15 : decode cX11_test 15 = .ok (.iconst (-1), 1) := by decide +kernel
theorem dX11_test_16 : decode cX11_test 16 = .ok (.ireturn, 1) := by decide +kernel
theorem dX11_test_17 : decode cX11_test 17 = .ok (.aload_n 0, 1) := by decide +kernel
theorem dX11_test_18 : decode cX11_test 18 = .ok (.iload_n 2, 1) := by decide +kernel
theorem dX11_test_19 : decode cX11_test 19 = .ok (.invokevirtual 196, 3) := by decide +kernel
theorem dX11_test_22 : decode cX11_test 22 = .ok (.istore_n 3, 1) := by decide +kernel
theorem dX11_test_23 : decode cX11_test 23 = .ok (.iload_n 3, 1) := by decide +kernel
theorem dX11_test_24 : decode cX11_test 24 = .ok (.ifCond .eq 5, 3) := by decide +kernel
theorem dX11_test_27 : decode cX11_test 27 = .ok (.iload_n 3, 1) := by decide +kernel
theorem dX11_test_28 : decode cX11_test 28 = .ok (.ireturn, 1) := by decide +kernel
theorem dX11_test_29 : decode cX11_test 29 = .ok (.aload_n 0, 1) := by decide +kernel
theorem dX11_test_30 : decode cX11_test 30 = .ok (.iload_n 1, 1) := by decide +kernel
theorem dX11_test_31 : decode cX11_test 31 = .ok (.iload_n 2, 1) := by decide +kernel
theorem dX11_test_32 : decode cX11_test 32 = .ok (.invokevirtual 203, 3) := by decide +kernel
theorem dX11_test_35 : decode cX11_test 35 = .ok (.istore 4, 2) := by decide +kernel
theorem dX11_test_37 : decode cX11_test 37 = .ok (.bipush (-9), 2) := by decide +kernel
theorem dX11_test_39 : decode cX11_test 39 = .ok (.istore 5, 2) := by decide +kernel
theorem dX11_test_41 : decode cX11_test 41 = .ok (.ldc 193, 2) := by decide +kernel
theorem dX11_test_43 : decode cX11_test 43 = .ok (.istore 6, 2) := by decide +kernel
theorem dX11_test_45 : decode cX11_test 45 = .ok (.iconst 1, 1) := by decide +kernel
theorem dX11_test_46 : decode cX11_test 46 = .ok (.istore 7, 2) := by decide +kernel
theorem dX11_test_48 : decode cX11_test 48 = .ok (.iload 7, 2) := by decide +kernel
theorem dX11_test_50 : decode cX11_test 50 = .ok (.bipush 10, 2) := by decide +kernel
theorem dX11_test_52 : decode cX11_test 52 = .ok (.if_icmp .ge 185, 3) := by decide +kernel
theorem dX11_test_55 : decode cX11_test 55 = .ok (.iload 4, 2) := by decide +kernel
theorem dX11_test_57 : decode cX11_test 57 = .ok (.ifCond .le 180, 3) := by decide +kernel
theorem dX11_test_60 : decode cX11_test 60 = .ok (.iconst 0, 1) := by decide +kernel
theorem dX11_test_61 : decode cX11_test 61 = .ok (.istore 8, 2) := by decide +kernel
theorem dX11_test_63 : decode cX11_test 63 = .ok (.iconst 0, 1) := by decide +kernel
theorem dX11_test_64 : decode cX11_test 64 = .ok (.istore 9, 2) := by decide +kernel
theorem dX11_test_66 : decode cX11_test 66 = .ok (.iload 9, 2) := by decide +kernel
theorem dX11_test_68 : decode cX11_test 68 = .ok (.iconst 5, 1) := by decide +kernel
theorem dX11_test_69 : decode cX11_test 69 = .ok (.if_icmp .gt 130, 3) := by decide +kernel
theorem dX11_test_72 : decode cX11_test 72 = .ok (.iconst 0, 1) := by decide +kernel
theorem dX11_test_73 : decode cX11_test 73 = .ok (.istore 10, 2) := by decide +kernel
theorem dX11_test_75 : decode cX11_test 75 = .ok (.iconst 0, 1) := by decide +kernel
theorem dX11_test_76 : decode cX11_test 76 = .ok (.istore 11, 2) := by decide +kernel
theorem dX11_test_78 : decode cX11_test 78 = .ok (.iload 11, 2) := by decide +kernel
theorem dX11_test_80 : decode cX11_test 80 = .ok (.iconst 5, 1) := by decide +kernel
theorem dX11_test_81 : decode cX11_test 81 = .ok (.if_icmp .gt 96, 3) := by decide +kernel
theorem dX11_test_84 : decode cX11_test 84 = .ok (.iload 4, 2) := by decide +kernel
theorem dX11_test_86 : decode cX11_test 86 = .ok (.iload 9, 2) := by decide +kernel
theorem dX11_test_88 : decode cX11_test 88 = .ok (.invokestatic 119, 3) := by decide +kernel
theorem dX11_test_91 : decode cX11_test 91 = .ok (.ifCond .eq 17, 3) := by decide +kernel
theorem dX11_test_94 : decode cX11_test 94 = .ok (.iload 4, 2) := by decide +kernel
theorem dX11_test_96 : decode cX11_test 96 = .ok (.iload 11, 2) := by decide +kernel
theorem dX11_test_98 : decode cX11_test 98 = .ok (.invokestatic 119, 3) := by decide +kernel
theorem dX11_test_101 : decode cX11_test 101 = .ok (.ifCond .eq 7, 3) := by decide +kernel
theorem dX11_test_104 : decode cX11_test 104 = .ok (.iconst 1, 1) := by decide +kernel
theorem dX11_test_105 : decode cX11_test 105 = .ok (.goto 4, 3) := by decide +kernel
theorem dX11_test_108 : decode cX11_test 108 = .ok (.iconst 0, 1) := by decide +kernel
theorem dX11_test_109 : decode cX11_test 109 = .ok (.istore 12, 2) := by decide +kernel
theorem dX11_test_111 : decode cX11_test 111 = .ok (.iload 10, 2) := by decide +kernel
theorem dX11_test_113 : decode cX11_test 113 = .ok (.iload 12, 2) := by decide +kernel
theorem dX11_test_115 : decode cX11_test 115 = .ok (.ifCond .eq 52, 3) := by decide +kernel
theorem dX11_test_118 : decode cX11_test 118 = .ok (.iload 9, 2) := by decide +kernel
theorem dX11_test_120 : decode cX11_test 120 = .ok (.aload_n 0, 1) := by decide +kernel
theorem dX11_test_121 : decode cX11_test 121 = .ok (.iload_n 1, 1) := by decide +kernel
theorem dX11_test_122 : decode cX11_test 122 = .ok (.invokevirtual 123, 3) := by decide +kernel
theorem dX11_test_125 : decode cX11_test 125 = .ok (.aload_n 0, 1) := by decide +kernel
theorem dX11_test_126 : decode cX11_test 126 = .ok (.getfield 7, 3) := by decide +kernel
theorem dX11_test_129 : decode cX11_test 129 = .ok (.bipush 24, 2) := by decide +kernel
theorem dX11_test_131 : decode cX11_test 131 = .ok (.iload_n 1, 1) := by decide +kernel
theorem dX11_test_132 : decode cX11_test 132 = .ok (.iadd, 1) := by decide +kernel
theorem dX11_test_133 : decode cX11_test 133 = .ok (.iaload, 1) := by decide +kernel
theorem dX11_test_134 : decode cX11_test 134 = .ok (.iload 7, 2) := by decide +kernel
theorem dX11_test_136 : decode cX11_test 136 = .ok (.invokestatic 126, 3) := by decide +kernel
theorem dX11_test_139 : decode cX11_test 139 = .ok (.iload 11, 2) := by decide +kernel
theorem dX11_test_141 : decode cX11_test 141 = .ok (.aload_n 0, 1) := by decide +kernel
theorem dX11_test_142 : decode cX11_test 142 = .ok (.iload_n 1, 1) := by decide +kernel
theorem dX11_test_143 : decode cX11_test 143 = .ok (.invokevirtual 123, 3) := by decide +kernel
theorem dX11_test_146 : decode cX11_test 146 = .ok (.aload_n 0, 1) := by decide +kernel
theorem dX11_test_147 : decode cX11_test 147 = .ok (.getfield 7, 3) := by decide +kernel
theorem dX11_test_150 : decode cX11_test 150 = .ok (.bipush 24, 2) := by decide +kernel
theorem dX11_test_152 : decode cX11_test 152 = .ok (.iload_n 1, 1) := by decide +kernel
theorem dX11_test_153 : decode cX11_test 153 = .ok (.iadd, 1) := by decide +kernel
theorem dX11_test_154 : decode cX11_test 154 = .ok (.iaload, 1) := by decide +kernel
theorem dX11_test_155 : decode cX11_test 155 = .ok (.iload 7, 2) := by decide +kernel
theorem dX11_test_157 : decode cX11_test 157 = .ok (.invokestatic 126, 3) := by decide +kernel
theorem dX11_test_160 : decode cX11_test 160 = .ok (.if_icmp .ne 7, 3) := by decide +kernel
theorem dX11_test_163 : decode cX11_test 163 = .ok (.iconst 1, 1) := by decide +kernel
theorem dX11_test_164 : decode cX11_test 164 = .ok (.goto 4, 3) := by decide +kernel
theorem dX11_test_167 : decode cX11_test 167 = .ok (.iconst 0, 1) := by decide +kernel
theorem dX11_test_168 : decode cX11_test 168 = .ok (.iadd, 1) := by decide +kernel
theorem dX11_test_169 : decode cX11_test 169 = .ok (.istore 10, 2) := by decide +kernel
theorem dX11_test_171 : decode cX11_test 171 = .ok (.iinc 11 1, 3) := by decide +kernel
theorem dX11_test_174 : decode cX11_test 174 = .ok (.goto (-96), 3) := by decide +kernel
theorem dX11_test_177 : decode cX11_test 177 = .ok (.iload 10, 2) := by decide +kernel
theorem dX11_test_179 : decode cX11_test 179 = .ok (.iload 8, 2) := by decide +kernel
theorem dX11_test_181 : decode cX11_test 181 = .ok (.if_icmp .le 8, 3) := by decide +kernel
theorem dX11_test_184 : decode cX11_test 184 = .ok (.iload 10, 2) := by decide +kernel
theorem dX11_test_186 : decode cX11_test 186 = .ok (.goto 5, 3) := by decide +kernel
theorem dX11_test_189 : decode cX11_test 189 = .ok (.iload 8, 2) := by decide +kernel
theorem dX11_test_191 : decode cX11_test 191 = .ok (.istore 8, 2) := by decide +kernel
theorem dX11_test_193 : decode cX11_test 193 = .ok (.iinc 9 1, 3) := by decide +kernel
theorem dX11_test_196 : decode cX11_test 196 = .ok (.goto (-130), 3) := by decide +kernel
theorem dX11_test_199 : decode cX11_test 199 = .ok (.iload 8, 2) := by decide +kernel
theorem dX11_test_201 : decode cX11_test 201 = .ok (.iload 6, 2) := by decide +kernel
theorem dX11_test_203 : decode cX11_test 203 = .ok (.if_icmp .ge 8, 3) := by decide +kernel
theorem dX11_test_206 : decode cX11_test 206 = .ok (.iload 7, 2) := by decide +kernel
theorem dX11_test_208 : decode cX11_test 208 = .ok (.goto 5, 3) := by decide +kernel
theorem dX11_test_211 : decode cX11_test 211 = .ok (.iload 5, 2) := by decide +kernel
theorem dX11_test_213 : decode cX11_test 213 = .ok (.istore 5, 2) := by decide +kernel
theorem dX11_test_215 : decode cX11_test 215 = .ok (.iload 8, 2) := by decide +kernel
theorem dX11_test_217 : decode cX11_test 217 = .ok (.iload 6, 2) := by decide +kernel
theorem dX11_test_219 : decode cX11_test 219 = .ok (.if_icmp .ge 8, 3) := by decide +kernel
theorem dX11_test_222 : decode cX11_test 222 = .ok (.iload 8, 2) := by decide +kernel
theorem dX11_test_224 : decode cX11_test 224 = .ok (.goto 5, 3) := by decide +kernel
theorem dX11_test_227 : decode cX11_test 227 = .ok (.iload 6, 2) := by decide +kernel
theorem dX11_test_229 : decode cX11_test 229 = .ok (.istore 6, 2) := by decide +kernel
theorem dX11_test_231 : decode cX11_test 231 = .ok (.iinc 7 1, 3) := by decide +kernel
theorem dX11_test_234 : decode cX11_test 234 = .ok (.goto (-186), 3) := by decide +kernel
theorem dX11_test_237 : decode cX11_test 237 = .ok (.iload 5, 2) := by decide +kernel
theorem dX11_test_239 : decode cX11_test 239 = .ok (.bipush (-9), 2) := by decide +kernel
theorem dX11_test_241 : decode cX11_test 241 = .ok (.if_icmp .ne 6, 3) := by decide +kernel
theorem dX11_test_244 : decode cX11_test 244 = .ok (.bipush (-9), 2) := by decide +kernel
theorem dX11_test_246 : decode cX11_test 246 = .ok (.ireturn, 1) := by decide +kernel
theorem dX11_test_247 : decode cX11_test 247 = .ok (.aload_n 0, 1) := by decide +kernel
theorem dX11_test_248 : decode cX11_test 248 = .ok (.iload 6, 2) := by decide +kernel
theorem dX11_test_250 : decode cX11_test 250 = .ok (.putfield 60, 3) := by decide +kernel
theorem dX11_test_253 : decode cX11_test 253 = .ok (.iload 5, 2) := by decide +kernel
theorem dX11_test_255 : decode cX11_test 255 = .ok (.ireturn, 1) := by decide +kernel
theorem dX11_readWith_0 : decode cX11_readWith 0 = .ok (.iconst 0, 1) := by decide +kernel
theorem dX11_readWith_1 : decode cX11_readWith 1 = .ok (.istore 4, 2) := by decide +kernel
theorem dX11_readWith_3 : decode cX11_readWith 3 = .ok (.iconst 0, 1) := by decide +kernel
theorem dX11_readWith_4 : decode cX11_readWith 4 = .ok (.istore 5, 2) := by decide +kernel
theorem dX11_readWith_6 : decode cX11_readWith 6 = .ok (.iload 5, 2) := by decide +kernel
theorem dX11_readWith_8 : decode cX11_readWith 8 = .ok (.aload_n 0, 1) := by decide +kernel
theorem dX11_readWith_9 : decode cX11_readWith 9 = .ok (.getfield 7, 3) := by decide +kernel
theorem dX11_readWith_12 : decode cX11_readWith 12 = .ok (.iconst 1, 1) := by decide +kernel
theorem dX11_readWith_13 : decode cX11_readWith 13 = .ok (.iaload, 1) := by decide +kernel
theorem dX11_readWith_14 : decode cX11_readWith 14 = .ok (.if_icmp .ge 68, 3) := by decide +kernel
theorem dX11_readWith_17 : decode cX11_readWith 17 = .ok (.aload_n 0, 1) := by decide +kernel
theorem dX11_readWith_18 : decode cX11_readWith 18 = .ok (.getfield 7, 3) := by decide +kernel
theorem dX11_readWith_21 : decode cX11_readWith 21 = .ok (.iconst 3, 1) := by decide +kernel
theorem dX11_readWith_22 : decode cX11_readWith 22 = .ok (.iload 5, 2) := by decide +kernel
theorem dX11_readWith_24 : decode cX11_readWith 24 = .ok (.iadd, 1) := by decide +kernel
theorem dX11_readWith_25 : decode cX11_readWith 25 = .ok (.iaload, 1) := by decide +kernel
theorem dX11_readWith_26 : decode cX11_readWith 26 = .ok (.istore 6, 2) := by decide +kernel
theorem dX11_readWith_28 : decode cX11_readWith 28 = .ok (.bipush 10, 2) := by decide +kernel
theorem dX11_readWith_30 : decode cX11_readWith 30 = .ok (.iload 4, 2) := by decide +kernel
theorem dX11_readWith_32 : decode cX11_readWith 32 = .ok (.imul, 1) := by decide +kernel
theorem dX11_readWith_33 : decode cX11_readWith 33 = .ok (.aload_n 0, 1) := by decide +kernel
theorem dX11_readWith_34 : decode cX11_readWith 34 = .ok (.getfield 7, 3) := by decide +kernel
theorem dX11_readWith_37 : decode cX11_readWith 37 = .ok (.bipush 10, 2) := by decide +kernel
theorem dX11_readWith_39 : decode cX11_readWith 39 = .ok (.iload 6, 2) := by decide +kernel
theorem dX11_readWith_41 : decode cX11_readWith 41 = .ok (.iadd, 1) := by decide +kernel
theorem dX11_readWith_42 : decode cX11_readWith 42 = .ok (.iaload, 1) := by decide +kernel
theorem dX11_readWith_43 : decode cX11_readWith 43 = .ok (.iload 5, 2) := by decide +kernel
theorem dX11_readWith_45 : decode cX11_readWith 45 = .ok (.iload_n 2, 1) := by decide +kernel
theorem dX11_readWith_46 : decode cX11_readWith 46 = .ok (.if_icmp .ne 7, 3) := by decide +kernel
theorem dX11_readWith_49 : decode cX11_readWith 49 = .ok (.iload_n 3, 1) := by decide +kernel
theorem dX11_readWith_50 : decode cX11_readWith 50 = .ok (.goto 9, 3) := by decide +kernel
theorem dX11_readWith_53 : decode cX11_readWith 53 = .ok (.aload_n 0, 1) := by decide +kernel
theorem dX11_readWith_54 : decode cX11_readWith 54 = .ok (.iload 6, 2) := by decide +kernel
theorem dX11_readWith_56 : decode cX11_readWith 56 = .ok (.invokevirtual 123, 3) := by decide +kernel
theorem dX11_readWith_59 : decode cX11_readWith 59 = .ok (.aload_n 0, 1) := by decide +kernel
theorem dX11_readWith_60 : decode cX11_readWith 60 = .ok (.getfield 7, 3) := by decide +kernel
theorem dX11_readWith_63 : decode cX11_readWith 63 = .ok (.bipush 24, 2) := by decide +kernel
theorem dX11_readWith_65 : decode cX11_readWith 65 = .ok (.iload 6, 2) := by decide +kernel
theorem dX11_readWith_67 : decode cX11_readWith 67 = .ok (.iadd, 1) := by decide +kernel
theorem dX11_readWith_68 : decode cX11_readWith 68 = .ok (.iaload, 1) := by decide +kernel
theorem dX11_readWith_69 : decode cX11_readWith 69 = .ok (.iload_n 1, 1) := by decide +kernel
theorem dX11_readWith_70 : decode cX11_readWith 70 = .ok (.invokestatic 126, 3) := by decide +kernel
theorem dX11_readWith_73 : decode cX11_readWith 73 = .ok (.iadd, 1) := by decide +kernel
theorem dX11_readWith_74 : decode cX11_readWith 74 = .ok (.istore 4, 2) := by decide +kernel
theorem dX11_readWith_76 : decode cX11_readWith 76 = .ok (.iinc 5 1, 3) := by decide +kernel
theorem dX11_readWith_79 : decode cX11_readWith 79 = .ok (.goto (-73), 3) := by decide +kernel
theorem dX11_readWith_82 : decode cX11_readWith 82 = .ok (.iload 4, 2) := by decide +kernel
theorem dX11_readWith_84 : decode cX11_readWith 84 = .ok (.ireturn, 1) := by decide +kernel
theorem dX11_other_0 : decode cX11_other 0 = .ok (.iload_n 1, 1) := by decide +kernel
theorem dX11_other_1 : decode cX11_other 1 = .ok (.invokestatic 76, 3) := by decide +kernel
theorem dX11_other_4 : decode cX11_other 4 = .ok (.ifCond .ne 5, 3) := by decide +kernel
theorem dX11_other_7 : decode cX11_other 7 = .ok (.iconst (-1), 1) := by decide +kernel
theorem dX11_other_8 : decode cX11_other 8 = .ok (.ireturn, 1) := by decide +kernel
theorem dX11_other_9 : decode cX11_other 9 = .ok (.aload_n 0, 1) := by decide +kernel
theorem dX11_other_10 : decode cX11_other 10 = .ok (.iload_n 1, 1) := by decide +kernel
theorem dX11_other_11 : decode cX11_other 11 = .ok (.invokevirtual 196, 3) := by decide +kernel
theorem dX11_other_14 : decode cX11_other 14 = .ok (.istore_n 2, 1) := by decide +kernel
theorem dX11_other_15 : decode cX11_other 15 = .ok (.iload_n 2, 1) := by decide +kernel
theorem dX11_other_16 : decode cX11_other 16 = .ok (.ifCond .eq 5, 3) := by decide +kernel
theorem dX11_other_19 : decode cX11_other 19 = .ok (.iload_n 2, 1) := by decide +kernel
theorem dX11_other_20 : decode cX11_other 20 = .ok (.ireturn, 1) := by decide +kernel
theorem dX11_other_21 : decode cX11_other 21 = .ok (.iconst 0, 1) := by decide +kernel
theorem dX11_other_22 : decode cX11_other 22 = .ok (.istore_n 3, 1) := by decide +kernel
theorem dX11_other_23 : decode cX11_other 23 = .ok (.bipush (-9), 2) := by decide +kernel
theorem dX11_other_25 : decode cX11_other 25 = .ok (.istore 4, 2) := by decide +kernel
theorem dX11_other_27 : decode cX11_other 27 = .ok (.iconst 0, 1) := by decide +kernel
theorem dX11_other_28 : decode cX11_other 28 = .ok (.istore 5, 2) := by decide +kernel
theorem dX11_other_30 : decode cX11_other 30 = .ok (.iload 5, 2) := by decide +kernel
theorem dX11_other_32 : decode cX11_other 32 = .ok (.aload_n 0, 1) := by decide +kernel
theorem dX11_other_33 : decode cX11_other 33 = .ok (.getfield 7, 3) := by decide +kernel
theorem dX11_other_36 : decode cX11_other 36 = .ok (.iconst 1, 1) := by decide +kernel
theorem dX11_other_37 : decode cX11_other 37 = .ok (.iaload, 1) := by decide +kernel
theorem dX11_other_38 : decode cX11_other 38 = .ok (.if_icmp .ge 156, 3) := by decide +kernel
theorem dX11_other_41 : decode cX11_other 41 = .ok (.iconst 0, 1) := by decide +kernel
theorem dX11_other_42 : decode cX11_other 42 = .ok (.istore 6, 2) := by decide +kernel
theorem dX11_other_44 : decode cX11_other 44 = .ok (.iload 6, 2) := by decide +kernel
theorem dX11_other_46 : decode cX11_other 46 = .ok (.bipush 10, 2) := by decide +kernel
theorem dX11_other_48 : decode cX11_other 48 = .ok (.if_icmp .ge 140, 3) := by decide +kernel
theorem dX11_other_51 : decode cX11_other 51 = .ok (.iload 6, 2) := by decide +kernel
theorem dX11_other_53 : decode cX11_other 53 = .ok (.aload_n 0, 1) := by decide +kernel
theorem dX11_other_54 : decode cX11_other 54 = .ok (.aload_n 0, 1) := by decide +kernel
theorem dX11_other_55 : decode cX11_other 55 = .ok (.getfield 7, 3) := by decide +kernel
theorem dX11_other_58 : decode cX11_other 58 = .ok (.iconst 3, 1) := by decide +kernel
theorem dX11_other_59 : decode cX11_other 59 = .ok (.iload 5, 2) := by decide +kernel
theorem dX11_other_61 : decode cX11_other 61 = .ok (.iadd, 1) := by decide +kernel
theorem dX11_other_62 : decode cX11_other 62 = .ok (.iaload, 1) := by decide +kernel
theorem dX11_other_63 : decode cX11_other 63 = .ok (.invokevirtual 123, 3) := by decide +kernel
theorem dX11_other_66 : decode cX11_other 66 = .ok (.if_icmp .eq 7, 3) := by decide +kernel
theorem dX11_other_69 : decode cX11_other 69 = .ok (.iconst 1, 1) := by decide +kernel
theorem dX11_other_70 : decode cX11_other 70 = .ok (.goto 4, 3) := by decide +kernel
theorem dX11_other_73 : decode cX11_other 73 = .ok (.iconst 0, 1) := by decide +kernel
theorem dX11_other_74 : decode cX11_other 74 = .ok (.istore 7, 2) := by decide +kernel
theorem dX11_other_76 : decode cX11_other 76 = .ok (.iconst 0, 1) := by decide +kernel
theorem dX11_other_77 : decode cX11_other 77 = .ok (.istore 8, 2) := by decide +kernel
theorem dX11_other_79 : decode cX11_other 79 = .ok (.iload 8, 2) := by decide +kernel
theorem dX11_other_81 : decode cX11_other 81 = .ok (.aload_n 0, 1) := by decide +kernel
theorem dX11_other_82 : decode cX11_other 82 = .ok (.getfield 13, 3) := by decide +kernel
theorem dX11_other_85 : decode cX11_other 85 = .ok (.iload_n 1, 1) := by decide +kernel
theorem dX11_other_86 : decode cX11_other 86 = .ok (.iaload, 1) := by decide +kernel
theorem dX11_other_87 : decode cX11_other 87 = .ok (.if_icmp .ge 58, 3) := by decide +kernel
theorem dX11_other_90 : decode cX11_other 90 = .ok (.iload 7, 2) := by decide +kernel
theorem dX11_other_92 : decode cX11_other 92 = .ok (.ifCond .eq 53, 3) := by decide +kernel
theorem dX11_other_95 : decode cX11_other 95 = .ok (.aload_n 0, 1) := by decide +kernel
theorem dX11_other_96 : decode cX11_other 96 = .ok (.aload_n 0, 1) := by decide +kernel
theorem dX11_other_97 : decode cX11_other 97 = .ok (.getfield 16, 3) := by decide +kernel
theorem dX11_other_100 : decode cX11_other 100 = .ok (.bipush 40, 2) := by decide +kernel
theorem dX11_other_102 : decode cX11_other 102 = .ok (.iload_n 1, 1) := by decide +kernel
theorem dX11_other_103 : decode cX11_other 103 = .ok (.imul, 1) := by decide +kernel
theorem dX11_other_104 : decode cX11_other 104 = .ok (.iload 8, 2) := by decide +kernel
theorem dX11_other_106 : decode cX11_other 106 = .ok (.iadd, 1) := by decide +kernel
theorem dX11_other_107 : decode cX11_other 107 = .ok (.iaload, 1) := by decide +kernel
theorem dX11_other_108 : decode cX11_other 108 = .ok (.iload 5, 2) := by decide +kernel
theorem dX11_other_110 : decode cX11_other 110 = .ok (.iload 6, 2) := by decide +kernel
theorem dX11_other_112 : decode cX11_other 112 = .ok (.invokevirtual 206, 3) := by decide +kernel
theorem dX11_other_115 : decode cX11_other 115 = .ok (.aload_n 0, 1) := by decide +kernel
theorem dX11_other_116 : decode cX11_other 116 = .ok (.getfield 16, 3) := by decide +kernel
theorem dX11_other_119 : decode cX11_other 119 = .ok (.bipush 40, 2) := by decide +kernel
theorem dX11_other_121 : decode cX11_other 121 = .ok (.iload_n 1, 1) := by decide +kernel
theorem dX11_other_122 : decode cX11_other 122 = .ok (.imul, 1) := by decide +kernel
theorem dX11_other_123 : decode cX11_other 123 = .ok (.iload 8, 2) := by decide +kernel
theorem dX11_other_125 : decode cX11_other 125 = .ok (.iadd, 1) := by decide +kernel
theorem dX11_other_126 : decode cX11_other 126 = .ok (.iconst 1, 1) := by decide +kernel
theorem dX11_other_127 : decode cX11_other 127 = .ok (.iadd, 1) := by decide +kernel
theorem dX11_other_128 : decode cX11_other 128 = .ok (.iaload, 1) := by decide +kernel
theorem dX11_other_129 : decode cX11_other 129 = .ok (.if_icmp .ne 7, 3) := by decide +kernel
theorem dX11_other_132 : decode cX11_other 132 = .ok (.iconst 1, 1) := by decide +kernel
theorem dX11_other_133 : decode cX11_other 133 = .ok (.goto 4, 3) := by decide +kernel
theorem dX11_other_136 : decode cX11_other 136 = .ok (.iconst 0, 1) := by decide +kernel
theorem dX11_other_137 : decode cX11_other 137 = .ok (.istore 7, 2) := by decide +kernel
theorem dX11_other_139 : decode cX11_other 139 = .ok (.iinc 8 2, 3) := by decide +kernel
theorem dX11_other_142 : decode cX11_other 142 = .ok (.goto (-63), 3) := by decide +kernel
theorem dX11_other_145 : decode cX11_other 145 = .ok (.iload 7, 2) := by decide +kernel
theorem dX11_other_147 : decode cX11_other 147 = .ok (.ifCond .eq 18, 3) := by decide +kernel
theorem dX11_other_150 : decode cX11_other 150 = .ok (.iload_n 3, 1) := by decide +kernel
theorem dX11_other_151 : decode cX11_other 151 = .ok (.ifCond .ne 14, 3) := by decide +kernel
theorem dX11_other_154 : decode cX11_other 154 = .ok (.bipush 10, 2) := by decide +kernel
theorem dX11_other_156 : decode cX11_other 156 = .ok (.iload 5, 2) := by decide +kernel
theorem dX11_other_158 : decode cX11_other 158 = .ok (.imul, 1) := by decide +kernel
theorem dX11_other_159 : decode cX11_other 159 = .ok (.iload 6, 2) := by decide +kernel
theorem dX11_other_161 : decode cX11_other 161 = .ok (.iadd, 1) := by decide +kernel
theorem dX11_other_162 : decode cX11_other 162 = .ok (.goto 5, 3) := by decide +kernel
theorem dX11_other_165 : decode cX11_other 165 = .ok (.iload 4, 2) := by decide +kernel
theorem dX11_other_167 : decode cX11_other 167 = .ok (.istore 4, 2) := by decide +kernel
theorem dX11_other_169 : decode cX11_other 169 = .ok (.iload_n 3, 1) := by decide +kernel
theorem dX11_other_170 : decode cX11_other 170 = .ok (.iload 7, 2) := by decide +kernel
theorem dX11_other_172 : decode cX11_other 172 = .ok (.ifCond .eq 7, 3) := by decide +kernel
theorem dX11_other_175 : decode cX11_other 175 = .ok (.iconst 1, 1) := by decide +kernel
theorem dX11_other_176 : decode cX11_other 176 = .ok (.goto 4, 3) := by decide +kernel
theorem dX11_other_179 : decode cX11_other 179 = .ok (.iconst 0, 1) := by decide +kernel
theorem dX11_other_180 : decode cX11_other 180 = .ok (.iadd, 1) := by decide +kernel
theorem dX11_other_181 : decode cX11_other 181 = .ok (.istore_n 3, 1) := by decide +kernel
theorem dX11_other_182 : decode cX11_other 182 = .ok (.iinc 6 1, 3) := by decide +kernel
theorem dX11_other_185 : decode cX11_other 185 = .ok (.goto (-141), 3) := by decide +kernel
theorem dX11_other_188 : decode cX11_other 188 = .ok (.iinc 5 1, 3) := by decide +kernel
theorem dX11_other_191 : decode cX11_other 191 = .ok (.goto (-161), 3) := by decide +kernel
theorem dX11_other_194 : decode cX11_other 194 = .ok (.iload_n 3, 1) := by decide +kernel
theorem dX11_other_195 : decode cX11_other 195 = .ok (.ifCond .ne 6, 3) := by decide +kernel
theorem dX11_other_198 : decode cX11_other 198 = .ok (.bipush (-9), 2) := by decide +kernel
theorem dX11_other_200 : decode cX11_other 200 = .ok (.ireturn, 1) := by decide +kernel
theorem dX11_other_201 : decode cX11_other 201 = .ok (.aload_n 0, 1) := by decide +kernel
theorem dX11_other_202 : decode cX11_other 202 = .ok (.iload 4, 2) := by decide +kernel
theorem dX11_other_204 : decode cX11_other 204 = .ok (.putfield 60, 3) := by decide +kernel
theorem dX11_other_207 : decode cX11_other 207 = .ok (.iload_n 3, 1) := by decide +kernel
theorem dX11_other_208 : decode cX11_other 208 = .ok (.ireturn, 1) := by decide +kernel
theorem dX11_duel_0 : decode cX11_duel 0 = .ok (.iload_n 1, 1) := by decide +kernel
theorem dX11_duel_1 : decode cX11_duel 1 = .ok (.i2l, 1) := by decide +kernel
theorem dX11_duel_2 : decode cX11_duel 2 = .ok (.lconst 0, 1) := by decide +kernel
theorem dX11_duel_3 : decode cX11_duel 3 = .ok (.ldc2_w 66, 3) := by decide +kernel
theorem dX11_duel_6 : decode cX11_duel 6 = .ok (.invokestatic 68, 3) := by decide +kernel
theorem dX11_duel_9 : decode cX11_duel 9 = .ok (.ifCond .eq 10, 3) := by decide +kernel
theorem dX11_duel_12 : decode cX11_duel 12 = .ok (.iload_n 2, 1) := by decide +kernel
theorem dX11_duel_13 : decode cX11_duel 13 = .ok (.invokestatic 151, 3) := by decide +kernel
theorem dX11_duel_16 : decode cX11_duel 16 = .ok (.ifCond .ne 5, 3) := by decide +kernel
theorem dX11_duel_19 : decode cX11_duel 19 = .ok (.iconst (-1), 1) := by decide +kernel
theorem dX11_duel_20 : decode cX11_duel 20 = .ok (.ireturn, 1) := by decide +kernel
theorem dX11_duel_21 : decode cX11_duel 21 = .ok (.aload_n 0, 1) := by decide +kernel
theorem dX11_duel_22 : decode cX11_duel 22 = .ok (.getfield 7, 3) := by decide +kernel
theorem dX11_duel_25 : decode cX11_duel 25 = .ok (.iconst 0, 1) := by decide +kernel
theorem dX11_duel_26 : decode cX11_duel 26 = .ok (.iaload, 1) := by decide +kernel
theorem dX11_duel_27 : decode cX11_duel 27 = .ok (.ifCond .ne 6, 3) := by decide +kernel
theorem dX11_duel_30 : decode cX11_duel 30 = .ok (.bipush (-4), 2) := by decide +kernel
theorem dX11_duel_32 : decode cX11_duel 32 = .ok (.ireturn, 1) := by decide +kernel
theorem dX11_duel_33 : decode cX11_duel 33 = .ok (.aload_n 0, 1) := by decide +kernel
theorem dX11_duel_34 : decode cX11_duel 34 = .ok (.getfield 7, 3) := by decide +kernel
theorem dX11_duel_37 : decode cX11_duel 37 = .ok (.iconst 0, 1) := by decide +kernel
theorem dX11_duel_38 : decode cX11_duel 38 = .ok (.iaload, 1) := by decide +kernel
theorem dX11_duel_39 : decode cX11_duel 39 = .ok (.aload_n 0, 1) := by decide +kernel
theorem dX11_duel_40 : decode cX11_duel 40 = .ok (.getfield 7, 3) := by decide +kernel
theorem dX11_duel_43 : decode cX11_duel 43 = .ok (.iconst 1, 1) := by decide +kernel
theorem dX11_duel_44 : decode cX11_duel 44 = .ok (.iaload, 1) := by decide +kernel
theorem dX11_duel_45 : decode cX11_duel 45 = .ok (.isub, 1) := by decide +kernel
theorem dX11_duel_46 : decode cX11_duel 46 = .ok (.istore_n 3, 1) := by decide +kernel
theorem dX11_duel_47 : decode cX11_duel 47 = .ok (.iload_n 1, 1) := by decide +kernel
theorem dX11_duel_48 : decode cX11_duel 48 = .ok (.iload_n 3, 1) := by decide +kernel
theorem dX11_duel_49 : decode cX11_duel 49 = .ok (.if_icmp .ge 7, 3) := by decide +kernel
theorem dX11_duel_52 : decode cX11_duel 52 = .ok (.iload_n 1, 1) := by decide +kernel
theorem dX11_duel_53 : decode cX11_duel 53 = .ok (.goto 4, 3) := by decide +kernel
theorem dX11_duel_56 : decode cX11_duel 56 = .ok (.iload_n 3, 1) := by decide +kernel
theorem dX11_duel_57 : decode cX11_duel 57 = .ok (.istore 4, 2) := by decide +kernel
theorem dX11_duel_59 : decode cX11_duel 59 = .ok (.iconst 0, 1) := by decide +kernel
theorem dX11_duel_60 : decode cX11_duel 60 = .ok (.istore 5, 2) := by decide +kernel
theorem dX11_duel_62 : decode cX11_duel 62 = .ok (.aload_n 0, 1) := by decide +kernel
theorem dX11_duel_63 : decode cX11_duel 63 = .ok (.getfield 50, 3) := by decide +kernel
theorem dX11_duel_66 : decode cX11_duel 66 = .ok (.iconst 0, 1) := by decide +kernel
theorem dX11_duel_67 : decode cX11_duel 67 = .ok (.aload_n 0, 1) := by decide +kernel
theorem dX11_duel_68 : decode cX11_duel 68 = .ok (.iload_n 2, 1) := by decide +kernel
theorem dX11_duel_69 : decode cX11_duel 69 = .ok (.invokevirtual 173, 3) := by decide +kernel
theorem dX11_duel_72 : decode cX11_duel 72 = .ok (.iastore, 1) := by decide +kernel
theorem dX11_duel_73 : decode cX11_duel 73 = .ok (.aload_n 0, 1) := by decide +kernel
theorem dX11_duel_74 : decode cX11_duel 74 = .ok (.getfield 50, 3) := by decide +kernel
theorem dX11_duel_77 : decode cX11_duel 77 = .ok (.iconst 0, 1) := by decide +kernel
theorem dX11_duel_78 : decode cX11_duel 78 = .ok (.iaload, 1) := by decide +kernel
theorem dX11_duel_79 : decode cX11_duel 79 = .ok (.istore 6, 2) := by decide +kernel
theorem dX11_duel_81 : decode cX11_duel 81 = .ok (.iload 4, 2) := by decide +kernel
theorem dX11_duel_83 : decode cX11_duel 83 = .ok (.ifCond .ne 6, 3) := by decide +kernel
theorem dX11_duel_86 : decode cX11_duel 86 = .ok (.iload 6, 2) := by decide +kernel
theorem dX11_duel_88 : decode cX11_duel 88 = .ok (.ireturn, 1) := by decide +kernel
theorem dX11_duel_89 : decode cX11_duel 89 = .ok (.aload_n 0, 1) := by decide +kernel
theorem dX11_duel_90 : decode cX11_duel 90 = .ok (.getfield 47, 3) := by decide +kernel
theorem dX11_duel_93 : decode cX11_duel 93 = .ok (.iconst 0, 1) := by decide +kernel
theorem dX11_duel_94 : decode cX11_duel 94 = .ok (.iconst (-1), 1) := by decide +kernel
theorem dX11_duel_95 : decode cX11_duel 95 = .ok (.iastore, 1) := by decide +kernel
theorem dX11_duel_96 : decode cX11_duel 96 = .ok (.aload_n 0, 1) := by decide +kernel
theorem dX11_duel_97 : decode cX11_duel 97 = .ok (.getfield 53, 3) := by decide +kernel
theorem dX11_duel_100 : decode cX11_duel 100 = .ok (.iconst 0, 1) := by decide +kernel
theorem dX11_duel_101 : decode cX11_duel 101 = .ok (.iconst (-1), 1) := by decide +kernel
theorem dX11_duel_102 : decode cX11_duel 102 = .ok (.iastore, 1) := by decide +kernel
theorem dX11_duel_103 : decode cX11_duel 103 = .ok (.iload 5, 2) := by decide +kernel
theorem dX11_duel_105 : decode cX11_duel 105 = .ok (.ifCond .lt 258, 3) := by decide +kernel
theorem dX11_duel_108 : decode cX11_duel 108 = .ok (.iload 5, 2) := by decide +kernel
theorem dX11_duel_110 : decode cX11_duel 110 = .ok (.iload 4, 2) := by decide +kernel
theorem dX11_duel_112 : decode cX11_duel 112 = .ok (.if_icmp .ne 7, 3) := by decide +kernel
theorem dX11_duel_115 : decode cX11_duel 115 = .ok (.iconst 1, 1) := by decide +kernel
theorem dX11_duel_116 : decode cX11_duel 116 = .ok (.goto 4, 3) := by decide +kernel
theorem dX11_duel_119 : decode cX11_duel 119 = .ok (.iconst 0, 1) := by decide +kernel
theorem dX11_duel_120 : decode cX11_duel 120 = .ok (.istore 7, 2) := by decide +kernel
theorem dX11_duel_122 : decode cX11_duel 122 = .ok (.iload 7, 2) := by decide +kernel
theorem dX11_duel_124 : decode cX11_duel 124 = .ok (.ifCond .eq 15, 3) := by decide +kernel
theorem dX11_duel_127 : decode cX11_duel 127 = .ok (.aload_n 0, 1) := by decide +kernel
theorem dX11_duel_128 : decode cX11_duel 128 = .ok (.getfield 50, 3) := by decide +kernel
theorem dX11_duel_131 : decode cX11_duel 131 = .ok (.iload 5, 2) := by decide +kernel
theorem dX11_duel_133 : decode cX11_duel 133 = .ok (.iaload, 1) := by decide +kernel
theorem dX11_duel_134 : decode cX11_duel 134 = .ok (.istore 6, 2) := by decide +kernel
theorem dX11_duel_136 : decode cX11_duel 136 = .ok (.goto 136, 3) := by decide +kernel
theorem dX11_duel_139 : decode cX11_duel 139 = .ok (.aload_n 0, 1) := by decide +kernel
theorem dX11_duel_140 : decode cX11_duel 140 = .ok (.getfield 47, 3) := by decide +kernel
theorem dX11_duel_143 : decode cX11_duel 143 = .ok (.iload 5, 2) := by decide +kernel
theorem dX11_duel_145 : decode cX11_duel 145 = .ok (.iaload, 1) := by decide +kernel
theorem dX11_duel_146 : decode cX11_duel 146 = .ok (.iconst 1, 1) := by decide +kernel
theorem dX11_duel_147 : decode cX11_duel 147 = .ok (.iadd, 1) := by decide +kernel
theorem dX11_duel_148 : decode cX11_duel 148 = .ok (.istore 8, 2) := by decide +kernel
theorem dX11_duel_150 : decode cX11_duel 150 = .ok (.iload 8, 2) := by decide +kernel
theorem dX11_duel_152 : decode cX11_duel 152 = .ok (.aload_n 0, 1) := by decide +kernel
theorem dX11_duel_153 : decode cX11_duel 153 = .ok (.getfield 7, 3) := by decide +kernel
end
section
theorem dX11_duel_156 : decode cX11_duel 156 = .ok (.iconst 0, 1) := by decide +kernel
theorem dX11_duel_157 : decode cX11_duel 157 = .ok (.iaload, 1) := by decide +kernel
theorem dX11_duel_158 : decode cX11_duel 158 = .ok (.if_icmp .ge 20, 3) := by decide +kernel
theorem dX11_duel_161 : decode cX11_duel 161 = .ok (.aload_n 0, 1) := by decide +kernel
theorem dX11_duel_162 : decode cX11_duel 162 = .ok (.iload 8, 2) := by decide +kernel
theorem dX11_duel_164 : decode cX11_duel 164 = .ok (.iload 5, 2) := by decide +kernel
theorem dX11_duel_166 : decode cX11_duel 166 = .ok (.invokevirtual 209, 3) := by decide +kernel
theorem dX11_duel_169 : decode cX11_duel 169 = .ok (.ifCond .eq 9, 3) := by decide +kernel
theorem dX11_duel_172 : decode cX11_duel 172 = .ok (.iinc 8 1, 3) := by decide +kernel
theorem dX11_duel_175 : decode cX11_duel 175 = .ok (.goto (-25), 3) := by decide +kernel
theorem dX11_duel_178 : decode cX11_duel 178 = .ok (.aload_n 0, 1) := by decide +kernel
theorem dX11_duel_179 : decode cX11_duel 179 = .ok (.getfield 47, 3) := by decide +kernel
theorem dX11_duel_182 : decode cX11_duel 182 = .ok (.iload 5, 2) := by decide +kernel
theorem dX11_duel_184 : decode cX11_duel 184 = .ok (.iload 8, 2) := by decide +kernel
theorem dX11_duel_186 : decode cX11_duel 186 = .ok (.iastore, 1) := by decide +kernel
theorem dX11_duel_187 : decode cX11_duel 187 = .ok (.iload 8, 2) := by decide +kernel
theorem dX11_duel_189 : decode cX11_duel 189 = .ok (.aload_n 0, 1) := by decide +kernel
theorem dX11_duel_190 : decode cX11_duel 190 = .ok (.getfield 7, 3) := by decide +kernel
theorem dX11_duel_193 : decode cX11_duel 193 = .ok (.iconst 0, 1) := by decide +kernel
theorem dX11_duel_194 : decode cX11_duel 194 = .ok (.iaload, 1) := by decide +kernel
theorem dX11_duel_195 : decode cX11_duel 195 = .ok (.if_icmp .lt 7, 3) := by decide +kernel
theorem dX11_duel_198 : decode cX11_duel 198 = .ok (.iconst 1, 1) := by decide +kernel
theorem dX11_duel_199 : decode cX11_duel 199 = .ok (.goto 4, 3) := by decide +kernel
theorem dX11_duel_202 : decode cX11_duel 202 = .ok (.iconst 0, 1) := by decide +kernel
theorem dX11_duel_203 : decode cX11_duel 203 = .ok (.istore 7, 2) := by decide +kernel
theorem dX11_duel_205 : decode cX11_duel 205 = .ok (.aload_n 0, 1) := by decide +kernel
theorem dX11_duel_206 : decode cX11_duel 206 = .ok (.getfield 53, 3) := by decide +kernel
theorem dX11_duel_209 : decode cX11_duel 209 = .ok (.iload 5, 2) := by decide +kernel
theorem dX11_duel_211 : decode cX11_duel 211 = .ok (.iaload, 1) := by decide +kernel
theorem dX11_duel_212 : decode cX11_duel 212 = .ok (.istore 6, 2) := by decide +kernel
theorem dX11_duel_214 : decode cX11_duel 214 = .ok (.iload 7, 2) := by decide +kernel
theorem dX11_duel_216 : decode cX11_duel 216 = .ok (.ifCond .ne 56, 3) := by decide +kernel
theorem dX11_duel_219 : decode cX11_duel 219 = .ok (.aload_n 0, 1) := by decide +kernel
theorem dX11_duel_220 : decode cX11_duel 220 = .ok (.getfield 50, 3) := by decide +kernel
theorem dX11_duel_223 : decode cX11_duel 223 = .ok (.iload 5, 2) := by decide +kernel
theorem dX11_duel_225 : decode cX11_duel 225 = .ok (.iconst 1, 1) := by decide +kernel
theorem dX11_duel_226 : decode cX11_duel 226 = .ok (.iadd, 1) := by decide +kernel
theorem dX11_duel_227 : decode cX11_duel 227 = .ok (.bipush 10, 2) := by decide +kernel
theorem dX11_duel_229 : decode cX11_duel 229 = .ok (.aload_n 0, 1) := by decide +kernel
theorem dX11_duel_230 : decode cX11_duel 230 = .ok (.getfield 50, 3) := by decide +kernel
theorem dX11_duel_233 : decode cX11_duel 233 = .ok (.iload 5, 2) := by decide +kernel
theorem dX11_duel_235 : decode cX11_duel 235 = .ok (.iaload, 1) := by decide +kernel
theorem dX11_duel_236 : decode cX11_duel 236 = .ok (.imul, 1) := by decide +kernel
theorem dX11_duel_237 : decode cX11_duel 237 = .ok (.aload_n 0, 1) := by decide +kernel
theorem dX11_duel_238 : decode cX11_duel 238 = .ok (.iload 8, 2) := by decide +kernel
theorem dX11_duel_240 : decode cX11_duel 240 = .ok (.iload_n 2, 1) := by decide +kernel
theorem dX11_duel_241 : decode cX11_duel 241 = .ok (.invokevirtual 142, 3) := by decide +kernel
theorem dX11_duel_244 : decode cX11_duel 244 = .ok (.iadd, 1) := by decide +kernel
theorem dX11_duel_245 : decode cX11_duel 245 = .ok (.iastore, 1) := by decide +kernel
theorem dX11_duel_246 : decode cX11_duel 246 = .ok (.iinc 5 1, 3) := by decide +kernel
theorem dX11_duel_249 : decode cX11_duel 249 = .ok (.iload 5, 2) := by decide +kernel
theorem dX11_duel_251 : decode cX11_duel 251 = .ok (.iload 4, 2) := by decide +kernel
theorem dX11_duel_253 : decode cX11_duel 253 = .ok (.if_icmp .ge 19, 3) := by decide +kernel
theorem dX11_duel_256 : decode cX11_duel 256 = .ok (.aload_n 0, 1) := by decide +kernel
theorem dX11_duel_257 : decode cX11_duel 257 = .ok (.getfield 47, 3) := by decide +kernel
theorem dX11_duel_260 : decode cX11_duel 260 = .ok (.iload 5, 2) := by decide +kernel
theorem dX11_duel_262 : decode cX11_duel 262 = .ok (.iconst (-1), 1) := by decide +kernel
theorem dX11_duel_263 : decode cX11_duel 263 = .ok (.iastore, 1) := by decide +kernel
theorem dX11_duel_264 : decode cX11_duel 264 = .ok (.aload_n 0, 1) := by decide +kernel
theorem dX11_duel_265 : decode cX11_duel 265 = .ok (.getfield 53, 3) := by decide +kernel
theorem dX11_duel_268 : decode cX11_duel 268 = .ok (.iload 5, 2) := by decide +kernel
theorem dX11_duel_270 : decode cX11_duel 270 = .ok (.iconst (-1), 1) := by decide +kernel
theorem dX11_duel_271 : decode cX11_duel 271 = .ok (.iastore, 1) := by decide +kernel
theorem dX11_duel_272 : decode cX11_duel 272 = .ok (.iload 7, 2) := by decide +kernel
theorem dX11_duel_274 : decode cX11_duel 274 = .ok (.ifCond .eq 86, 3) := by decide +kernel
theorem dX11_duel_277 : decode cX11_duel 277 = .ok (.iinc 5 (-1), 3) := by decide +kernel
theorem dX11_duel_280 : decode cX11_duel 280 = .ok (.iload 5, 2) := by decide +kernel
theorem dX11_duel_282 : decode cX11_duel 282 = .ok (.ifCond .lt 78, 3) := by decide +kernel
theorem dX11_duel_285 : decode cX11_duel 285 = .ok (.aload_n 0, 1) := by decide +kernel
theorem dX11_duel_286 : decode cX11_duel 286 = .ok (.getfield 53, 3) := by decide +kernel
theorem dX11_duel_289 : decode cX11_duel 289 = .ok (.iload 5, 2) := by decide +kernel
theorem dX11_duel_291 : decode cX11_duel 291 = .ok (.iaload, 1) := by decide +kernel
theorem dX11_duel_292 : decode cX11_duel 292 = .ok (.ifCond .lt 37, 3) := by decide +kernel
theorem dX11_duel_295 : decode cX11_duel 295 = .ok (.iload 5, 2) := by decide +kernel
theorem dX11_duel_297 : decode cX11_duel 297 = .ok (.iconst 2, 1) := by decide +kernel
theorem dX11_duel_298 : decode cX11_duel 298 = .ok (.irem, 1) := by decide +kernel
theorem dX11_duel_299 : decode cX11_duel 299 = .ok (.ifCond .ne 18, 3) := by decide +kernel
theorem dX11_duel_302 : decode cX11_duel 302 = .ok (.iload 6, 2) := by decide +kernel
theorem dX11_duel_304 : decode cX11_duel 304 = .ok (.aload_n 0, 1) := by decide +kernel
theorem dX11_duel_305 : decode cX11_duel 305 = .ok (.getfield 53, 3) := by decide +kernel
theorem dX11_duel_308 : decode cX11_duel 308 = .ok (.iload 5, 2) := by decide +kernel
theorem dX11_duel_310 : decode cX11_duel 310 = .ok (.iaload, 1) := by decide +kernel
theorem dX11_duel_311 : decode cX11_duel 311 = .ok (.if_icmp .le 22, 3) := by decide +kernel
theorem dX11_duel_314 : decode cX11_duel 314 = .ok (.goto 15, 3) := by decide +kernel
theorem dX11_duel_317 : decode cX11_duel 317 = .ok (.iload 6, 2) := by decide +kernel
theorem dX11_duel_319 : decode cX11_duel 319 = .ok (.aload_n 0, 1) := by decide +kernel
theorem dX11_duel_320 : decode cX11_duel 320 = .ok (.getfield 53, 3) := by decide +kernel
theorem dX11_duel_323 : decode cX11_duel 323 = .ok (.iload 5, 2) := by decide +kernel
theorem dX11_duel_325 : decode cX11_duel 325 = .ok (.iaload, 1) := by decide +kernel
theorem dX11_duel_326 : decode cX11_duel 326 = .ok (.if_icmp .ge 7, 3) := by decide +kernel
theorem dX11_duel_329 : decode cX11_duel 329 = .ok (.iconst 1, 1) := by decide +kernel
theorem dX11_duel_330 : decode cX11_duel 330 = .ok (.goto 4, 3) := by decide +kernel
theorem dX11_duel_333 : decode cX11_duel 333 = .ok (.iconst 0, 1) := by decide +kernel
theorem dX11_duel_334 : decode cX11_duel 334 = .ok (.istore 8, 2) := by decide +kernel
theorem dX11_duel_336 : decode cX11_duel 336 = .ok (.aload_n 0, 1) := by decide +kernel
theorem dX11_duel_337 : decode cX11_duel 337 = .ok (.getfield 53, 3) := by decide +kernel
theorem dX11_duel_340 : decode cX11_duel 340 = .ok (.iload 5, 2) := by decide +kernel
theorem dX11_duel_342 : decode cX11_duel 342 = .ok (.iload 8, 2) := by decide +kernel
theorem dX11_duel_344 : decode cX11_duel 344 = .ok (.ifCond .eq 8, 3) := by decide +kernel
theorem dX11_duel_347 : decode cX11_duel 347 = .ok (.iload 6, 2) := by decide +kernel
theorem dX11_duel_349 : decode cX11_duel 349 = .ok (.goto 10, 3) := by decide +kernel
theorem dX11_duel_352 : decode cX11_duel 352 = .ok (.aload_n 0, 1) := by decide +kernel
theorem dX11_duel_353 : decode cX11_duel 353 = .ok (.getfield 53, 3) := by decide +kernel
theorem dX11_duel_356 : decode cX11_duel 356 = .ok (.iload 5, 2) := by decide +kernel
theorem dX11_duel_358 : decode cX11_duel 358 = .ok (.iaload, 1) := by decide +kernel
theorem dX11_duel_359 : decode cX11_duel 359 = .ok (.iastore, 1) := by decide +kernel
theorem dX11_duel_360 : decode cX11_duel 360 = .ok (.goto (-257), 3) := by decide +kernel
theorem dX11_duel_363 : decode cX11_duel 363 = .ok (.iload 6, 2) := by decide +kernel
theorem dX11_duel_365 : decode cX11_duel 365 = .ok (.ireturn, 1) := by decide +kernel
theorem dX11_isLaidOr_0 : decode cX11_isLaidOr 0 = .ok (.aload_n 0, 1) := by decide +kernel
theorem dX11_isLaidOr_1 : decode cX11_isLaidOr 1 = .ok (.iload_n 1, 1) := by decide +kernel
theorem dX11_isLaidOr_2 : decode cX11_isLaidOr 2 = .ok (.invokevirtual 130, 3) := by decide +kernel
theorem dX11_isLaidOr_5 : decode cX11_isLaidOr 5 = .ok (.ifCond .lt 7, 3) := by decide +kernel
theorem dX11_isLaidOr_8 : decode cX11_isLaidOr 8 = .ok (.iconst 1, 1) := by decide +kernel
theorem dX11_isLaidOr_9 : decode cX11_isLaidOr 9 = .ok (.goto 4, 3) := by decide +kernel
theorem dX11_isLaidOr_12 : decode cX11_isLaidOr 12 = .ok (.iconst 0, 1) := by decide +kernel
theorem dX11_isLaidOr_13 : decode cX11_isLaidOr 13 = .ok (.istore_n 3, 1) := by decide +kernel
theorem dX11_isLaidOr_14 : decode cX11_isLaidOr 14 = .ok (.iconst 0, 1) := by decide +kernel
theorem dX11_isLaidOr_15 : decode cX11_isLaidOr 15 = .ok (.istore 4, 2) := by decide +kernel
theorem dX11_isLaidOr_17 : decode cX11_isLaidOr 17 = .ok (.iload 4, 2) := by decide +kernel
theorem dX11_isLaidOr_19 : decode cX11_isLaidOr 19 = .ok (.iload_n 2, 1) := by decide +kernel
theorem dX11_isLaidOr_20 : decode cX11_isLaidOr 20 = .ok (.if_icmp .ge 30, 3) := by decide +kernel
theorem dX11_isLaidOr_23 : decode cX11_isLaidOr 23 = .ok (.iload_n 3, 1) := by decide +kernel
theorem dX11_isLaidOr_24 : decode cX11_isLaidOr 24 = .ok (.ifCond .ne 14, 3) := by decide +kernel
theorem dX11_isLaidOr_27 : decode cX11_isLaidOr 27 = .ok (.aload_n 0, 1) := by decide +kernel
theorem dX11_isLaidOr_28 : decode cX11_isLaidOr 28 = .ok (.getfield 47, 3) := by decide +kernel
theorem dX11_isLaidOr_31 : decode cX11_isLaidOr 31 = .ok (.iload 4, 2) := by decide +kernel
theorem dX11_isLaidOr_33 : decode cX11_isLaidOr 33 = .ok (.iaload, 1) := by decide +kernel
theorem dX11_isLaidOr_34 : decode cX11_isLaidOr 34 = .ok (.iload_n 1, 1) := by decide +kernel
theorem dX11_isLaidOr_35 : decode cX11_isLaidOr 35 = .ok (.if_icmp .ne 7, 3) := by decide +kernel
theorem dX11_isLaidOr_38 : decode cX11_isLaidOr 38 = .ok (.iconst 1, 1) := by decide +kernel
theorem dX11_isLaidOr_39 : decode cX11_isLaidOr 39 = .ok (.goto 4, 3) := by decide +kernel
theorem dX11_isLaidOr_42 : decode cX11_isLaidOr 42 = .ok (.iconst 0, 1) := by decide +kernel
theorem dX11_isLaidOr_43 : decode cX11_isLaidOr 43 = .ok (.istore_n 3, 1) := by decide +kernel
theorem dX11_isLaidOr_44 : decode cX11_isLaidOr 44 = .ok (.iinc 4 1, 3) := by decide +kernel
theorem dX11_isLaidOr_47 : decode cX11_isLaidOr 47 = .ok (.goto (-30), 3) := by decide +kernel
theorem dX11_isLaidOr_50 : decode cX11_isLaidOr 50 = .ok (.iload_n 3, 1) := by decide +kernel
theorem dX11_isLaidOr_51 : decode cX11_isLaidOr 51 = .ok (.ireturn, 1) := by decide +kernel
theorem dX11_readWithout_0 : decode cX11_readWithout 0 = .ok (.iconst 0, 1) := by decide +kernel
theorem dX11_readWithout_1 : decode cX11_readWithout 1 = .ok (.istore_n 3, 1) := by decide +kernel
theorem dX11_readWithout_2 : decode cX11_readWithout 2 = .ok (.iconst 0, 1) := by decide +kernel
theorem dX11_readWithout_3 : decode cX11_readWithout 3 = .ok (.istore 4, 2) := by decide +kernel
theorem dX11_readWithout_5 : decode cX11_readWithout 5 = .ok (.iload 4, 2) := by decide +kernel
theorem dX11_readWithout_7 : decode cX11_readWithout 7 = .ok (.aload_n 0, 1) := by decide +kernel
theorem dX11_readWithout_8 : decode cX11_readWithout 8 = .ok (.getfield 7, 3) := by decide +kernel
theorem dX11_readWithout_11 : decode cX11_readWithout 11 = .ok (.iconst 1, 1) := by decide +kernel
theorem dX11_readWithout_12 : decode cX11_readWithout 12 = .ok (.iaload, 1) := by decide +kernel
theorem dX11_readWithout_13 : decode cX11_readWithout 13 = .ok (.if_icmp .ge 42, 3) := by decide +kernel
theorem dX11_readWithout_16 : decode cX11_readWithout 16 = .ok (.bipush 10, 2) := by decide +kernel
theorem dX11_readWithout_18 : decode cX11_readWithout 18 = .ok (.iload_n 3, 1) := by decide +kernel
theorem dX11_readWithout_19 : decode cX11_readWithout 19 = .ok (.imul, 1) := by decide +kernel
theorem dX11_readWithout_20 : decode cX11_readWithout 20 = .ok (.iload_n 2, 1) := by decide +kernel
theorem dX11_readWithout_21 : decode cX11_readWithout 21 = .ok (.iload 4, 2) := by decide +kernel
theorem dX11_readWithout_23 : decode cX11_readWithout 23 = .ok (.invokestatic 119, 3) := by decide +kernel
theorem dX11_readWithout_26 : decode cX11_readWithout 26 = .ok (.ifCond .eq 7, 3) := by decide +kernel
theorem dX11_readWithout_29 : decode cX11_readWithout 29 = .ok (.iconst 0, 1) := by decide +kernel
theorem dX11_readWithout_30 : decode cX11_readWithout 30 = .ok (.goto 17, 3) := by decide +kernel
theorem dX11_readWithout_33 : decode cX11_readWithout 33 = .ok (.aload_n 0, 1) := by decide +kernel
theorem dX11_readWithout_34 : decode cX11_readWithout 34 = .ok (.aload_n 0, 1) := by decide +kernel
theorem dX11_readWithout_35 : decode cX11_readWithout 35 = .ok (.getfield 7, 3) := by decide +kernel
theorem dX11_readWithout_38 : decode cX11_readWithout 38 = .ok (.iconst 3, 1) := by decide +kernel
theorem dX11_readWithout_39 : decode cX11_readWithout 39 = .ok (.iload 4, 2) := by decide +kernel
theorem dX11_readWithout_41 : decode cX11_readWithout 41 = .ok (.iadd, 1) := by decide +kernel
theorem dX11_readWithout_42 : decode cX11_readWithout 42 = .ok (.iaload, 1) := by decide +kernel
theorem dX11_readWithout_43 : decode cX11_readWithout 43 = .ok (.iload_n 1, 1) := by decide +kernel
theorem dX11_readWithout_44 : decode cX11_readWithout 44 = .ok (.invokevirtual 142, 3) := by decide +kernel
theorem dX11_readWithout_47 : decode cX11_readWithout 47 = .ok (.iadd, 1) := by decide +kernel
theorem dX11_readWithout_48 : decode cX11_readWithout 48 = .ok (.istore_n 3, 1) := by decide +kernel
theorem dX11_readWithout_49 : decode cX11_readWithout 49 = .ok (.iinc 4 1, 3) := by decide +kernel
theorem dX11_readWithout_52 : decode cX11_readWithout 52 = .ok (.goto (-47), 3) := by decide +kernel
theorem dX11_readWithout_55 : decode cX11_readWithout 55 = .ok (.iload_n 3, 1) := by decide +kernel
theorem dX11_readWithout_56 : decode cX11_readWithout 56 = .ok (.ireturn, 1) := by decide +kernel
theorem dX11_chance_0 : decode cX11_chance 0 = .ok (.iload_n 1, 1) := by decide +kernel
theorem dX11_chance_1 : decode cX11_chance 1 = .ok (.invokestatic 151, 3) := by decide +kernel
theorem dX11_chance_4 : decode cX11_chance 4 = .ok (.ifCond .eq 15, 3) := by decide +kernel
theorem dX11_chance_7 : decode cX11_chance 7 = .ok (.iload_n 2, 1) := by decide +kernel
theorem dX11_chance_8 : decode cX11_chance 8 = .ok (.i2l, 1) := by decide +kernel
theorem dX11_chance_9 : decode cX11_chance 9 = .ok (.lconst 0, 1) := by decide +kernel
theorem dX11_chance_10 : decode cX11_chance 10 = .ok (.ldc2_w 212, 3) := by decide +kernel
theorem dX11_chance_13 : decode cX11_chance 13 = .ok (.invokestatic 68, 3) := by decide +kernel
theorem dX11_chance_16 : decode cX11_chance 16 = .ok (.ifCond .ne 5, 3) := by decide +kernel
theorem dX11_chance_19 : decode cX11_chance 19 = .ok (.iconst (-1), 1) := by decide +kernel
theorem dX11_chance_20 : decode cX11_chance 20 = .ok (.ireturn, 1) := by decide +kernel
theorem dX11_chance_21 : decode cX11_chance 21 = .ok (.aload_n 0, 1) := by decide +kernel
theorem dX11_chance_22 : decode cX11_chance 22 = .ok (.getfield 7, 3) := by decide +kernel
theorem dX11_chance_25 : decode cX11_chance 25 = .ok (.iconst 0, 1) := by decide +kernel
theorem dX11_chance_26 : decode cX11_chance 26 = .ok (.iaload, 1) := by decide +kernel
theorem dX11_chance_27 : decode cX11_chance 27 = .ok (.ifCond .ne 6, 3) := by decide +kernel
theorem dX11_chance_30 : decode cX11_chance 30 = .ok (.bipush (-4), 2) := by decide +kernel
theorem dX11_chance_32 : decode cX11_chance 32 = .ok (.ireturn, 1) := by decide +kernel
theorem dX11_chance_33 : decode cX11_chance 33 = .ok (.lconst 0, 1) := by decide +kernel
theorem dX11_chance_34 : decode cX11_chance 34 = .ok (.lstore 4, 2) := by decide +kernel
theorem dX11_chance_36 : decode cX11_chance 36 = .ok (.lconst 1, 1) := by decide +kernel
theorem dX11_chance_37 : decode cX11_chance 37 = .ok (.lstore 6, 2) := by decide +kernel
theorem dX11_chance_39 : decode cX11_chance 39 = .ok (.iconst 0, 1) := by decide +kernel
theorem dX11_chance_40 : decode cX11_chance 40 = .ok (.istore 8, 2) := by decide +kernel
theorem dX11_chance_42 : decode cX11_chance 42 = .ok (.iload 8, 2) := by decide +kernel
theorem dX11_chance_44 : decode cX11_chance 44 = .ok (.aload_n 0, 1) := by decide +kernel
theorem dX11_chance_45 : decode cX11_chance 45 = .ok (.getfield 7, 3) := by decide +kernel
theorem dX11_chance_48 : decode cX11_chance 48 = .ok (.iconst 1, 1) := by decide +kernel
theorem dX11_chance_49 : decode cX11_chance 49 = .ok (.iaload, 1) := by decide +kernel
theorem dX11_chance_50 : decode cX11_chance 50 = .ok (.if_icmp .ge 17, 3) := by decide +kernel
theorem dX11_chance_53 : decode cX11_chance 53 = .ok (.lload 6, 2) := by decide +kernel
theorem dX11_chance_55 : decode cX11_chance 55 = .ok (.ldc2_w 212, 3) := by decide +kernel
theorem dX11_chance_58 : decode cX11_chance 58 = .ok (.lmul, 1) := by decide +kernel
theorem dX11_chance_59 : decode cX11_chance 59 = .ok (.lstore 6, 2) := by decide +kernel
theorem dX11_chance_61 : decode cX11_chance 61 = .ok (.iinc 8 1, 3) := by decide +kernel
theorem dX11_chance_64 : decode cX11_chance 64 = .ok (.goto (-22), 3) := by decide +kernel
theorem dX11_chance_67 : decode cX11_chance 67 = .ok (.iconst 0, 1) := by decide +kernel
theorem dX11_chance_68 : decode cX11_chance 68 = .ok (.istore 8, 2) := by decide +kernel
theorem dX11_chance_70 : decode cX11_chance 70 = .ok (.iload 8, 2) := by decide +kernel
theorem dX11_chance_72 : decode cX11_chance 72 = .ok (.iconst 1, 1) := by decide +kernel
theorem dX11_chance_73 : decode cX11_chance 73 = .ok (.aload_n 0, 1) := by decide +kernel
theorem dX11_chance_74 : decode cX11_chance 74 = .ok (.getfield 7, 3) := by decide +kernel
theorem dX11_chance_77 : decode cX11_chance 77 = .ok (.iconst 1, 1) := by decide +kernel
theorem dX11_chance_78 : decode cX11_chance 78 = .ok (.iaload, 1) := by decide +kernel
theorem dX11_chance_79 : decode cX11_chance 79 = .ok (.ishl, 1) := by decide +kernel
theorem dX11_chance_80 : decode cX11_chance 80 = .ok (.if_icmp .ge 106, 3) := by decide +kernel
theorem dX11_chance_83 : decode cX11_chance 83 = .ok (.lconst 1, 1) := by decide +kernel
theorem dX11_chance_84 : decode cX11_chance 84 = .ok (.lstore 9, 2) := by decide +kernel
theorem dX11_chance_86 : decode cX11_chance 86 = .ok (.iconst 0, 1) := by decide +kernel
theorem dX11_chance_87 : decode cX11_chance 87 = .ok (.istore 11, 2) := by decide +kernel
theorem dX11_chance_89 : decode cX11_chance 89 = .ok (.iload 11, 2) := by decide +kernel
theorem dX11_chance_91 : decode cX11_chance 91 = .ok (.aload_n 0, 1) := by decide +kernel
theorem dX11_chance_92 : decode cX11_chance 92 = .ok (.getfield 7, 3) := by decide +kernel
theorem dX11_chance_95 : decode cX11_chance 95 = .ok (.iconst 1, 1) := by decide +kernel
theorem dX11_chance_96 : decode cX11_chance 96 = .ok (.iaload, 1) := by decide +kernel
theorem dX11_chance_97 : decode cX11_chance 97 = .ok (.if_icmp .ge 34, 3) := by decide +kernel
theorem dX11_chance_100 : decode cX11_chance 100 = .ok (.lload 9, 2) := by decide +kernel
theorem dX11_chance_102 : decode cX11_chance 102 = .ok (.iload 8, 2) := by decide +kernel
theorem dX11_chance_104 : decode cX11_chance 104 = .ok (.iload 11, 2) := by decide +kernel
theorem dX11_chance_106 : decode cX11_chance 106 = .ok (.invokestatic 119, 3) := by decide +kernel
theorem dX11_chance_109 : decode cX11_chance 109 = .ok (.ifCond .eq 8, 3) := by decide +kernel
theorem dX11_chance_112 : decode cX11_chance 112 = .ok (.iload_n 2, 1) := by decide +kernel
theorem dX11_chance_113 : decode cX11_chance 113 = .ok (.i2l, 1) := by decide +kernel
theorem dX11_chance_114 : decode cX11_chance 114 = .ok (.goto 8, 3) := by decide +kernel
theorem dX11_chance_117 : decode cX11_chance 117 = .ok (.bipush 12, 2) := by decide +kernel
theorem dX11_chance_119 : decode cX11_chance 119 = .ok (.iload_n 2, 1) := by decide +kernel
theorem dX11_chance_120 : decode cX11_chance 120 = .ok (.isub, 1) := by decide +kernel
theorem dX11_chance_121 : decode cX11_chance 121 = .ok (.i2l, 1) := by decide +kernel
theorem dX11_chance_122 : decode cX11_chance 122 = .ok (.lmul, 1) := by decide +kernel
theorem dX11_chance_123 : decode cX11_chance 123 = .ok (.lstore 9, 2) := by decide +kernel
theorem dX11_chance_125 : decode cX11_chance 125 = .ok (.iinc 11 1, 3) := by decide +kernel
theorem dX11_chance_128 : decode cX11_chance 128 = .ok (.goto (-39), 3) := by decide +kernel
theorem dX11_chance_131 : decode cX11_chance 131 = .ok (.aload_n 0, 1) := by decide +kernel
theorem dX11_chance_132 : decode cX11_chance 132 = .ok (.iload_n 1, 1) := by decide +kernel
theorem dX11_chance_133 : decode cX11_chance 133 = .ok (.iload 8, 2) := by decide +kernel
theorem dX11_chance_135 : decode cX11_chance 135 = .ok (.invokevirtual 214, 3) := by decide +kernel
theorem dX11_chance_138 : decode cX11_chance 138 = .ok (.i2l, 1) := by decide +kernel
theorem dX11_chance_139 : decode cX11_chance 139 = .ok (.lstore 11, 2) := by decide +kernel
theorem dX11_chance_141 : decode cX11_chance 141 = .ok (.lload 4, 2) := by decide +kernel
theorem dX11_chance_143 : decode cX11_chance 143 = .ok (.iload_n 3, 1) := by decide +kernel
theorem dX11_chance_144 : decode cX11_chance 144 = .ok (.ifCond .eq 28, 3) := by decide +kernel
theorem dX11_chance_147 : decode cX11_chance 147 = .ok (.ldc2_w 164, 3) := by decide +kernel
theorem dX11_chance_150 : decode cX11_chance 150 = .ok (.lload 11, 2) := by decide +kernel
theorem dX11_chance_152 : decode cX11_chance 152 = .ok (.lmul, 1) := by decide +kernel
theorem dX11_chance_153 : decode cX11_chance 153 = .ok (.aload_n 0, 1) := by decide +kernel
theorem dX11_chance_154 : decode cX11_chance 154 = .ok (.iload_n 1, 1) := by decide +kernel
theorem dX11_chance_155 : decode cX11_chance 155 = .ok (.invokevirtual 170, 3) := by decide +kernel
theorem dX11_chance_158 : decode cX11_chance 158 = .ok (.i2l, 1) := by decide +kernel
theorem dX11_chance_159 : decode cX11_chance 159 = .ok (.lcmp, 1) := by decide +kernel
theorem dX11_chance_160 : decode cX11_chance 160 = .ok (.ifCond .lt 8, 3) := by decide +kernel
theorem dX11_chance_163 : decode cX11_chance 163 = .ok (.lload 9, 2) := by decide +kernel
theorem dX11_chance_165 : decode cX11_chance 165 = .ok (.goto 12, 3) := by decide +kernel
theorem dX11_chance_168 : decode cX11_chance 168 = .ok (.lconst 0, 1) := by decide +kernel
theorem dX11_chance_169 : decode cX11_chance 169 = .ok (.goto 8, 3) := by decide +kernel
theorem dX11_chance_172 : decode cX11_chance 172 = .ok (.lload 9, 2) := by decide +kernel
theorem dX11_chance_174 : decode cX11_chance 174 = .ok (.lload 11, 2) := by decide +kernel
theorem dX11_chance_176 : decode cX11_chance 176 = .ok (.lmul, 1) := by decide +kernel
theorem dX11_chance_177 : decode cX11_chance 177 = .ok (.ladd, 1) := by decide +kernel
theorem dX11_chance_178 : decode cX11_chance 178 = .ok (.lstore 4, 2) := by decide +kernel
theorem dX11_chance_180 : decode cX11_chance 180 = .ok (.iinc 8 1, 3) := by decide +kernel
theorem dX11_chance_183 : decode cX11_chance 183 = .ok (.goto (-113), 3) := by decide +kernel
theorem dX11_chance_186 : decode cX11_chance 186 = .ok (.aload_n 0, 1) := by decide +kernel
theorem dX11_chance_187 : decode cX11_chance 187 = .ok (.lload 4, 2) := by decide +kernel
theorem dX11_chance_189 : decode cX11_chance 189 = .ok (.lload 6, 2) := by decide +kernel
theorem dX11_chance_191 : decode cX11_chance 191 = .ok (.invokevirtual 217, 3) := by decide +kernel
theorem dX11_chance_194 : decode cX11_chance 194 = .ok (.ireturn, 1) := by decide +kernel
theorem dX11_odds_0 : decode cX11_odds 0 = .ok (.aload_n 0, 1) := by decide +kernel
theorem dX11_odds_1 : decode cX11_odds 1 = .ok (.iload_n 1, 1) := by decide +kernel
theorem dX11_odds_2 : decode cX11_odds 2 = .ok (.iload_n 2, 1) := by decide +kernel
theorem dX11_odds_3 : decode cX11_odds 3 = .ok (.iconst 1, 1) := by decide +kernel
theorem dX11_odds_4 : decode cX11_odds 4 = .ok (.invokevirtual 221, 3) := by decide +kernel
theorem dX11_odds_7 : decode cX11_odds 7 = .ok (.ireturn, 1) := by decide +kernel
theorem dX11_mid_0 : decode cX11_mid 0 = .ok (.aload_n 0, 1) := by decide +kernel
theorem dX11_mid_1 : decode cX11_mid 1 = .ok (.iload_n 1, 1) := by decide +kernel
theorem dX11_mid_2 : decode cX11_mid 2 = .ok (.iload_n 2, 1) := by decide +kernel
theorem dX11_mid_3 : decode cX11_mid 3 = .ok (.iconst 0, 1) := by decide +kernel
theorem dX11_mid_4 : decode cX11_mid 4 = .ok (.invokevirtual 221, 3) := by decide +kernel
theorem dX11_mid_7 : decode cX11_mid 7 = .ok (.ireturn, 1) := by decide +kernel
theorem dX11_lots_0 : decode cX11_lots 0 = .ok (.iload_n 1, 1) := by decide +kernel
theorem dX11_lots_1 : decode cX11_lots 1 = .ok (.i2l, 1) := by decide +kernel
theorem dX11_lots_2 : decode cX11_lots 2 = .ok (.lconst 1, 1) := by decide +kernel
theorem dX11_lots_3 : decode cX11_lots 3 = .ok (.ldc2_w 225, 3) := by decide +kernel
theorem dX11_lots_6 : decode cX11_lots 6 = .ok (.invokestatic 68, 3) := by decide +kernel
theorem dX11_lots_9 : decode cX11_lots 9 = .ok (.ifCond .eq 15, 3) := by decide +kernel
theorem dX11_lots_12 : decode cX11_lots 12 = .ok (.iload_n 2, 1) := by decide +kernel
theorem dX11_lots_13 : decode cX11_lots 13 = .ok (.i2l, 1) := by decide +kernel
theorem dX11_lots_14 : decode cX11_lots 14 = .ok (.lconst 1, 1) := by decide +kernel
theorem dX11_lots_15 : decode cX11_lots 15 = .ok (.ldc2_w 227, 3) := by decide +kernel
theorem dX11_lots_18 : decode cX11_lots 18 = .ok (.invokestatic 68, 3) := by decide +kernel
theorem dX11_lots_21 : decode cX11_lots 21 = .ok (.ifCond .ne 5, 3) := by decide +kernel
theorem dX11_lots_24 : decode cX11_lots 24 = .ok (.iconst (-1), 1) := by decide +kernel
theorem dX11_lots_25 : decode cX11_lots 25 = .ok (.ireturn, 1) := by decide +kernel
theorem dX11_lots_26 : decode cX11_lots 26 = .ok (.aload_n 0, 1) := by decide +kernel
theorem dX11_lots_27 : decode cX11_lots 27 = .ok (.getfield 7, 3) := by decide +kernel
theorem dX11_lots_30 : decode cX11_lots 30 = .ok (.iconst 0, 1) := by decide +kernel
theorem dX11_lots_31 : decode cX11_lots 31 = .ok (.iaload, 1) := by decide +kernel
theorem dX11_lots_32 : decode cX11_lots 32 = .ok (.ifCond .ne 6, 3) := by decide +kernel
theorem dX11_lots_35 : decode cX11_lots 35 = .ok (.bipush (-4), 2) := by decide +kernel
theorem dX11_lots_37 : decode cX11_lots 37 = .ok (.ireturn, 1) := by decide +kernel
theorem dX11_lots_38 : decode cX11_lots 38 = .ok (.aload_n 0, 1) := by decide +kernel
theorem dX11_lots_39 : decode cX11_lots 39 = .ok (.getfield 7, 3) := by decide +kernel
theorem dX11_lots_42 : decode cX11_lots 42 = .ok (.bipush 31, 2) := by decide +kernel
theorem dX11_lots_44 : decode cX11_lots 44 = .ok (.iaload, 1) := by decide +kernel
theorem dX11_lots_45 : decode cX11_lots 45 = .ok (.iload_n 1, 1) := by decide +kernel
theorem dX11_lots_46 : decode cX11_lots 46 = .ok (.iadd, 1) := by decide +kernel
theorem dX11_lots_47 : decode cX11_lots 47 = .ok (.bipush 40, 2) := by decide +kernel
theorem dX11_lots_49 : decode cX11_lots 49 = .ok (.if_icmp .le 6, 3) := by decide +kernel
theorem dX11_lots_52 : decode cX11_lots 52 = .ok (.bipush (-2), 2) := by decide +kernel
theorem dX11_lots_54 : decode cX11_lots 54 = .ok (.ireturn, 1) := by decide +kernel
theorem dX11_lots_55 : decode cX11_lots 55 = .ok (.iload_n 2, 1) := by decide +kernel
theorem dX11_lots_56 : decode cX11_lots 56 = .ok (.i2l, 1) := by decide +kernel
theorem dX11_lots_57 : decode cX11_lots 57 = .ok (.lstore_n 3, 1) := by decide +kernel
theorem dX11_lots_58 : decode cX11_lots 58 = .ok (.iconst 0, 1) := by decide +kernel
theorem dX11_lots_59 : decode cX11_lots 59 = .ok (.istore 5, 2) := by decide +kernel
theorem dX11_lots_61 : decode cX11_lots 61 = .ok (.iload 5, 2) := by decide +kernel
theorem dX11_lots_63 : decode cX11_lots 63 = .ok (.iload_n 1, 1) := by decide +kernel
theorem dX11_lots_64 : decode cX11_lots 64 = .ok (.if_icmp .ge 107, 3) := by decide +kernel
theorem dX11_lots_67 : decode cX11_lots 67 = .ok (.lload_n 3, 1) := by decide +kernel
theorem dX11_lots_68 : decode cX11_lots 68 = .ok (.ldc2_w 229, 3) := by decide +kernel
theorem dX11_lots_71 : decode cX11_lots 71 = .ok (.lmul, 1) := by decide +kernel
theorem dX11_lots_72 : decode cX11_lots 72 = .ok (.ldc2_w 231, 3) := by decide +kernel
theorem dX11_lots_75 : decode cX11_lots 75 = .ok (.lrem, 1) := by decide +kernel
theorem dX11_lots_76 : decode cX11_lots 76 = .ok (.lstore_n 3, 1) := by decide +kernel
theorem dX11_lots_77 : decode cX11_lots 77 = .ok (.lload_n 3, 1) := by decide +kernel
theorem dX11_lots_78 : decode cX11_lots 78 = .ok (.ldc2_w 233, 3) := by decide +kernel
theorem dX11_lots_81 : decode cX11_lots 81 = .ok (.ldiv, 1) := by decide +kernel
theorem dX11_lots_82 : decode cX11_lots 82 = .ok (.aload_n 0, 1) := by decide +kernel
theorem dX11_lots_83 : decode cX11_lots 83 = .ok (.getfield 7, 3) := by decide +kernel
theorem dX11_lots_86 : decode cX11_lots 86 = .ok (.iconst 0, 1) := by decide +kernel
theorem dX11_lots_87 : decode cX11_lots 87 = .ok (.iaload, 1) := by decide +kernel
theorem dX11_lots_88 : decode cX11_lots 88 = .ok (.i2l, 1) := by decide +kernel
theorem dX11_lots_89 : decode cX11_lots 89 = .ok (.lrem, 1) := by decide +kernel
theorem dX11_lots_90 : decode cX11_lots 90 = .ok (.l2i, 1) := by decide +kernel
theorem dX11_lots_91 : decode cX11_lots 91 = .ok (.istore 6, 2) := by decide +kernel
theorem dX11_lots_93 : decode cX11_lots 93 = .ok (.lload_n 3, 1) := by decide +kernel
theorem dX11_lots_94 : decode cX11_lots 94 = .ok (.ldc2_w 136, 3) := by decide +kernel
theorem dX11_lots_97 : decode cX11_lots 97 = .ok (.lrem, 1) := by decide +kernel
theorem dX11_lots_98 : decode cX11_lots 98 = .ok (.l2i, 1) := by decide +kernel
theorem dX11_lots_99 : decode cX11_lots 99 = .ok (.istore 7, 2) := by decide +kernel
theorem dX11_lots_101 : decode cX11_lots 101 = .ok (.aload_n 0, 1) := by decide +kernel
theorem dX11_lots_102 : decode cX11_lots 102 = .ok (.invokevirtual 154, 3) := by decide +kernel
theorem dX11_lots_105 : decode cX11_lots 105 = .ok (.iload 7, 2) := by decide +kernel
theorem dX11_lots_107 : decode cX11_lots 107 = .ok (.iconst 2, 1) := by decide +kernel
theorem dX11_lots_108 : decode cX11_lots 108 = .ok (.if_icmp .ge 21, 3) := by decide +kernel
theorem dX11_lots_111 : decode cX11_lots 111 = .ok (.aload_n 0, 1) := by decide +kernel
theorem dX11_lots_112 : decode cX11_lots 112 = .ok (.iload 6, 2) := by decide +kernel
theorem dX11_lots_114 : decode cX11_lots 114 = .ok (.invokevirtual 130, 3) := by decide +kernel
theorem dX11_lots_117 : decode cX11_lots 117 = .ok (.ifCond .ge 48, 3) := by decide +kernel
theorem dX11_lots_120 : decode cX11_lots 120 = .ok (.aload_n 0, 1) := by decide +kernel
theorem dX11_lots_121 : decode cX11_lots 121 = .ok (.iload 6, 2) := by decide +kernel
theorem dX11_lots_123 : decode cX11_lots 123 = .ok (.invokevirtual 157, 3) := by decide +kernel
theorem dX11_lots_126 : decode cX11_lots 126 = .ok (.goto 39, 3) := by decide +kernel
theorem dX11_lots_129 : decode cX11_lots 129 = .ok (.iload 7, 2) := by decide +kernel
theorem dX11_lots_131 : decode cX11_lots 131 = .ok (.iconst 3, 1) := by decide +kernel
theorem dX11_lots_132 : decode cX11_lots 132 = .ok (.if_icmp .ne 19, 3) := by decide +kernel
theorem dX11_lots_135 : decode cX11_lots 135 = .ok (.aload_n 0, 1) := by decide +kernel
theorem dX11_lots_136 : decode cX11_lots 136 = .ok (.getfield 7, 3) := by decide +kernel
theorem dX11_lots_139 : decode cX11_lots 139 = .ok (.iconst 2, 1) := by decide +kernel
theorem dX11_lots_140 : decode cX11_lots 140 = .ok (.dup2, 1) := by decide +kernel
theorem dX11_lots_141 : decode cX11_lots 141 = .ok (.iaload, 1) := by decide +kernel
theorem dX11_lots_142 : decode cX11_lots 142 = .ok (.iconst 1, 1) := by decide +kernel
theorem dX11_lots_143 : decode cX11_lots 143 = .ok (.iload 6, 2) := by decide +kernel
theorem dX11_lots_145 : decode cX11_lots 145 = .ok (.ishl, 1) := by decide +kernel
theorem dX11_lots_146 : decode cX11_lots 146 = .ok (.ixor, 1) := by decide +kernel
theorem dX11_lots_147 : decode cX11_lots 147 = .ok (.iastore, 1) := by decide +kernel
theorem dX11_lots_148 : decode cX11_lots 148 = .ok (.goto 17, 3) := by decide +kernel
theorem dX11_lots_151 : decode cX11_lots 151 = .ok (.aload_n 0, 1) := by decide +kernel
theorem dX11_lots_152 : decode cX11_lots 152 = .ok (.getfield 7, 3) := by decide +kernel
theorem dX11_lots_155 : decode cX11_lots 155 = .ok (.iconst 1, 1) := by decide +kernel
theorem dX11_lots_156 : decode cX11_lots 156 = .ok (.iaload, 1) := by decide +kernel
theorem dX11_lots_157 : decode cX11_lots 157 = .ok (.ifCond .le 8, 3) := by decide +kernel
theorem dX11_lots_160 : decode cX11_lots 160 = .ok (.aload_n 0, 1) := by decide +kernel
theorem dX11_lots_161 : decode cX11_lots 161 = .ok (.invokevirtual 161, 3) := by decide +kernel
theorem dX11_lots_164 : decode cX11_lots 164 = .ok (.pop, 1) := by decide +kernel
theorem dX11_lots_165 : decode cX11_lots 165 = .ok (.iinc 5 1, 3) := by decide +kernel
theorem dX11_lots_168 : decode cX11_lots 168 = .ok (.goto (-107), 3) := by decide +kernel
theorem dX11_lots_171 : decode cX11_lots 171 = .ok (.aload_n 0, 1) := by decide +kernel
theorem dX11_lots_172 : decode cX11_lots 172 = .ok (.iconst 1, 1) := by decide +kernel
theorem dX11_lots_173 : decode cX11_lots 173 = .ok (.invokevirtual 173, 3) := by decide +kernel
theorem dX11_lots_176 : decode cX11_lots 176 = .ok (.ireturn, 1) := by decide +kernel
theorem dX11_asked_0 : decode cX11_asked 0 = .ok (.aload_n 0, 1) := by decide +kernel
theorem dX11_asked_1 : decode cX11_asked 1 = .ok (.getfield 60, 3) := by decide +kernel
theorem dX11_asked_4 : decode cX11_asked 4 = .ok (.ireturn, 1) := by decide +kernel
theorem dX11_upper_0 : decode cX11_upper 0 = .ok (.aload_n 0, 1) := by decide +kernel
theorem dX11_upper_1 : decode cX11_upper 1 = .ok (.getfield 63, 3) := by decide +kernel
theorem dX11_upper_4 : decode cX11_upper 4 = .ok (.lreturn, 1) := by decide +kernel
theorem dX11_lower_0 : decode cX11_lower 0 = .ok (.aload_n 0, 1) := by decide +kernel
theorem dX11_lower_1 : decode cX11_lower 1 = .ok (.getfield 28, 3) := by decide +kernel
theorem dX11_lower_4 : decode cX11_lower 4 = .ok (.lreturn, 1) := by decide +kernel
theorem dX11_rowsThere_0 : decode cX11_rowsThere 0 = .ok (.iconst 0, 1) := by decide +kernel
theorem dX11_rowsThere_1 : decode cX11_rowsThere 1 = .ok (.istore_n 1, 1) := by decide +kernel
theorem dX11_rowsThere_2 : decode cX11_rowsThere 2 = .ok (.iconst 0, 1) := by decide +kernel
theorem dX11_rowsThere_3 : decode cX11_rowsThere 3 = .ok (.istore_n 2, 1) := by decide +kernel
theorem dX11_rowsThere_4 : decode cX11_rowsThere 4 = .ok (.iload_n 2, 1) := by decide +kernel
theorem dX11_rowsThere_5 : decode cX11_rowsThere 5 = .ok (.bipush 6, 2) := by decide +kernel
theorem dX11_rowsThere_7 : decode cX11_rowsThere 7 = .ok (.if_icmp .ge 26, 3) := by decide +kernel
theorem dX11_rowsThere_10 : decode cX11_rowsThere 10 = .ok (.iload_n 1, 1) := by decide +kernel
theorem dX11_rowsThere_11 : decode cX11_rowsThere 11 = .ok (.aload_n 0, 1) := by decide +kernel
theorem dX11_rowsThere_12 : decode cX11_rowsThere 12 = .ok (.getfield 13, 3) := by decide +kernel
theorem dX11_rowsThere_15 : decode cX11_rowsThere 15 = .ok (.iload_n 2, 1) := by decide +kernel
theorem dX11_rowsThere_16 : decode cX11_rowsThere 16 = .ok (.iaload, 1) := by decide +kernel
theorem dX11_rowsThere_17 : decode cX11_rowsThere 17 = .ok (.ifCond .ge 7, 3) := by decide +kernel
theorem dX11_rowsThere_20 : decode cX11_rowsThere 20 = .ok (.iconst 0, 1) := by decide +kernel
theorem dX11_rowsThere_21 : decode cX11_rowsThere 21 = .ok (.goto 4, 3) := by decide +kernel
theorem dX11_rowsThere_24 : decode cX11_rowsThere 24 = .ok (.iconst 1, 1) := by decide +kernel
theorem dX11_rowsThere_25 : decode cX11_rowsThere 25 = .ok (.iadd, 1) := by decide +kernel
theorem dX11_rowsThere_26 : decode cX11_rowsThere 26 = .ok (.istore_n 1, 1) := by decide +kernel
theorem dX11_rowsThere_27 : decode cX11_rowsThere 27 = .ok (.iinc 2 1, 3) := by decide +kernel
theorem dX11_rowsThere_30 : decode cX11_rowsThere 30 = .ok (.goto (-26), 3) := by decide +kernel
theorem dX11_rowsThere_33 : decode cX11_rowsThere 33 = .ok (.iload_n 1, 1) := by decide +kernel
theorem dX11_rowsThere_34 : decode cX11_rowsThere 34 = .ok (.ireturn, 1) := by decide +kernel
theorem dX11_textsThere_0 : decode cX11_textsThere 0 = .ok (.iconst 0, 1) := by decide +kernel
theorem dX11_textsThere_1 : decode cX11_textsThere 1 = .ok (.istore_n 1, 1) := by decide +kernel
theorem dX11_textsThere_2 : decode cX11_textsThere 2 = .ok (.iconst 0, 1) := by decide +kernel
theorem dX11_textsThere_3 : decode cX11_textsThere 3 = .ok (.istore_n 2, 1) := by decide +kernel
theorem dX11_textsThere_4 : decode cX11_textsThere 4 = .ok (.iload_n 2, 1) := by decide +kernel
theorem dX11_textsThere_5 : decode cX11_textsThere 5 = .ok (.iconst 4, 1) := by decide +kernel
theorem dX11_textsThere_6 : decode cX11_textsThere 6 = .ok (.if_icmp .ge 26, 3) := by decide +kernel
theorem dX11_textsThere_9 : decode cX11_textsThere 9 = .ok (.iload_n 1, 1) := by decide +kernel
theorem dX11_textsThere_10 : decode cX11_textsThere 10 = .ok (.aload_n 0, 1) := by decide +kernel
theorem dX11_textsThere_11 : decode cX11_textsThere 11 = .ok (.getfield 19, 3) := by decide +kernel
theorem dX11_textsThere_14 : decode cX11_textsThere 14 = .ok (.iload_n 2, 1) := by decide +kernel
theorem dX11_textsThere_15 : decode cX11_textsThere 15 = .ok (.iaload, 1) := by decide +kernel
theorem dX11_textsThere_16 : decode cX11_textsThere 16 = .ok (.ifCond .ge 7, 3) := by decide +kernel
theorem dX11_textsThere_19 : decode cX11_textsThere 19 = .ok (.iconst 0, 1) := by decide +kernel
theorem dX11_textsThere_20 : decode cX11_textsThere 20 = .ok (.goto 4, 3) := by decide +kernel
theorem dX11_textsThere_23 : decode cX11_textsThere 23 = .ok (.iconst 1, 1) := by decide +kernel
theorem dX11_textsThere_24 : decode cX11_textsThere 24 = .ok (.iadd, 1) := by decide +kernel
theorem dX11_textsThere_25 : decode cX11_textsThere 25 = .ok (.istore_n 1, 1) := by decide +kernel
theorem dX11_textsThere_26 : decode cX11_textsThere 26 = .ok (.iinc 2 1, 3) := by decide +kernel
theorem dX11_textsThere_29 : decode cX11_textsThere 29 = .ok (.goto (-25), 3) := by decide +kernel
theorem dX11_textsThere_32 : decode cX11_textsThere 32 = .ok (.iload_n 1, 1) := by decide +kernel
theorem dX11_textsThere_33 : decode cX11_textsThere 33 = .ok (.ireturn, 1) := by decide +kernel
theorem dX11_boxesKept_0 : decode cX11_boxesKept 0 = .ok (.iconst 0, 1) := by decide +kernel
theorem dX11_boxesKept_1 : decode cX11_boxesKept 1 = .ok (.istore_n 1, 1) := by decide +kernel
theorem dX11_boxesKept_2 : decode cX11_boxesKept 2 = .ok (.iconst 0, 1) := by decide +kernel
theorem dX11_boxesKept_3 : decode cX11_boxesKept 3 = .ok (.istore_n 2, 1) := by decide +kernel
theorem dX11_boxesKept_4 : decode cX11_boxesKept 4 = .ok (.iload_n 2, 1) := by decide +kernel
theorem dX11_boxesKept_5 : decode cX11_boxesKept 5 = .ok (.iconst 3, 1) := by decide +kernel
theorem dX11_boxesKept_6 : decode cX11_boxesKept 6 = .ok (.if_icmp .ge 36, 3) := by decide +kernel
theorem dX11_boxesKept_9 : decode cX11_boxesKept 9 = .ok (.iload_n 1, 1) := by decide +kernel
theorem dX11_boxesKept_10 : decode cX11_boxesKept 10 = .ok (.aload_n 0, 1) := by decide +kernel
theorem dX11_boxesKept_11 : decode cX11_boxesKept 11 = .ok (.getfield 7, 3) := by decide +kernel
theorem dX11_boxesKept_14 : decode cX11_boxesKept 14 = .ok (.sipush 392, 3) := by decide +kernel
theorem dX11_boxesKept_17 : decode cX11_boxesKept 17 = .ok (.sipush 392, 3) := by decide +kernel
theorem dX11_boxesKept_20 : decode cX11_boxesKept 20 = .ok (.iload_n 2, 1) := by decide +kernel
theorem dX11_boxesKept_21 : decode cX11_boxesKept 21 = .ok (.imul, 1) := by decide +kernel
theorem dX11_boxesKept_22 : decode cX11_boxesKept 22 = .ok (.iadd, 1) := by decide +kernel
theorem dX11_boxesKept_23 : decode cX11_boxesKept 23 = .ok (.iconst 0, 1) := by decide +kernel
theorem dX11_boxesKept_24 : decode cX11_boxesKept 24 = .ok (.iadd, 1) := by decide +kernel
theorem dX11_boxesKept_25 : decode cX11_boxesKept 25 = .ok (.iaload, 1) := by decide +kernel
theorem dX11_boxesKept_26 : decode cX11_boxesKept 26 = .ok (.ifCond .ne 7, 3) := by decide +kernel
theorem dX11_boxesKept_29 : decode cX11_boxesKept 29 = .ok (.iconst 0, 1) := by decide +kernel
theorem dX11_boxesKept_30 : decode cX11_boxesKept 30 = .ok (.goto 4, 3) := by decide +kernel
theorem dX11_boxesKept_33 : decode cX11_boxesKept 33 = .ok (.iconst 1, 1) := by decide +kernel
theorem dX11_boxesKept_34 : decode cX11_boxesKept 34 = .ok (.iadd, 1) := by decide +kernel
theorem dX11_boxesKept_35 : decode cX11_boxesKept 35 = .ok (.istore_n 1, 1) := by decide +kernel
theorem dX11_boxesKept_36 : decode cX11_boxesKept 36 = .ok (.iinc 2 1, 3) := by decide +kernel
theorem dX11_boxesKept_39 : decode cX11_boxesKept 39 = .ok (.goto (-35), 3) := by decide +kernel
theorem dX11_boxesKept_42 : decode cX11_boxesKept 42 = .ok (.iload_n 1, 1) := by decide +kernel
theorem dX11_boxesKept_43 : decode cX11_boxesKept 43 = .ok (.ireturn, 1) := by decide +kernel
theorem dX11_framed_0 : decode cX11_framed 0 = .ok (.iconst 0, 1) := by decide +kernel
theorem dX11_framed_1 : decode cX11_framed 1 = .ok (.istore_n 1, 1) := by decide +kernel
theorem dX11_framed_2 : decode cX11_framed 2 = .ok (.iconst 0, 1) := by decide +kernel
theorem dX11_framed_3 : decode cX11_framed 3 = .ok (.istore_n 2, 1) := by decide +kernel
theorem dX11_framed_4 : decode cX11_framed 4 = .ok (.iload_n 2, 1) := by decide +kernel
theorem dX11_framed_5 : decode cX11_framed 5 = .ok (.aload_n 0, 1) := by decide +kernel
theorem dX11_framed_6 : decode cX11_framed 6 = .ok (.getfield 7, 3) := by decide +kernel
theorem dX11_framed_9 : decode cX11_framed 9 = .ok (.iconst 1, 1) := by decide +kernel
theorem dX11_framed_10 : decode cX11_framed 10 = .ok (.iaload, 1) := by decide +kernel
theorem dX11_framed_11 : decode cX11_framed 11 = .ok (.if_icmp .ge 22, 3) := by decide +kernel
theorem dX11_framed_14 : decode cX11_framed 14 = .ok (.iload_n 1, 1) := by decide +kernel
theorem dX11_framed_15 : decode cX11_framed 15 = .ok (.iconst 1, 1) := by decide +kernel
theorem dX11_framed_16 : decode cX11_framed 16 = .ok (.aload_n 0, 1) := by decide +kernel
theorem dX11_framed_17 : decode cX11_framed 17 = .ok (.getfield 7, 3) := by decide +kernel
theorem dX11_framed_20 : decode cX11_framed 20 = .ok (.iconst 3, 1) := by decide +kernel
theorem dX11_framed_21 : decode cX11_framed 21 = .ok (.iload_n 2, 1) := by decide +kernel
theorem dX11_framed_22 : decode cX11_framed 22 = .ok (.iadd, 1) := by decide +kernel
theorem dX11_framed_23 : decode cX11_framed 23 = .ok (.iaload, 1) := by decide +kernel
theorem dX11_framed_24 : decode cX11_framed 24 = .ok (.ishl, 1) := by decide +kernel
theorem dX11_framed_25 : decode cX11_framed 25 = .ok (.ior, 1) := by decide +kernel
theorem dX11_framed_26 : decode cX11_framed 26 = .ok (.istore_n 1, 1) := by decide +kernel
theorem dX11_framed_27 : decode cX11_framed 27 = .ok (.iinc 2 1, 3) := by decide +kernel
theorem dX11_framed_30 : decode cX11_framed 30 = .ok (.goto (-26), 3) := by decide +kernel
theorem dX11_framed_33 : decode cX11_framed 33 = .ok (.iload_n 1, 1) := by decide +kernel
theorem dX11_framed_34 : decode cX11_framed 34 = .ok (.ireturn, 1) := by decide +kernel
theorem dX11_manyOf_0 : decode cX11_manyOf 0 = .ok (.iconst 0, 1) := by decide +kernel
theorem dX11_manyOf_1 : decode cX11_manyOf 1 = .ok (.istore_n 2, 1) := by decide +kernel
theorem dX11_manyOf_2 : decode cX11_manyOf 2 = .ok (.iconst 0, 1) := by decide +kernel
theorem dX11_manyOf_3 : decode cX11_manyOf 3 = .ok (.istore_n 3, 1) := by decide +kernel
theorem dX11_manyOf_4 : decode cX11_manyOf 4 = .ok (.iload_n 3, 1) := by decide +kernel
theorem dX11_manyOf_5 : decode cX11_manyOf 5 = .ok (.aload_n 0, 1) := by decide +kernel
theorem dX11_manyOf_6 : decode cX11_manyOf 6 = .ok (.getfield 7, 3) := by decide +kernel
theorem dX11_manyOf_9 : decode cX11_manyOf 9 = .ok (.iconst 0, 1) := by decide +kernel
theorem dX11_manyOf_10 : decode cX11_manyOf 10 = .ok (.iaload, 1) := by decide +kernel
theorem dX11_manyOf_11 : decode cX11_manyOf 11 = .ok (.if_icmp .ge 33, 3) := by decide +kernel
theorem dX11_manyOf_14 : decode cX11_manyOf 14 = .ok (.iload_n 2, 1) := by decide +kernel
theorem dX11_manyOf_15 : decode cX11_manyOf 15 = .ok (.aload_n 0, 1) := by decide +kernel
theorem dX11_manyOf_16 : decode cX11_manyOf 16 = .ok (.getfield 7, 3) := by decide +kernel
theorem dX11_manyOf_19 : decode cX11_manyOf 19 = .ok (.bipush 10, 2) := by decide +kernel
theorem dX11_manyOf_21 : decode cX11_manyOf 21 = .ok (.iload_n 3, 1) := by decide +kernel
theorem dX11_manyOf_22 : decode cX11_manyOf 22 = .ok (.iadd, 1) := by decide +kernel
theorem dX11_manyOf_23 : decode cX11_manyOf 23 = .ok (.iaload, 1) := by decide +kernel
theorem dX11_manyOf_24 : decode cX11_manyOf 24 = .ok (.iload_n 1, 1) := by decide +kernel
theorem dX11_manyOf_25 : decode cX11_manyOf 25 = .ok (.invokestatic 145, 3) := by decide +kernel
theorem dX11_manyOf_28 : decode cX11_manyOf 28 = .ok (.ifCond .eq 7, 3) := by decide +kernel
theorem dX11_manyOf_31 : decode cX11_manyOf 31 = .ok (.iconst 1, 1) := by decide +kernel
theorem dX11_manyOf_32 : decode cX11_manyOf 32 = .ok (.goto 4, 3) := by decide +kernel
theorem dX11_manyOf_35 : decode cX11_manyOf 35 = .ok (.iconst 0, 1) := by decide +kernel
theorem dX11_manyOf_36 : decode cX11_manyOf 36 = .ok (.iadd, 1) := by decide +kernel
theorem dX11_manyOf_37 : decode cX11_manyOf 37 = .ok (.istore_n 2, 1) := by decide +kernel
theorem dX11_manyOf_38 : decode cX11_manyOf 38 = .ok (.iinc 3 1, 3) := by decide +kernel
theorem dX11_manyOf_41 : decode cX11_manyOf 41 = .ok (.goto (-37), 3) := by decide +kernel
theorem dX11_manyOf_44 : decode cX11_manyOf 44 = .ok (.iload_n 2, 1) := by decide +kernel
theorem dX11_manyOf_45 : decode cX11_manyOf 45 = .ok (.ireturn, 1) := by decide +kernel
theorem dX11_count_0 : decode cX11_count 0 = .ok (.iload_n 1, 1) := by decide +kernel
theorem dX11_count_1 : decode cX11_count 1 = .ok (.tableswitch 126 0 10 #[59, 66, 73, 81, 87, 92, 99, 104, 109, 114, 120], 59) := by decide +kernel
theorem dX11_count_60 : decode cX11_count 60 = .ok (.aload_n 0, 1) := by decide +kernel
theorem dX11_count_61 : decode cX11_count 61 = .ok (.getfield 7, 3) := by decide +kernel
theorem dX11_count_64 : decode cX11_count 64 = .ok (.iconst 0, 1) := by decide +kernel
theorem dX11_count_65 : decode cX11_count 65 = .ok (.iaload, 1) := by decide +kernel
theorem dX11_count_66 : decode cX11_count 66 = .ok (.ireturn, 1) := by decide +kernel
theorem dX11_count_67 : decode cX11_count 67 = .ok (.aload_n 0, 1) := by decide +kernel
theorem dX11_count_68 : decode cX11_count 68 = .ok (.getfield 7, 3) := by decide +kernel
theorem dX11_count_71 : decode cX11_count 71 = .ok (.iconst 1, 1) := by decide +kernel
theorem dX11_count_72 : decode cX11_count 72 = .ok (.iaload, 1) := by decide +kernel
theorem dX11_count_73 : decode cX11_count 73 = .ok (.ireturn, 1) := by decide +kernel
theorem dX11_count_74 : decode cX11_count 74 = .ok (.aload_n 0, 1) := by decide +kernel
theorem dX11_count_75 : decode cX11_count 75 = .ok (.getfield 7, 3) := by decide +kernel
theorem dX11_count_78 : decode cX11_count 78 = .ok (.bipush 31, 2) := by decide +kernel
theorem dX11_count_80 : decode cX11_count 80 = .ok (.iaload, 1) := by decide +kernel
theorem dX11_count_81 : decode cX11_count 81 = .ok (.ireturn, 1) := by decide +kernel
theorem dX11_count_82 : decode cX11_count 82 = .ok (.aload_n 0, 1) := by decide +kernel
theorem dX11_count_83 : decode cX11_count 83 = .ok (.iconst 1, 1) := by decide +kernel
theorem dX11_count_84 : decode cX11_count 84 = .ok (.invokevirtual 173, 3) := by decide +kernel
theorem dX11_count_87 : decode cX11_count 87 = .ok (.ireturn, 1) := by decide +kernel
theorem dX11_count_88 : decode cX11_count 88 = .ok (.aload_n 0, 1) := by decide +kernel
theorem dX11_count_89 : decode cX11_count 89 = .ok (.invokevirtual 235, 3) := by decide +kernel
theorem dX11_count_92 : decode cX11_count 92 = .ok (.ireturn, 1) := by decide +kernel
theorem dX11_count_93 : decode cX11_count 93 = .ok (.aload_n 0, 1) := by decide +kernel
theorem dX11_count_94 : decode cX11_count 94 = .ok (.getfield 7, 3) := by decide +kernel
theorem dX11_count_97 : decode cX11_count 97 = .ok (.iconst 2, 1) := by decide +kernel
theorem dX11_count_98 : decode cX11_count 98 = .ok (.iaload, 1) := by decide +kernel
theorem dX11_count_99 : decode cX11_count 99 = .ok (.ireturn, 1) := by decide +kernel
theorem dX11_count_100 : decode cX11_count 100 = .ok (.aload_n 0, 1) := by decide +kernel
theorem dX11_count_101 : decode cX11_count 101 = .ok (.invokevirtual 238, 3) := by decide +kernel
theorem dX11_count_104 : decode cX11_count 104 = .ok (.ireturn, 1) := by decide +kernel
theorem dX11_count_105 : decode cX11_count 105 = .ok (.aload_n 0, 1) := by decide +kernel
theorem dX11_count_106 : decode cX11_count 106 = .ok (.invokevirtual 241, 3) := by decide +kernel
theorem dX11_count_109 : decode cX11_count 109 = .ok (.ireturn, 1) := by decide +kernel
theorem dX11_count_110 : decode cX11_count 110 = .ok (.aload_n 0, 1) := by decide +kernel
theorem dX11_count_111 : decode cX11_count 111 = .ok (.invokevirtual 244, 3) := by decide +kernel
theorem dX11_count_114 : decode cX11_count 114 = .ok (.ireturn, 1) := by decide +kernel
theorem dX11_count_115 : decode cX11_count 115 = .ok (.aload_n 0, 1) := by decide +kernel
theorem dX11_count_116 : decode cX11_count 116 = .ok (.iconst 1, 1) := by decide +kernel
theorem dX11_count_117 : decode cX11_count 117 = .ok (.invokevirtual 247, 3) := by decide +kernel
theorem dX11_count_120 : decode cX11_count 120 = .ok (.ireturn, 1) := by decide +kernel
theorem dX11_count_121 : decode cX11_count 121 = .ok (.aload_n 0, 1) := by decide +kernel
theorem dX11_count_122 : decode cX11_count 122 = .ok (.iconst 2, 1) := by decide +kernel
theorem dX11_count_123 : decode cX11_count 123 = .ok (.invokevirtual 247, 3) := by decide +kernel
theorem dX11_count_126 : decode cX11_count 126 = .ok (.ireturn, 1) := by decide +kernel
theorem dX11_count_127 : decode cX11_count 127 = .ok (.iconst (-1), 1) := by decide +kernel
theorem dX11_count_128 : decode cX11_count 128 = .ok (.ireturn, 1) := by decide +kernel
theorem dX11_finding_0 : decode cX11_finding 0 = .ok (.aload_n 0, 1) := by decide +kernel
theorem dX11_finding_1 : decode cX11_finding 1 = .ok (.getfield 56, 3) := by decide +kernel
theorem dX11_finding_4 : decode cX11_finding 4 = .ok (.ireturn, 1) := by decide +kernel
theorem dX11_findings_0 : decode cX11_findings 0 = .ok (.iload_n 1, 1) := by decide +kernel
theorem dX11_findings_1 : decode cX11_findings 1 = .ok (.i2l, 1) := by decide +kernel
theorem dX11_findings_2 : decode cX11_findings 2 = .ok (.lconst 1, 1) := by decide +kernel
theorem dX11_findings_3 : decode cX11_findings 3 = .ok (.ldc2_w 66, 3) := by decide +kernel
theorem dX11_findings_6 : decode cX11_findings 6 = .ok (.invokestatic 68, 3) := by decide +kernel
theorem dX11_findings_9 : decode cX11_findings 9 = .ok (.ifCond .eq 12, 3) := by decide +kernel
theorem dX11_findings_12 : decode cX11_findings 12 = .ok (.aload_n 0, 1) := by decide +kernel
theorem dX11_findings_13 : decode cX11_findings 13 = .ok (.getfield 25, 3) := by decide +kernel
theorem dX11_findings_16 : decode cX11_findings 16 = .ok (.iload_n 1, 1) := by decide +kernel
theorem dX11_findings_17 : decode cX11_findings 17 = .ok (.iaload, 1) := by decide +kernel
theorem dX11_findings_18 : decode cX11_findings 18 = .ok (.goto 4, 3) := by decide +kernel
theorem dX11_findings_21 : decode cX11_findings 21 = .ok (.iconst (-1), 1) := by decide +kernel
theorem dX11_findings_22 : decode cX11_findings 22 = .ok (.ireturn, 1) := by decide +kernel
theorem dX11_mix_0 : decode cX11_mix 0 = .ok (.aload_n 0, 1) := by decide +kernel
theorem dX11_mix_1 : decode cX11_mix 1 = .ok (.ldc2_w 250, 3) := by decide +kernel
theorem dX11_mix_4 : decode cX11_mix 4 = .ok (.aload_n 0, 1) := by decide +kernel
theorem dX11_mix_5 : decode cX11_mix 5 = .ok (.getfield 252, 3) := by decide +kernel
theorem dX11_mix_8 : decode cX11_mix 8 = .ok (.lmul, 1) := by decide +kernel
theorem dX11_mix_9 : decode cX11_mix 9 = .ok (.lload_n 1, 1) := by decide +kernel
theorem dX11_mix_10 : decode cX11_mix 10 = .ok (.ladd, 1) := by decide +kernel
theorem dX11_mix_11 : decode cX11_mix 11 = .ok (.putfield 252, 3) := by decide +kernel
theorem dX11_mix_14 : decode cX11_mix 14 = .ok (.return_, 1) := by decide +kernel
theorem dX11_digest_0 : decode cX11_digest 0 = .ok (.aload_n 0, 1) := by decide +kernel
theorem dX11_digest_1 : decode cX11_digest 1 = .ok (.ldc2_w 255, 3) := by decide +kernel
theorem dX11_digest_4 : decode cX11_digest 4 = .ok (.putfield 252, 3) := by decide +kernel
theorem dX11_digest_7 : decode cX11_digest 7 = .ok (.iconst 0, 1) := by decide +kernel
theorem dX11_digest_8 : decode cX11_digest 8 = .ok (.istore_n 1, 1) := by decide +kernel
theorem dX11_digest_9 : decode cX11_digest 9 = .ok (.iload_n 1, 1) := by decide +kernel
theorem dX11_digest_10 : decode cX11_digest 10 = .ok (.bipush 11, 2) := by decide +kernel
theorem dX11_digest_12 : decode cX11_digest 12 = .ok (.if_icmp .ge 19, 3) := by decide +kernel
theorem dX11_digest_15 : decode cX11_digest 15 = .ok (.aload_n 0, 1) := by decide +kernel
theorem dX11_digest_16 : decode cX11_digest 16 = .ok (.aload_n 0, 1) := by decide +kernel
theorem dX11_digest_17 : decode cX11_digest 17 = .ok (.iload_n 1, 1) := by decide +kernel
theorem dX11_digest_18 : decode cX11_digest 18 = .ok (.invokevirtual 257, 3) := by decide +kernel
theorem dX11_digest_21 : decode cX11_digest 21 = .ok (.i2l, 1) := by decide +kernel
theorem dX11_digest_22 : decode cX11_digest 22 = .ok (.invokevirtual 260, 3) := by decide +kernel
theorem dX11_digest_25 : decode cX11_digest 25 = .ok (.iinc 1 1, 3) := by decide +kernel
theorem dX11_digest_28 : decode cX11_digest 28 = .ok (.goto (-19), 3) := by decide +kernel
theorem dX11_digest_31 : decode cX11_digest 31 = .ok (.iconst 0, 1) := by decide +kernel
theorem dX11_digest_32 : decode cX11_digest 32 = .ok (.istore_n 1, 1) := by decide +kernel
theorem dX11_digest_33 : decode cX11_digest 33 = .ok (.iload_n 1, 1) := by decide +kernel
theorem dX11_digest_34 : decode cX11_digest 34 = .ok (.aload_n 0, 1) := by decide +kernel
theorem dX11_digest_35 : decode cX11_digest 35 = .ok (.getfield 7, 3) := by decide +kernel
theorem dX11_digest_38 : decode cX11_digest 38 = .ok (.iconst 0, 1) := by decide +kernel
theorem dX11_digest_39 : decode cX11_digest 39 = .ok (.iaload, 1) := by decide +kernel
theorem dX11_digest_40 : decode cX11_digest 40 = .ok (.if_icmp .ge 33, 3) := by decide +kernel
theorem dX11_digest_43 : decode cX11_digest 43 = .ok (.iconst 0, 1) := by decide +kernel
theorem dX11_digest_44 : decode cX11_digest 44 = .ok (.istore_n 2, 1) := by decide +kernel
theorem dX11_digest_45 : decode cX11_digest 45 = .ok (.iload_n 2, 1) := by decide +kernel
theorem dX11_digest_46 : decode cX11_digest 46 = .ok (.iconst 5, 1) := by decide +kernel
theorem dX11_digest_47 : decode cX11_digest 47 = .ok (.if_icmp .ge 20, 3) := by decide +kernel
theorem dX11_digest_50 : decode cX11_digest 50 = .ok (.aload_n 0, 1) := by decide +kernel
theorem dX11_digest_51 : decode cX11_digest 51 = .ok (.aload_n 0, 1) := by decide +kernel
theorem dX11_digest_52 : decode cX11_digest 52 = .ok (.iload_n 1, 1) := by decide +kernel
theorem dX11_digest_53 : decode cX11_digest 53 = .ok (.iload_n 2, 1) := by decide +kernel
theorem dX11_digest_54 : decode cX11_digest 54 = .ok (.invokevirtual 138, 3) := by decide +kernel
theorem dX11_digest_57 : decode cX11_digest 57 = .ok (.i2l, 1) := by decide +kernel
theorem dX11_digest_58 : decode cX11_digest 58 = .ok (.invokevirtual 260, 3) := by decide +kernel
theorem dX11_digest_61 : decode cX11_digest 61 = .ok (.iinc 2 1, 3) := by decide +kernel
theorem dX11_digest_64 : decode cX11_digest 64 = .ok (.goto (-19), 3) := by decide +kernel
theorem dX11_digest_67 : decode cX11_digest 67 = .ok (.iinc 1 1, 3) := by decide +kernel
theorem dX11_digest_70 : decode cX11_digest 70 = .ok (.goto (-37), 3) := by decide +kernel
theorem dX11_digest_73 : decode cX11_digest 73 = .ok (.iconst 0, 1) := by decide +kernel
theorem dX11_digest_74 : decode cX11_digest 74 = .ok (.istore_n 1, 1) := by decide +kernel
theorem dX11_digest_75 : decode cX11_digest 75 = .ok (.iload_n 1, 1) := by decide +kernel
theorem dX11_digest_76 : decode cX11_digest 76 = .ok (.iconst 3, 1) := by decide +kernel
theorem dX11_digest_77 : decode cX11_digest 77 = .ok (.if_icmp .ge 56, 3) := by decide +kernel
theorem dX11_digest_80 : decode cX11_digest 80 = .ok (.aload_n 0, 1) := by decide +kernel
theorem dX11_digest_81 : decode cX11_digest 81 = .ok (.aload_n 0, 1) := by decide +kernel
theorem dX11_digest_82 : decode cX11_digest 82 = .ok (.getfield 7, 3) := by decide +kernel
theorem dX11_digest_85 : decode cX11_digest 85 = .ok (.sipush 392, 3) := by decide +kernel
theorem dX11_digest_88 : decode cX11_digest 88 = .ok (.sipush 392, 3) := by decide +kernel
theorem dX11_digest_91 : decode cX11_digest 91 = .ok (.iload_n 1, 1) := by decide +kernel
theorem dX11_digest_92 : decode cX11_digest 92 = .ok (.imul, 1) := by decide +kernel
theorem dX11_digest_93 : decode cX11_digest 93 = .ok (.iadd, 1) := by decide +kernel
theorem dX11_digest_94 : decode cX11_digest 94 = .ok (.iconst 0, 1) := by decide +kernel
theorem dX11_digest_95 : decode cX11_digest 95 = .ok (.iadd, 1) := by decide +kernel
theorem dX11_digest_96 : decode cX11_digest 96 = .ok (.iaload, 1) := by decide +kernel
theorem dX11_digest_97 : decode cX11_digest 97 = .ok (.ifCond .ne 9, 3) := by decide +kernel
theorem dX11_digest_100 : decode cX11_digest 100 = .ok (.ldc2_w 264, 3) := by decide +kernel
theorem dX11_digest_103 : decode cX11_digest 103 = .ok (.goto 21, 3) := by decide +kernel
theorem dX11_digest_106 : decode cX11_digest 106 = .ok (.aload_n 0, 1) := by decide +kernel
theorem dX11_digest_107 : decode cX11_digest 107 = .ok (.getfield 7, 3) := by decide +kernel
theorem dX11_digest_110 : decode cX11_digest 110 = .ok (.sipush 392, 3) := by decide +kernel
theorem dX11_digest_113 : decode cX11_digest 113 = .ok (.sipush 392, 3) := by decide +kernel
theorem dX11_digest_116 : decode cX11_digest 116 = .ok (.iload_n 1, 1) := by decide +kernel
theorem dX11_digest_117 : decode cX11_digest 117 = .ok (.imul, 1) := by decide +kernel
theorem dX11_digest_118 : decode cX11_digest 118 = .ok (.iadd, 1) := by decide +kernel
theorem dX11_digest_119 : decode cX11_digest 119 = .ok (.bipush 31, 2) := by decide +kernel
theorem dX11_digest_121 : decode cX11_digest 121 = .ok (.iadd, 1) := by decide +kernel
theorem dX11_digest_122 : decode cX11_digest 122 = .ok (.iaload, 1) := by decide +kernel
theorem dX11_digest_123 : decode cX11_digest 123 = .ok (.i2l, 1) := by decide +kernel
theorem dX11_digest_124 : decode cX11_digest 124 = .ok (.invokevirtual 260, 3) := by decide +kernel
theorem dX11_digest_127 : decode cX11_digest 127 = .ok (.iinc 1 1, 3) := by decide +kernel
theorem dX11_digest_130 : decode cX11_digest 130 = .ok (.goto (-55), 3) := by decide +kernel
theorem dX11_digest_133 : decode cX11_digest 133 = .ok (.iconst 0, 1) := by decide +kernel
theorem dX11_digest_134 : decode cX11_digest 134 = .ok (.istore_n 1, 1) := by decide +kernel
theorem dX11_digest_135 : decode cX11_digest 135 = .ok (.iload_n 1, 1) := by decide +kernel
theorem dX11_digest_136 : decode cX11_digest 136 = .ok (.bipush 6, 2) := by decide +kernel
theorem dX11_digest_138 : decode cX11_digest 138 = .ok (.if_icmp .ge 54, 3) := by decide +kernel
theorem dX11_digest_141 : decode cX11_digest 141 = .ok (.aload_n 0, 1) := by decide +kernel
theorem dX11_digest_142 : decode cX11_digest 142 = .ok (.aload_n 0, 1) := by decide +kernel
theorem dX11_digest_143 : decode cX11_digest 143 = .ok (.getfield 13, 3) := by decide +kernel
theorem dX11_digest_146 : decode cX11_digest 146 = .ok (.iload_n 1, 1) := by decide +kernel
theorem dX11_digest_147 : decode cX11_digest 147 = .ok (.iaload, 1) := by decide +kernel
theorem dX11_digest_148 : decode cX11_digest 148 = .ok (.i2l, 1) := by decide +kernel
theorem dX11_digest_149 : decode cX11_digest 149 = .ok (.invokevirtual 260, 3) := by decide +kernel
theorem dX11_digest_152 : decode cX11_digest 152 = .ok (.iconst 0, 1) := by decide +kernel
theorem dX11_digest_153 : decode cX11_digest 153 = .ok (.istore_n 2, 1) := by decide +kernel
theorem dX11_digest_154 : decode cX11_digest 154 = .ok (.iload_n 2, 1) := by decide +kernel
theorem dX11_digest_155 : decode cX11_digest 155 = .ok (.aload_n 0, 1) := by decide +kernel
theorem dX11_digest_156 : decode cX11_digest 156 = .ok (.getfield 13, 3) := by decide +kernel
theorem dX11_digest_159 : decode cX11_digest 159 = .ok (.iload_n 1, 1) := by decide +kernel
theorem dX11_digest_160 : decode cX11_digest 160 = .ok (.iaload, 1) := by decide +kernel
theorem dX11_digest_161 : decode cX11_digest 161 = .ok (.if_icmp .ge 25, 3) := by decide +kernel
theorem dX11_digest_164 : decode cX11_digest 164 = .ok (.aload_n 0, 1) := by decide +kernel
theorem dX11_digest_165 : decode cX11_digest 165 = .ok (.aload_n 0, 1) := by decide +kernel
theorem dX11_digest_166 : decode cX11_digest 166 = .ok (.getfield 16, 3) := by decide +kernel
theorem dX11_digest_169 : decode cX11_digest 169 = .ok (.bipush 40, 2) := by decide +kernel
theorem dX11_digest_171 : decode cX11_digest 171 = .ok (.iload_n 1, 1) := by decide +kernel
theorem dX11_digest_172 : decode cX11_digest 172 = .ok (.imul, 1) := by decide +kernel
theorem dX11_digest_173 : decode cX11_digest 173 = .ok (.iload_n 2, 1) := by decide +kernel
theorem dX11_digest_174 : decode cX11_digest 174 = .ok (.iadd, 1) := by decide +kernel
theorem dX11_digest_175 : decode cX11_digest 175 = .ok (.iaload, 1) := by decide +kernel
theorem dX11_digest_176 : decode cX11_digest 176 = .ok (.i2l, 1) := by decide +kernel
theorem dX11_digest_177 : decode cX11_digest 177 = .ok (.invokevirtual 260, 3) := by decide +kernel
theorem dX11_digest_180 : decode cX11_digest 180 = .ok (.iinc 2 1, 3) := by decide +kernel
theorem dX11_digest_183 : decode cX11_digest 183 = .ok (.goto (-29), 3) := by decide +kernel
theorem dX11_digest_186 : decode cX11_digest 186 = .ok (.iinc 1 1, 3) := by decide +kernel
theorem dX11_digest_189 : decode cX11_digest 189 = .ok (.goto (-54), 3) := by decide +kernel
theorem dX11_digest_192 : decode cX11_digest 192 = .ok (.iconst 0, 1) := by decide +kernel
theorem dX11_digest_193 : decode cX11_digest 193 = .ok (.istore_n 1, 1) := by decide +kernel
theorem dX11_digest_194 : decode cX11_digest 194 = .ok (.iload_n 1, 1) := by decide +kernel
theorem dX11_digest_195 : decode cX11_digest 195 = .ok (.iconst 4, 1) := by decide +kernel
theorem dX11_digest_196 : decode cX11_digest 196 = .ok (.if_icmp .ge 54, 3) := by decide +kernel
theorem dX11_digest_199 : decode cX11_digest 199 = .ok (.aload_n 0, 1) := by decide +kernel
theorem dX11_digest_200 : decode cX11_digest 200 = .ok (.aload_n 0, 1) := by decide +kernel
theorem dX11_digest_201 : decode cX11_digest 201 = .ok (.getfield 19, 3) := by decide +kernel
theorem dX11_digest_204 : decode cX11_digest 204 = .ok (.iload_n 1, 1) := by decide +kernel
theorem dX11_digest_205 : decode cX11_digest 205 = .ok (.iaload, 1) := by decide +kernel
theorem dX11_digest_206 : decode cX11_digest 206 = .ok (.i2l, 1) := by decide +kernel
theorem dX11_digest_207 : decode cX11_digest 207 = .ok (.invokevirtual 260, 3) := by decide +kernel
theorem dX11_digest_210 : decode cX11_digest 210 = .ok (.iconst 0, 1) := by decide +kernel
theorem dX11_digest_211 : decode cX11_digest 211 = .ok (.istore_n 2, 1) := by decide +kernel
theorem dX11_digest_212 : decode cX11_digest 212 = .ok (.iload_n 2, 1) := by decide +kernel
theorem dX11_digest_213 : decode cX11_digest 213 = .ok (.aload_n 0, 1) := by decide +kernel
theorem dX11_digest_214 : decode cX11_digest 214 = .ok (.getfield 19, 3) := by decide +kernel
theorem dX11_digest_217 : decode cX11_digest 217 = .ok (.iload_n 1, 1) := by decide +kernel
theorem dX11_digest_218 : decode cX11_digest 218 = .ok (.iaload, 1) := by decide +kernel
theorem dX11_digest_219 : decode cX11_digest 219 = .ok (.if_icmp .ge 25, 3) := by decide +kernel
theorem dX11_digest_222 : decode cX11_digest 222 = .ok (.aload_n 0, 1) := by decide +kernel
theorem dX11_digest_223 : decode cX11_digest 223 = .ok (.aload_n 0, 1) := by decide +kernel
theorem dX11_digest_224 : decode cX11_digest 224 = .ok (.getfield 22, 3) := by decide +kernel
theorem dX11_digest_227 : decode cX11_digest 227 = .ok (.bipush 60, 2) := by decide +kernel
theorem dX11_digest_229 : decode cX11_digest 229 = .ok (.iload_n 1, 1) := by decide +kernel
theorem dX11_digest_230 : decode cX11_digest 230 = .ok (.imul, 1) := by decide +kernel
theorem dX11_digest_231 : decode cX11_digest 231 = .ok (.iload_n 2, 1) := by decide +kernel
theorem dX11_digest_232 : decode cX11_digest 232 = .ok (.iadd, 1) := by decide +kernel
theorem dX11_digest_233 : decode cX11_digest 233 = .ok (.iaload, 1) := by decide +kernel
theorem dX11_digest_234 : decode cX11_digest 234 = .ok (.i2l, 1) := by decide +kernel
theorem dX11_digest_235 : decode cX11_digest 235 = .ok (.invokevirtual 260, 3) := by decide +kernel
theorem dX11_digest_238 : decode cX11_digest 238 = .ok (.iinc 2 1, 3) := by decide +kernel
theorem dX11_digest_241 : decode cX11_digest 241 = .ok (.goto (-29), 3) := by decide +kernel
theorem dX11_digest_244 : decode cX11_digest 244 = .ok (.iinc 1 1, 3) := by decide +kernel
theorem dX11_digest_247 : decode cX11_digest 247 = .ok (.goto (-53), 3) := by decide +kernel
theorem dX11_digest_250 : decode cX11_digest 250 = .ok (.aload_n 0, 1) := by decide +kernel
theorem dX11_digest_251 : decode cX11_digest 251 = .ok (.getfield 252, 3) := by decide +kernel
theorem dX11_digest_254 : decode cX11_digest 254 = .ok (.lreturn, 1) := by decide +kernel
theorem dJ9_max_7cf53_0 : decode cJ9_max_7cf53 0 = .ok (.iload_n 0, 1) := by decide +kernel
theorem dJ9_max_7cf53_1 : decode cJ9_max_7cf53 1 = .ok (.iload_n 1, 1) := by decide +kernel
theorem dJ9_max_7cf53_2 : decode cJ9_max_7cf53 2 = .ok (.if_icmp .lt 7, 3) := by decide +kernel
theorem dJ9_max_7cf53_5 : decode cJ9_max_7cf53 5 = .ok (.iload_n 0, 1) := by decide +kernel
theorem dJ9_max_7cf53_6 : decode cJ9_max_7cf53 6 = .ok (.goto 4, 3) := by decide +kernel
theorem dJ9_max_7cf53_9 : decode cJ9_max_7cf53 9 = .ok (.iload_n 1, 1) := by decide +kernel
theorem dJ9_max_7cf53_10 : decode cJ9_max_7cf53 10 = .ok (.ireturn, 1) := by decide +kernel
theorem dJ9_min_7cf53_0 : decode cJ9_min_7cf53 0 = .ok (.iload_n 0, 1) := by decide +kernel
theorem dJ9_min_7cf53_1 : decode cJ9_min_7cf53 1 = .ok (.iload_n 1, 1) := by decide +kernel
theorem dJ9_min_7cf53_2 : decode cJ9_min_7cf53 2 = .ok (.if_icmp .gt 7, 3) := by decide +kernel
theorem dJ9_min_7cf53_5 : decode cJ9_min_7cf53 5 = .ok (.iload_n 0, 1) := by decide +kernel
theorem dJ9_min_7cf53_6 : decode cJ9_min_7cf53 6 = .ok (.goto 4, 3) := by decide +kernel
theorem dJ9_min_7cf53_9 : decode cJ9_min_7cf53 9 = .ok (.iload_n 1, 1) := by decide +kernel
theorem dJ9_min_7cf53_10 : decode cJ9_min_7cf53 10 = .ok (.ireturn, 1) := by decide +kernel
theorem dL_law_0 : decode cL_law 0 = .ok (.new 7, 3) := by decide +kernel
theorem dL_law_3 : decode cL_law 3 = .ok (.dup, 1) := by decide +kernel
theorem dL_law_4 : decode cL_law 4 = .ok (.invokespecial 9, 3) := by decide +kernel
theorem dL_law_7 : decode cL_law 7 = .ok (.astore_n 1, 1) := by decide +kernel
theorem dL_law_8 : decode cL_law 8 = .ok (.new 10, 3) := by decide +kernel
theorem dL_law_11 : decode cL_law 11 = .ok (.dup, 1) := by decide +kernel
theorem dL_law_12 : decode cL_law 12 = .ok (.invokespecial 12, 3) := by decide +kernel
theorem dL_law_15 : decode cL_law 15 = .ok (.astore_n 2, 1) := by decide +kernel
theorem dL_law_16 : decode cL_law 16 = .ok (.iconst 0, 1) := by decide +kernel
theorem dL_law_17 : decode cL_law 17 = .ok (.istore_n 3, 1) := by decide +kernel
theorem dL_law_18 : decode cL_law 18 = .ok (.iload_n 3, 1) := by decide +kernel
theorem dL_law_19 : decode cL_law 19 = .ok (.aload_n 0, 1) := by decide +kernel
theorem dL_law_20 : decode cL_law 20 = .ok (.arraylength, 1) := by decide +kernel
theorem dL_law_21 : decode cL_law 21 = .ok (.bipush 6, 2) := by decide +kernel
theorem dL_law_23 : decode cL_law 23 = .ok (.isub, 1) := by decide +kernel
theorem dL_law_24 : decode cL_law 24 = .ok (.if_icmp .gt 1340, 3) := by decide +kernel
theorem dL_law_27 : decode cL_law 27 = .ok (.aload_n 0, 1) := by decide +kernel
theorem dL_law_28 : decode cL_law 28 = .ok (.iload_n 3, 1) := by decide +kernel
theorem dL_law_29 : decode cL_law 29 = .ok (.iaload, 1) := by decide +kernel
theorem dL_law_30 : decode cL_law 30 = .ok (.bipush 63, 2) := by decide +kernel
theorem dL_law_32 : decode cL_law 32 = .ok (.iand, 1) := by decide +kernel
theorem dL_law_33 : decode cL_law 33 = .ok (.tableswitch 1325 0 40 #[179, 212, 255, 288, 311, 374, 397, 430, 473, 496, 519, 552, 585, 618, 641, 654, 687, 710, 733, 756, 779, 802, 815, 838, 881, 924, 957, 990, 1023, 1056, 1079, 1112, 1145, 1178, 1211, 1224, 1238, 1252, 1275, 1288, 1311], 179) := by decide +kernel
theorem dL_law_212 : decode cL_law 212 = .ok (.aload_n 1, 1) := by decide +kernel
theorem dL_law_213 : decode cL_law 213 = .ok (.aload_n 0, 1) := by decide +kernel
theorem dL_law_214 : decode cL_law 214 = .ok (.iload_n 3, 1) := by decide +kernel
theorem dL_law_215 : decode cL_law 215 = .ok (.iconst 1, 1) := by decide +kernel
theorem dL_law_216 : decode cL_law 216 = .ok (.iadd, 1) := by decide +kernel
theorem dL_law_217 : decode cL_law 217 = .ok (.iaload, 1) := by decide +kernel
theorem dL_law_218 : decode cL_law 218 = .ok (.aload_n 0, 1) := by decide +kernel
theorem dL_law_219 : decode cL_law 219 = .ok (.iload_n 3, 1) := by decide +kernel
theorem dL_law_220 : decode cL_law 220 = .ok (.iconst 2, 1) := by decide +kernel
theorem dL_law_221 : decode cL_law 221 = .ok (.iadd, 1) := by decide +kernel
theorem dL_law_222 : decode cL_law 222 = .ok (.iaload, 1) := by decide +kernel
theorem dL_law_223 : decode cL_law 223 = .ok (.invokevirtual 13, 3) := by decide +kernel
theorem dL_law_226 : decode cL_law 226 = .ok (.aload_n 2, 1) := by decide +kernel
theorem dL_law_227 : decode cL_law 227 = .ok (.aload_n 0, 1) := by decide +kernel
theorem dL_law_228 : decode cL_law 228 = .ok (.iload_n 3, 1) := by decide +kernel
theorem dL_law_229 : decode cL_law 229 = .ok (.iconst 1, 1) := by decide +kernel
theorem dL_law_230 : decode cL_law 230 = .ok (.iadd, 1) := by decide +kernel
theorem dL_law_231 : decode cL_law 231 = .ok (.iaload, 1) := by decide +kernel
theorem dL_law_232 : decode cL_law 232 = .ok (.aload_n 0, 1) := by decide +kernel
theorem dL_law_233 : decode cL_law 233 = .ok (.iload_n 3, 1) := by decide +kernel
theorem dL_law_234 : decode cL_law 234 = .ok (.iconst 2, 1) := by decide +kernel
theorem dL_law_235 : decode cL_law 235 = .ok (.iadd, 1) := by decide +kernel
theorem dL_law_236 : decode cL_law 236 = .ok (.iaload, 1) := by decide +kernel
theorem dL_law_237 : decode cL_law 237 = .ok (.invokevirtual 17, 3) := by decide +kernel
theorem dL_law_240 : decode cL_law 240 = .ok (.if_icmp .eq 1118, 3) := by decide +kernel
theorem dL_law_243 : decode cL_law 243 = .ok (.iconst 0, 1) := by decide +kernel
theorem dL_law_244 : decode cL_law 244 = .ok (.ireturn, 1) := by decide +kernel
theorem dL_law_245 : decode cL_law 245 = .ok (.aload_n 1, 1) := by decide +kernel
theorem dL_law_246 : decode cL_law 246 = .ok (.aload_n 0, 1) := by decide +kernel
theorem dL_law_247 : decode cL_law 247 = .ok (.iload_n 3, 1) := by decide +kernel
theorem dL_law_248 : decode cL_law 248 = .ok (.iconst 1, 1) := by decide +kernel
theorem dL_law_249 : decode cL_law 249 = .ok (.iadd, 1) := by decide +kernel
theorem dL_law_250 : decode cL_law 250 = .ok (.iaload, 1) := by decide +kernel
theorem dL_law_251 : decode cL_law 251 = .ok (.aload_n 0, 1) := by decide +kernel
theorem dL_law_252 : decode cL_law 252 = .ok (.iload_n 3, 1) := by decide +kernel
theorem dL_law_253 : decode cL_law 253 = .ok (.iconst 2, 1) := by decide +kernel
theorem dL_law_254 : decode cL_law 254 = .ok (.iadd, 1) := by decide +kernel
theorem dL_law_255 : decode cL_law 255 = .ok (.iaload, 1) := by decide +kernel
theorem dL_law_256 : decode cL_law 256 = .ok (.aload_n 0, 1) := by decide +kernel
theorem dL_law_257 : decode cL_law 257 = .ok (.iload_n 3, 1) := by decide +kernel
theorem dL_law_258 : decode cL_law 258 = .ok (.iconst 3, 1) := by decide +kernel
theorem dL_law_259 : decode cL_law 259 = .ok (.iadd, 1) := by decide +kernel
theorem dL_law_260 : decode cL_law 260 = .ok (.iaload, 1) := by decide +kernel
theorem dL_law_261 : decode cL_law 261 = .ok (.invokevirtual 18, 3) := by decide +kernel
theorem dL_law_264 : decode cL_law 264 = .ok (.aload_n 2, 1) := by decide +kernel
theorem dL_law_265 : decode cL_law 265 = .ok (.aload_n 0, 1) := by decide +kernel
theorem dL_law_266 : decode cL_law 266 = .ok (.iload_n 3, 1) := by decide +kernel
theorem dL_law_267 : decode cL_law 267 = .ok (.iconst 1, 1) := by decide +kernel
theorem dL_law_268 : decode cL_law 268 = .ok (.iadd, 1) := by decide +kernel
theorem dL_law_269 : decode cL_law 269 = .ok (.iaload, 1) := by decide +kernel
theorem dL_law_270 : decode cL_law 270 = .ok (.aload_n 0, 1) := by decide +kernel
theorem dL_law_271 : decode cL_law 271 = .ok (.iload_n 3, 1) := by decide +kernel
theorem dL_law_272 : decode cL_law 272 = .ok (.iconst 2, 1) := by decide +kernel
theorem dL_law_273 : decode cL_law 273 = .ok (.iadd, 1) := by decide +kernel
theorem dL_law_274 : decode cL_law 274 = .ok (.iaload, 1) := by decide +kernel
theorem dL_law_275 : decode cL_law 275 = .ok (.aload_n 0, 1) := by decide +kernel
theorem dL_law_276 : decode cL_law 276 = .ok (.iload_n 3, 1) := by decide +kernel
theorem dL_law_277 : decode cL_law 277 = .ok (.iconst 3, 1) := by decide +kernel
theorem dL_law_278 : decode cL_law 278 = .ok (.iadd, 1) := by decide +kernel
theorem dL_law_279 : decode cL_law 279 = .ok (.iaload, 1) := by decide +kernel
theorem dL_law_280 : decode cL_law 280 = .ok (.invokevirtual 22, 3) := by decide +kernel
theorem dL_law_283 : decode cL_law 283 = .ok (.if_icmp .eq 1075, 3) := by decide +kernel
theorem dL_law_286 : decode cL_law 286 = .ok (.iconst 0, 1) := by decide +kernel
theorem dL_law_287 : decode cL_law 287 = .ok (.ireturn, 1) := by decide +kernel
theorem dL_law_288 : decode cL_law 288 = .ok (.aload_n 1, 1) := by decide +kernel
theorem dL_law_289 : decode cL_law 289 = .ok (.aload_n 0, 1) := by decide +kernel
theorem dL_law_290 : decode cL_law 290 = .ok (.iload_n 3, 1) := by decide +kernel
theorem dL_law_291 : decode cL_law 291 = .ok (.iconst 1, 1) := by decide +kernel
theorem dL_law_292 : decode cL_law 292 = .ok (.iadd, 1) := by decide +kernel
theorem dL_law_293 : decode cL_law 293 = .ok (.iaload, 1) := by decide +kernel
theorem dL_law_294 : decode cL_law 294 = .ok (.aload_n 0, 1) := by decide +kernel
theorem dL_law_295 : decode cL_law 295 = .ok (.iload_n 3, 1) := by decide +kernel
theorem dL_law_296 : decode cL_law 296 = .ok (.iconst 2, 1) := by decide +kernel
theorem dL_law_297 : decode cL_law 297 = .ok (.iadd, 1) := by decide +kernel
theorem dL_law_298 : decode cL_law 298 = .ok (.iaload, 1) := by decide +kernel
theorem dL_law_299 : decode cL_law 299 = .ok (.invokevirtual 23, 3) := by decide +kernel
theorem dL_law_302 : decode cL_law 302 = .ok (.aload_n 2, 1) := by decide +kernel
theorem dL_law_303 : decode cL_law 303 = .ok (.aload_n 0, 1) := by decide +kernel
theorem dL_law_304 : decode cL_law 304 = .ok (.iload_n 3, 1) := by decide +kernel
theorem dL_law_305 : decode cL_law 305 = .ok (.iconst 1, 1) := by decide +kernel
theorem dL_law_306 : decode cL_law 306 = .ok (.iadd, 1) := by decide +kernel
theorem dL_law_307 : decode cL_law 307 = .ok (.iaload, 1) := by decide +kernel
theorem dL_law_308 : decode cL_law 308 = .ok (.aload_n 0, 1) := by decide +kernel
theorem dL_law_309 : decode cL_law 309 = .ok (.iload_n 3, 1) := by decide +kernel
theorem dL_law_310 : decode cL_law 310 = .ok (.iconst 2, 1) := by decide +kernel
theorem dL_law_311 : decode cL_law 311 = .ok (.iadd, 1) := by decide +kernel
theorem dL_law_312 : decode cL_law 312 = .ok (.iaload, 1) := by decide +kernel
theorem dL_law_313 : decode cL_law 313 = .ok (.invokevirtual 26, 3) := by decide +kernel
theorem dL_law_316 : decode cL_law 316 = .ok (.if_icmp .eq 1042, 3) := by decide +kernel
theorem dL_law_319 : decode cL_law 319 = .ok (.iconst 0, 1) := by decide +kernel
theorem dL_law_320 : decode cL_law 320 = .ok (.ireturn, 1) := by decide +kernel
theorem dL_law_321 : decode cL_law 321 = .ok (.aload_n 1, 1) := by decide +kernel
theorem dL_law_322 : decode cL_law 322 = .ok (.aload_n 0, 1) := by decide +kernel
theorem dL_law_323 : decode cL_law 323 = .ok (.iload_n 3, 1) := by decide +kernel
theorem dL_law_324 : decode cL_law 324 = .ok (.iconst 1, 1) := by decide +kernel
theorem dL_law_325 : decode cL_law 325 = .ok (.iadd, 1) := by decide +kernel
theorem dL_law_326 : decode cL_law 326 = .ok (.iaload, 1) := by decide +kernel
theorem dL_law_327 : decode cL_law 327 = .ok (.invokevirtual 27, 3) := by decide +kernel
theorem dL_law_330 : decode cL_law 330 = .ok (.aload_n 2, 1) := by decide +kernel
theorem dL_law_331 : decode cL_law 331 = .ok (.aload_n 0, 1) := by decide +kernel
theorem dL_law_332 : decode cL_law 332 = .ok (.iload_n 3, 1) := by decide +kernel
theorem dL_law_333 : decode cL_law 333 = .ok (.iconst 1, 1) := by decide +kernel
theorem dL_law_334 : decode cL_law 334 = .ok (.iadd, 1) := by decide +kernel
theorem dL_law_335 : decode cL_law 335 = .ok (.iaload, 1) := by decide +kernel
theorem dL_law_336 : decode cL_law 336 = .ok (.invokevirtual 31, 3) := by decide +kernel
theorem dL_law_339 : decode cL_law 339 = .ok (.if_icmp .eq 1019, 3) := by decide +kernel
theorem dL_law_342 : decode cL_law 342 = .ok (.iconst 0, 1) := by decide +kernel
theorem dL_law_343 : decode cL_law 343 = .ok (.ireturn, 1) := by decide +kernel
theorem dL_law_344 : decode cL_law 344 = .ok (.aload_n 1, 1) := by decide +kernel
theorem dL_law_345 : decode cL_law 345 = .ok (.aload_n 0, 1) := by decide +kernel
theorem dL_law_346 : decode cL_law 346 = .ok (.iload_n 3, 1) := by decide +kernel
theorem dL_law_347 : decode cL_law 347 = .ok (.iconst 1, 1) := by decide +kernel
theorem dL_law_348 : decode cL_law 348 = .ok (.iadd, 1) := by decide +kernel
theorem dL_law_349 : decode cL_law 349 = .ok (.iaload, 1) := by decide +kernel
theorem dL_law_350 : decode cL_law 350 = .ok (.aload_n 0, 1) := by decide +kernel
theorem dL_law_351 : decode cL_law 351 = .ok (.iload_n 3, 1) := by decide +kernel
theorem dL_law_352 : decode cL_law 352 = .ok (.iconst 2, 1) := by decide +kernel
theorem dL_law_353 : decode cL_law 353 = .ok (.iadd, 1) := by decide +kernel
theorem dL_law_354 : decode cL_law 354 = .ok (.iaload, 1) := by decide +kernel
theorem dL_law_355 : decode cL_law 355 = .ok (.aload_n 0, 1) := by decide +kernel
theorem dL_law_356 : decode cL_law 356 = .ok (.iload_n 3, 1) := by decide +kernel
theorem dL_law_357 : decode cL_law 357 = .ok (.iconst 3, 1) := by decide +kernel
theorem dL_law_358 : decode cL_law 358 = .ok (.iadd, 1) := by decide +kernel
theorem dL_law_359 : decode cL_law 359 = .ok (.iaload, 1) := by decide +kernel
theorem dL_law_360 : decode cL_law 360 = .ok (.aload_n 0, 1) := by decide +kernel
theorem dL_law_361 : decode cL_law 361 = .ok (.iload_n 3, 1) := by decide +kernel
theorem dL_law_362 : decode cL_law 362 = .ok (.iconst 4, 1) := by decide +kernel
theorem dL_law_363 : decode cL_law 363 = .ok (.iadd, 1) := by decide +kernel
theorem dL_law_364 : decode cL_law 364 = .ok (.iaload, 1) := by decide +kernel
theorem dL_law_365 : decode cL_law 365 = .ok (.aload_n 0, 1) := by decide +kernel
theorem dL_law_366 : decode cL_law 366 = .ok (.iload_n 3, 1) := by decide +kernel
theorem dL_law_367 : decode cL_law 367 = .ok (.iconst 5, 1) := by decide +kernel
theorem dL_law_368 : decode cL_law 368 = .ok (.iadd, 1) := by decide +kernel
theorem dL_law_369 : decode cL_law 369 = .ok (.iaload, 1) := by decide +kernel
theorem dL_law_370 : decode cL_law 370 = .ok (.invokevirtual 32, 3) := by decide +kernel
theorem dL_law_373 : decode cL_law 373 = .ok (.aload_n 2, 1) := by decide +kernel
theorem dL_law_374 : decode cL_law 374 = .ok (.aload_n 0, 1) := by decide +kernel
theorem dL_law_375 : decode cL_law 375 = .ok (.iload_n 3, 1) := by decide +kernel
theorem dL_law_376 : decode cL_law 376 = .ok (.iconst 1, 1) := by decide +kernel
theorem dL_law_377 : decode cL_law 377 = .ok (.iadd, 1) := by decide +kernel
theorem dL_law_378 : decode cL_law 378 = .ok (.iaload, 1) := by decide +kernel
theorem dL_law_379 : decode cL_law 379 = .ok (.aload_n 0, 1) := by decide +kernel
theorem dL_law_380 : decode cL_law 380 = .ok (.iload_n 3, 1) := by decide +kernel
theorem dL_law_381 : decode cL_law 381 = .ok (.iconst 2, 1) := by decide +kernel
theorem dL_law_382 : decode cL_law 382 = .ok (.iadd, 1) := by decide +kernel
theorem dL_law_383 : decode cL_law 383 = .ok (.iaload, 1) := by decide +kernel
theorem dL_law_384 : decode cL_law 384 = .ok (.aload_n 0, 1) := by decide +kernel
theorem dL_law_385 : decode cL_law 385 = .ok (.iload_n 3, 1) := by decide +kernel
theorem dL_law_386 : decode cL_law 386 = .ok (.iconst 3, 1) := by decide +kernel
theorem dL_law_387 : decode cL_law 387 = .ok (.iadd, 1) := by decide +kernel
theorem dL_law_388 : decode cL_law 388 = .ok (.iaload, 1) := by decide +kernel
theorem dL_law_389 : decode cL_law 389 = .ok (.aload_n 0, 1) := by decide +kernel
theorem dL_law_390 : decode cL_law 390 = .ok (.iload_n 3, 1) := by decide +kernel
theorem dL_law_391 : decode cL_law 391 = .ok (.iconst 4, 1) := by decide +kernel
theorem dL_law_392 : decode cL_law 392 = .ok (.iadd, 1) := by decide +kernel
theorem dL_law_393 : decode cL_law 393 = .ok (.iaload, 1) := by decide +kernel
theorem dL_law_394 : decode cL_law 394 = .ok (.aload_n 0, 1) := by decide +kernel
theorem dL_law_395 : decode cL_law 395 = .ok (.iload_n 3, 1) := by decide +kernel
theorem dL_law_396 : decode cL_law 396 = .ok (.iconst 5, 1) := by decide +kernel
theorem dL_law_397 : decode cL_law 397 = .ok (.iadd, 1) := by decide +kernel
theorem dL_law_398 : decode cL_law 398 = .ok (.iaload, 1) := by decide +kernel
theorem dL_law_399 : decode cL_law 399 = .ok (.invokevirtual 36, 3) := by decide +kernel
theorem dL_law_402 : decode cL_law 402 = .ok (.if_icmp .eq 956, 3) := by decide +kernel
theorem dL_law_405 : decode cL_law 405 = .ok (.iconst 0, 1) := by decide +kernel
theorem dL_law_406 : decode cL_law 406 = .ok (.ireturn, 1) := by decide +kernel
theorem dL_law_407 : decode cL_law 407 = .ok (.aload_n 1, 1) := by decide +kernel
theorem dL_law_408 : decode cL_law 408 = .ok (.aload_n 0, 1) := by decide +kernel
theorem dL_law_409 : decode cL_law 409 = .ok (.iload_n 3, 1) := by decide +kernel
theorem dL_law_410 : decode cL_law 410 = .ok (.iconst 1, 1) := by decide +kernel
theorem dL_law_411 : decode cL_law 411 = .ok (.iadd, 1) := by decide +kernel
theorem dL_law_412 : decode cL_law 412 = .ok (.iaload, 1) := by decide +kernel
theorem dL_law_413 : decode cL_law 413 = .ok (.invokevirtual 37, 3) := by decide +kernel
theorem dL_law_416 : decode cL_law 416 = .ok (.aload_n 2, 1) := by decide +kernel
theorem dL_law_417 : decode cL_law 417 = .ok (.aload_n 0, 1) := by decide +kernel
theorem dL_law_418 : decode cL_law 418 = .ok (.iload_n 3, 1) := by decide +kernel
theorem dL_law_419 : decode cL_law 419 = .ok (.iconst 1, 1) := by decide +kernel
theorem dL_law_420 : decode cL_law 420 = .ok (.iadd, 1) := by decide +kernel
theorem dL_law_421 : decode cL_law 421 = .ok (.iaload, 1) := by decide +kernel
theorem dL_law_422 : decode cL_law 422 = .ok (.invokevirtual 40, 3) := by decide +kernel
theorem dL_law_425 : decode cL_law 425 = .ok (.if_icmp .eq 933, 3) := by decide +kernel
theorem dL_law_428 : decode cL_law 428 = .ok (.iconst 0, 1) := by decide +kernel
theorem dL_law_429 : decode cL_law 429 = .ok (.ireturn, 1) := by decide +kernel
theorem dL_law_430 : decode cL_law 430 = .ok (.aload_n 1, 1) := by decide +kernel
theorem dL_law_431 : decode cL_law 431 = .ok (.aload_n 0, 1) := by decide +kernel
theorem dL_law_432 : decode cL_law 432 = .ok (.iload_n 3, 1) := by decide +kernel
theorem dL_law_433 : decode cL_law 433 = .ok (.iconst 1, 1) := by decide +kernel
theorem dL_law_434 : decode cL_law 434 = .ok (.iadd, 1) := by decide +kernel
theorem dL_law_435 : decode cL_law 435 = .ok (.iaload, 1) := by decide +kernel
theorem dL_law_436 : decode cL_law 436 = .ok (.aload_n 0, 1) := by decide +kernel
theorem dL_law_437 : decode cL_law 437 = .ok (.iload_n 3, 1) := by decide +kernel
theorem dL_law_438 : decode cL_law 438 = .ok (.iconst 2, 1) := by decide +kernel
theorem dL_law_439 : decode cL_law 439 = .ok (.iadd, 1) := by decide +kernel
theorem dL_law_440 : decode cL_law 440 = .ok (.iaload, 1) := by decide +kernel
theorem dL_law_441 : decode cL_law 441 = .ok (.invokevirtual 41, 3) := by decide +kernel
theorem dL_law_444 : decode cL_law 444 = .ok (.aload_n 2, 1) := by decide +kernel
theorem dL_law_445 : decode cL_law 445 = .ok (.aload_n 0, 1) := by decide +kernel
theorem dL_law_446 : decode cL_law 446 = .ok (.iload_n 3, 1) := by decide +kernel
theorem dL_law_447 : decode cL_law 447 = .ok (.iconst 1, 1) := by decide +kernel
theorem dL_law_448 : decode cL_law 448 = .ok (.iadd, 1) := by decide +kernel
theorem dL_law_449 : decode cL_law 449 = .ok (.iaload, 1) := by decide +kernel
theorem dL_law_450 : decode cL_law 450 = .ok (.aload_n 0, 1) := by decide +kernel
theorem dL_law_451 : decode cL_law 451 = .ok (.iload_n 3, 1) := by decide +kernel
theorem dL_law_452 : decode cL_law 452 = .ok (.iconst 2, 1) := by decide +kernel
theorem dL_law_453 : decode cL_law 453 = .ok (.iadd, 1) := by decide +kernel
theorem dL_law_454 : decode cL_law 454 = .ok (.iaload, 1) := by decide +kernel
theorem dL_law_455 : decode cL_law 455 = .ok (.invokevirtual 44, 3) := by decide +kernel
theorem dL_law_458 : decode cL_law 458 = .ok (.if_icmp .eq 900, 3) := by decide +kernel
theorem dL_law_461 : decode cL_law 461 = .ok (.iconst 0, 1) := by decide +kernel
theorem dL_law_462 : decode cL_law 462 = .ok (.ireturn, 1) := by decide +kernel
theorem dL_law_463 : decode cL_law 463 = .ok (.aload_n 1, 1) := by decide +kernel
theorem dL_law_464 : decode cL_law 464 = .ok (.aload_n 0, 1) := by decide +kernel
theorem dL_law_465 : decode cL_law 465 = .ok (.iload_n 3, 1) := by decide +kernel
theorem dL_law_466 : decode cL_law 466 = .ok (.iconst 1, 1) := by decide +kernel
theorem dL_law_467 : decode cL_law 467 = .ok (.iadd, 1) := by decide +kernel
theorem dL_law_468 : decode cL_law 468 = .ok (.iaload, 1) := by decide +kernel
theorem dL_law_469 : decode cL_law 469 = .ok (.aload_n 0, 1) := by decide +kernel
theorem dL_law_470 : decode cL_law 470 = .ok (.iload_n 3, 1) := by decide +kernel
theorem dL_law_471 : decode cL_law 471 = .ok (.iconst 2, 1) := by decide +kernel
theorem dL_law_472 : decode cL_law 472 = .ok (.iadd, 1) := by decide +kernel
theorem dL_law_473 : decode cL_law 473 = .ok (.iaload, 1) := by decide +kernel
theorem dL_law_474 : decode cL_law 474 = .ok (.aload_n 0, 1) := by decide +kernel
theorem dL_law_475 : decode cL_law 475 = .ok (.iload_n 3, 1) := by decide +kernel
theorem dL_law_476 : decode cL_law 476 = .ok (.iconst 3, 1) := by decide +kernel
theorem dL_law_477 : decode cL_law 477 = .ok (.iadd, 1) := by decide +kernel
theorem dL_law_478 : decode cL_law 478 = .ok (.iaload, 1) := by decide +kernel
theorem dL_law_479 : decode cL_law 479 = .ok (.invokevirtual 45, 3) := by decide +kernel
theorem dL_law_482 : decode cL_law 482 = .ok (.aload_n 2, 1) := by decide +kernel
theorem dL_law_483 : decode cL_law 483 = .ok (.aload_n 0, 1) := by decide +kernel
theorem dL_law_484 : decode cL_law 484 = .ok (.iload_n 3, 1) := by decide +kernel
theorem dL_law_485 : decode cL_law 485 = .ok (.iconst 1, 1) := by decide +kernel
theorem dL_law_486 : decode cL_law 486 = .ok (.iadd, 1) := by decide +kernel
theorem dL_law_487 : decode cL_law 487 = .ok (.iaload, 1) := by decide +kernel
theorem dL_law_488 : decode cL_law 488 = .ok (.aload_n 0, 1) := by decide +kernel
theorem dL_law_489 : decode cL_law 489 = .ok (.iload_n 3, 1) := by decide +kernel
theorem dL_law_490 : decode cL_law 490 = .ok (.iconst 2, 1) := by decide +kernel
theorem dL_law_491 : decode cL_law 491 = .ok (.iadd, 1) := by decide +kernel
theorem dL_law_492 : decode cL_law 492 = .ok (.iaload, 1) := by decide +kernel
theorem dL_law_493 : decode cL_law 493 = .ok (.aload_n 0, 1) := by decide +kernel
theorem dL_law_494 : decode cL_law 494 = .ok (.iload_n 3, 1) := by decide +kernel
theorem dL_law_495 : decode cL_law 495 = .ok (.iconst 3, 1) := by decide +kernel
theorem dL_law_496 : decode cL_law 496 = .ok (.iadd, 1) := by decide +kernel
theorem dL_law_497 : decode cL_law 497 = .ok (.iaload, 1) := by decide +kernel
theorem dL_law_498 : decode cL_law 498 = .ok (.invokevirtual 48, 3) := by decide +kernel
theorem dL_law_501 : decode cL_law 501 = .ok (.if_icmp .eq 857, 3) := by decide +kernel
theorem dL_law_504 : decode cL_law 504 = .ok (.iconst 0, 1) := by decide +kernel
theorem dL_law_505 : decode cL_law 505 = .ok (.ireturn, 1) := by decide +kernel
theorem dL_law_506 : decode cL_law 506 = .ok (.aload_n 1, 1) := by decide +kernel
theorem dL_law_507 : decode cL_law 507 = .ok (.aload_n 0, 1) := by decide +kernel
theorem dL_law_508 : decode cL_law 508 = .ok (.iload_n 3, 1) := by decide +kernel
theorem dL_law_509 : decode cL_law 509 = .ok (.iconst 1, 1) := by decide +kernel
theorem dL_law_510 : decode cL_law 510 = .ok (.iadd, 1) := by decide +kernel
theorem dL_law_511 : decode cL_law 511 = .ok (.iaload, 1) := by decide +kernel
theorem dL_law_512 : decode cL_law 512 = .ok (.invokevirtual 49, 3) := by decide +kernel
theorem dL_law_515 : decode cL_law 515 = .ok (.aload_n 2, 1) := by decide +kernel
theorem dL_law_516 : decode cL_law 516 = .ok (.aload_n 0, 1) := by decide +kernel
theorem dL_law_517 : decode cL_law 517 = .ok (.iload_n 3, 1) := by decide +kernel
theorem dL_law_518 : decode cL_law 518 = .ok (.iconst 1, 1) := by decide +kernel
theorem dL_law_519 : decode cL_law 519 = .ok (.iadd, 1) := by decide +kernel
theorem dL_law_520 : decode cL_law 520 = .ok (.iaload, 1) := by decide +kernel
theorem dL_law_521 : decode cL_law 521 = .ok (.invokevirtual 52, 3) := by decide +kernel
theorem dL_law_524 : decode cL_law 524 = .ok (.if_icmp .eq 834, 3) := by decide +kernel
theorem dL_law_527 : decode cL_law 527 = .ok (.iconst 0, 1) := by decide +kernel
theorem dL_law_528 : decode cL_law 528 = .ok (.ireturn, 1) := by decide +kernel
theorem dL_law_529 : decode cL_law 529 = .ok (.aload_n 1, 1) := by decide +kernel
theorem dL_law_530 : decode cL_law 530 = .ok (.aload_n 0, 1) := by decide +kernel
theorem dL_law_531 : decode cL_law 531 = .ok (.iload_n 3, 1) := by decide +kernel
theorem dL_law_532 : decode cL_law 532 = .ok (.iconst 1, 1) := by decide +kernel
theorem dL_law_533 : decode cL_law 533 = .ok (.iadd, 1) := by decide +kernel
theorem dL_law_534 : decode cL_law 534 = .ok (.iaload, 1) := by decide +kernel
theorem dL_law_535 : decode cL_law 535 = .ok (.invokevirtual 53, 3) := by decide +kernel
theorem dL_law_538 : decode cL_law 538 = .ok (.aload_n 2, 1) := by decide +kernel
theorem dL_law_539 : decode cL_law 539 = .ok (.aload_n 0, 1) := by decide +kernel
theorem dL_law_540 : decode cL_law 540 = .ok (.iload_n 3, 1) := by decide +kernel
theorem dL_law_541 : decode cL_law 541 = .ok (.iconst 1, 1) := by decide +kernel
theorem dL_law_542 : decode cL_law 542 = .ok (.iadd, 1) := by decide +kernel
theorem dL_law_543 : decode cL_law 543 = .ok (.iaload, 1) := by decide +kernel
theorem dL_law_544 : decode cL_law 544 = .ok (.invokevirtual 56, 3) := by decide +kernel
theorem dL_law_547 : decode cL_law 547 = .ok (.if_icmp .eq 811, 3) := by decide +kernel
theorem dL_law_550 : decode cL_law 550 = .ok (.iconst 0, 1) := by decide +kernel
theorem dL_law_551 : decode cL_law 551 = .ok (.ireturn, 1) := by decide +kernel
theorem dL_law_552 : decode cL_law 552 = .ok (.aload_n 1, 1) := by decide +kernel
theorem dL_law_553 : decode cL_law 553 = .ok (.aload_n 0, 1) := by decide +kernel
theorem dL_law_554 : decode cL_law 554 = .ok (.iload_n 3, 1) := by decide +kernel
theorem dL_law_555 : decode cL_law 555 = .ok (.iconst 1, 1) := by decide +kernel
theorem dL_law_556 : decode cL_law 556 = .ok (.iadd, 1) := by decide +kernel
theorem dL_law_557 : decode cL_law 557 = .ok (.iaload, 1) := by decide +kernel
theorem dL_law_558 : decode cL_law 558 = .ok (.aload_n 0, 1) := by decide +kernel
theorem dL_law_559 : decode cL_law 559 = .ok (.iload_n 3, 1) := by decide +kernel
theorem dL_law_560 : decode cL_law 560 = .ok (.iconst 2, 1) := by decide +kernel
theorem dL_law_561 : decode cL_law 561 = .ok (.iadd, 1) := by decide +kernel
theorem dL_law_562 : decode cL_law 562 = .ok (.iaload, 1) := by decide +kernel
theorem dL_law_563 : decode cL_law 563 = .ok (.invokevirtual 57, 3) := by decide +kernel
theorem dL_law_566 : decode cL_law 566 = .ok (.aload_n 2, 1) := by decide +kernel
theorem dL_law_567 : decode cL_law 567 = .ok (.aload_n 0, 1) := by decide +kernel
theorem dL_law_568 : decode cL_law 568 = .ok (.iload_n 3, 1) := by decide +kernel
theorem dL_law_569 : decode cL_law 569 = .ok (.iconst 1, 1) := by decide +kernel
theorem dL_law_570 : decode cL_law 570 = .ok (.iadd, 1) := by decide +kernel
theorem dL_law_571 : decode cL_law 571 = .ok (.iaload, 1) := by decide +kernel
theorem dL_law_572 : decode cL_law 572 = .ok (.aload_n 0, 1) := by decide +kernel
theorem dL_law_573 : decode cL_law 573 = .ok (.iload_n 3, 1) := by decide +kernel
theorem dL_law_574 : decode cL_law 574 = .ok (.iconst 2, 1) := by decide +kernel
theorem dL_law_575 : decode cL_law 575 = .ok (.iadd, 1) := by decide +kernel
theorem dL_law_576 : decode cL_law 576 = .ok (.iaload, 1) := by decide +kernel
theorem dL_law_577 : decode cL_law 577 = .ok (.invokevirtual 60, 3) := by decide +kernel
theorem dL_law_580 : decode cL_law 580 = .ok (.if_icmp .eq 778, 3) := by decide +kernel
theorem dL_law_583 : decode cL_law 583 = .ok (.iconst 0, 1) := by decide +kernel
theorem dL_law_584 : decode cL_law 584 = .ok (.ireturn, 1) := by decide +kernel
theorem dL_law_585 : decode cL_law 585 = .ok (.aload_n 1, 1) := by decide +kernel
theorem dL_law_586 : decode cL_law 586 = .ok (.aload_n 0, 1) := by decide +kernel
theorem dL_law_587 : decode cL_law 587 = .ok (.iload_n 3, 1) := by decide +kernel
theorem dL_law_588 : decode cL_law 588 = .ok (.iconst 1, 1) := by decide +kernel
theorem dL_law_589 : decode cL_law 589 = .ok (.iadd, 1) := by decide +kernel
theorem dL_law_590 : decode cL_law 590 = .ok (.iaload, 1) := by decide +kernel
theorem dL_law_591 : decode cL_law 591 = .ok (.aload_n 0, 1) := by decide +kernel
theorem dL_law_592 : decode cL_law 592 = .ok (.iload_n 3, 1) := by decide +kernel
theorem dL_law_593 : decode cL_law 593 = .ok (.iconst 2, 1) := by decide +kernel
theorem dL_law_594 : decode cL_law 594 = .ok (.iadd, 1) := by decide +kernel
theorem dL_law_595 : decode cL_law 595 = .ok (.iaload, 1) := by decide +kernel
theorem dL_law_596 : decode cL_law 596 = .ok (.invokevirtual 61, 3) := by decide +kernel
theorem dL_law_599 : decode cL_law 599 = .ok (.aload_n 2, 1) := by decide +kernel
theorem dL_law_600 : decode cL_law 600 = .ok (.aload_n 0, 1) := by decide +kernel
theorem dL_law_601 : decode cL_law 601 = .ok (.iload_n 3, 1) := by decide +kernel
theorem dL_law_602 : decode cL_law 602 = .ok (.iconst 1, 1) := by decide +kernel
theorem dL_law_603 : decode cL_law 603 = .ok (.iadd, 1) := by decide +kernel
theorem dL_law_604 : decode cL_law 604 = .ok (.iaload, 1) := by decide +kernel
theorem dL_law_605 : decode cL_law 605 = .ok (.aload_n 0, 1) := by decide +kernel
theorem dL_law_606 : decode cL_law 606 = .ok (.iload_n 3, 1) := by decide +kernel
theorem dL_law_607 : decode cL_law 607 = .ok (.iconst 2, 1) := by decide +kernel
theorem dL_law_608 : decode cL_law 608 = .ok (.iadd, 1) := by decide +kernel
theorem dL_law_609 : decode cL_law 609 = .ok (.iaload, 1) := by decide +kernel
theorem dL_law_610 : decode cL_law 610 = .ok (.invokevirtual 64, 3) := by decide +kernel
theorem dL_law_613 : decode cL_law 613 = .ok (.if_icmp .eq 745, 3) := by decide +kernel
theorem dL_law_616 : decode cL_law 616 = .ok (.iconst 0, 1) := by decide +kernel
theorem dL_law_617 : decode cL_law 617 = .ok (.ireturn, 1) := by decide +kernel
theorem dL_law_618 : decode cL_law 618 = .ok (.aload_n 1, 1) := by decide +kernel
theorem dL_law_619 : decode cL_law 619 = .ok (.aload_n 0, 1) := by decide +kernel
theorem dL_law_620 : decode cL_law 620 = .ok (.iload_n 3, 1) := by decide +kernel
theorem dL_law_621 : decode cL_law 621 = .ok (.iconst 1, 1) := by decide +kernel
theorem dL_law_622 : decode cL_law 622 = .ok (.iadd, 1) := by decide +kernel
theorem dL_law_623 : decode cL_law 623 = .ok (.iaload, 1) := by decide +kernel
theorem dL_law_624 : decode cL_law 624 = .ok (.aload_n 0, 1) := by decide +kernel
theorem dL_law_625 : decode cL_law 625 = .ok (.iload_n 3, 1) := by decide +kernel
theorem dL_law_626 : decode cL_law 626 = .ok (.iconst 2, 1) := by decide +kernel
theorem dL_law_627 : decode cL_law 627 = .ok (.iadd, 1) := by decide +kernel
theorem dL_law_628 : decode cL_law 628 = .ok (.iaload, 1) := by decide +kernel
theorem dL_law_629 : decode cL_law 629 = .ok (.invokevirtual 65, 3) := by decide +kernel
theorem dL_law_632 : decode cL_law 632 = .ok (.aload_n 2, 1) := by decide +kernel
theorem dL_law_633 : decode cL_law 633 = .ok (.aload_n 0, 1) := by decide +kernel
theorem dL_law_634 : decode cL_law 634 = .ok (.iload_n 3, 1) := by decide +kernel
theorem dL_law_635 : decode cL_law 635 = .ok (.iconst 1, 1) := by decide +kernel
theorem dL_law_636 : decode cL_law 636 = .ok (.iadd, 1) := by decide +kernel
theorem dL_law_637 : decode cL_law 637 = .ok (.iaload, 1) := by decide +kernel
theorem dL_law_638 : decode cL_law 638 = .ok (.aload_n 0, 1) := by decide +kernel
theorem dL_law_639 : decode cL_law 639 = .ok (.iload_n 3, 1) := by decide +kernel
theorem dL_law_640 : decode cL_law 640 = .ok (.iconst 2, 1) := by decide +kernel
theorem dL_law_641 : decode cL_law 641 = .ok (.iadd, 1) := by decide +kernel
theorem dL_law_642 : decode cL_law 642 = .ok (.iaload, 1) := by decide +kernel
theorem dL_law_643 : decode cL_law 643 = .ok (.invokevirtual 68, 3) := by decide +kernel
theorem dL_law_646 : decode cL_law 646 = .ok (.if_icmp .eq 712, 3) := by decide +kernel
theorem dL_law_649 : decode cL_law 649 = .ok (.iconst 0, 1) := by decide +kernel
theorem dL_law_650 : decode cL_law 650 = .ok (.ireturn, 1) := by decide +kernel
theorem dL_law_651 : decode cL_law 651 = .ok (.aload_n 1, 1) := by decide +kernel
theorem dL_law_652 : decode cL_law 652 = .ok (.aload_n 0, 1) := by decide +kernel
theorem dL_law_653 : decode cL_law 653 = .ok (.iload_n 3, 1) := by decide +kernel
theorem dL_law_654 : decode cL_law 654 = .ok (.iconst 1, 1) := by decide +kernel
theorem dL_law_655 : decode cL_law 655 = .ok (.iadd, 1) := by decide +kernel
theorem dL_law_656 : decode cL_law 656 = .ok (.iaload, 1) := by decide +kernel
theorem dL_law_657 : decode cL_law 657 = .ok (.invokevirtual 69, 3) := by decide +kernel
theorem dL_law_660 : decode cL_law 660 = .ok (.aload_n 2, 1) := by decide +kernel
theorem dL_law_661 : decode cL_law 661 = .ok (.aload_n 0, 1) := by decide +kernel
theorem dL_law_662 : decode cL_law 662 = .ok (.iload_n 3, 1) := by decide +kernel
theorem dL_law_663 : decode cL_law 663 = .ok (.iconst 1, 1) := by decide +kernel
theorem dL_law_664 : decode cL_law 664 = .ok (.iadd, 1) := by decide +kernel
theorem dL_law_665 : decode cL_law 665 = .ok (.iaload, 1) := by decide +kernel
theorem dL_law_666 : decode cL_law 666 = .ok (.invokevirtual 72, 3) := by decide +kernel
theorem dL_law_669 : decode cL_law 669 = .ok (.if_icmp .eq 689, 3) := by decide +kernel
theorem dL_law_672 : decode cL_law 672 = .ok (.iconst 0, 1) := by decide +kernel
theorem dL_law_673 : decode cL_law 673 = .ok (.ireturn, 1) := by decide +kernel
theorem dL_law_674 : decode cL_law 674 = .ok (.aload_n 1, 1) := by decide +kernel
theorem dL_law_675 : decode cL_law 675 = .ok (.invokevirtual 73, 3) := by decide +kernel
theorem dL_law_678 : decode cL_law 678 = .ok (.aload_n 2, 1) := by decide +kernel
theorem dL_law_679 : decode cL_law 679 = .ok (.invokevirtual 77, 3) := by decide +kernel
theorem dL_law_682 : decode cL_law 682 = .ok (.if_icmp .eq 676, 3) := by decide +kernel
theorem dL_law_685 : decode cL_law 685 = .ok (.iconst 0, 1) := by decide +kernel
theorem dL_law_686 : decode cL_law 686 = .ok (.ireturn, 1) := by decide +kernel
theorem dL_law_687 : decode cL_law 687 = .ok (.aload_n 1, 1) := by decide +kernel
theorem dL_law_688 : decode cL_law 688 = .ok (.aload_n 0, 1) := by decide +kernel
theorem dL_law_689 : decode cL_law 689 = .ok (.iload_n 3, 1) := by decide +kernel
theorem dL_law_690 : decode cL_law 690 = .ok (.iconst 1, 1) := by decide +kernel
theorem dL_law_691 : decode cL_law 691 = .ok (.iadd, 1) := by decide +kernel
theorem dL_law_692 : decode cL_law 692 = .ok (.iaload, 1) := by decide +kernel
theorem dL_law_693 : decode cL_law 693 = .ok (.aload_n 0, 1) := by decide +kernel
theorem dL_law_694 : decode cL_law 694 = .ok (.iload_n 3, 1) := by decide +kernel
theorem dL_law_695 : decode cL_law 695 = .ok (.iconst 2, 1) := by decide +kernel
theorem dL_law_696 : decode cL_law 696 = .ok (.iadd, 1) := by decide +kernel
theorem dL_law_697 : decode cL_law 697 = .ok (.iaload, 1) := by decide +kernel
theorem dL_law_698 : decode cL_law 698 = .ok (.invokevirtual 78, 3) := by decide +kernel
theorem dL_law_701 : decode cL_law 701 = .ok (.aload_n 2, 1) := by decide +kernel
theorem dL_law_702 : decode cL_law 702 = .ok (.aload_n 0, 1) := by decide +kernel
theorem dL_law_703 : decode cL_law 703 = .ok (.iload_n 3, 1) := by decide +kernel
theorem dL_law_704 : decode cL_law 704 = .ok (.iconst 1, 1) := by decide +kernel
theorem dL_law_705 : decode cL_law 705 = .ok (.iadd, 1) := by decide +kernel
theorem dL_law_706 : decode cL_law 706 = .ok (.iaload, 1) := by decide +kernel
theorem dL_law_707 : decode cL_law 707 = .ok (.aload_n 0, 1) := by decide +kernel
theorem dL_law_708 : decode cL_law 708 = .ok (.iload_n 3, 1) := by decide +kernel
theorem dL_law_709 : decode cL_law 709 = .ok (.iconst 2, 1) := by decide +kernel
theorem dL_law_710 : decode cL_law 710 = .ok (.iadd, 1) := by decide +kernel
theorem dL_law_711 : decode cL_law 711 = .ok (.iaload, 1) := by decide +kernel
theorem dL_law_712 : decode cL_law 712 = .ok (.invokevirtual 81, 3) := by decide +kernel
theorem dL_law_715 : decode cL_law 715 = .ok (.if_icmp .eq 643, 3) := by decide +kernel
theorem dL_law_718 : decode cL_law 718 = .ok (.iconst 0, 1) := by decide +kernel
theorem dL_law_719 : decode cL_law 719 = .ok (.ireturn, 1) := by decide +kernel
theorem dL_law_720 : decode cL_law 720 = .ok (.aload_n 1, 1) := by decide +kernel
theorem dL_law_721 : decode cL_law 721 = .ok (.aload_n 0, 1) := by decide +kernel
theorem dL_law_722 : decode cL_law 722 = .ok (.iload_n 3, 1) := by decide +kernel
theorem dL_law_723 : decode cL_law 723 = .ok (.iconst 1, 1) := by decide +kernel
theorem dL_law_724 : decode cL_law 724 = .ok (.iadd, 1) := by decide +kernel
theorem dL_law_725 : decode cL_law 725 = .ok (.iaload, 1) := by decide +kernel
theorem dL_law_726 : decode cL_law 726 = .ok (.invokevirtual 82, 3) := by decide +kernel
theorem dL_law_729 : decode cL_law 729 = .ok (.aload_n 2, 1) := by decide +kernel
theorem dL_law_730 : decode cL_law 730 = .ok (.aload_n 0, 1) := by decide +kernel
theorem dL_law_731 : decode cL_law 731 = .ok (.iload_n 3, 1) := by decide +kernel
theorem dL_law_732 : decode cL_law 732 = .ok (.iconst 1, 1) := by decide +kernel
theorem dL_law_733 : decode cL_law 733 = .ok (.iadd, 1) := by decide +kernel
theorem dL_law_734 : decode cL_law 734 = .ok (.iaload, 1) := by decide +kernel
theorem dL_law_735 : decode cL_law 735 = .ok (.invokevirtual 85, 3) := by decide +kernel
theorem dL_law_738 : decode cL_law 738 = .ok (.if_icmp .eq 620, 3) := by decide +kernel
theorem dL_law_741 : decode cL_law 741 = .ok (.iconst 0, 1) := by decide +kernel
theorem dL_law_742 : decode cL_law 742 = .ok (.ireturn, 1) := by decide +kernel
theorem dL_law_743 : decode cL_law 743 = .ok (.aload_n 1, 1) := by decide +kernel
theorem dL_law_744 : decode cL_law 744 = .ok (.aload_n 0, 1) := by decide +kernel
theorem dL_law_745 : decode cL_law 745 = .ok (.iload_n 3, 1) := by decide +kernel
theorem dL_law_746 : decode cL_law 746 = .ok (.iconst 1, 1) := by decide +kernel
theorem dL_law_747 : decode cL_law 747 = .ok (.iadd, 1) := by decide +kernel
theorem dL_law_748 : decode cL_law 748 = .ok (.iaload, 1) := by decide +kernel
theorem dL_law_749 : decode cL_law 749 = .ok (.invokevirtual 86, 3) := by decide +kernel
theorem dL_law_752 : decode cL_law 752 = .ok (.aload_n 2, 1) := by decide +kernel
theorem dL_law_753 : decode cL_law 753 = .ok (.aload_n 0, 1) := by decide +kernel
theorem dL_law_754 : decode cL_law 754 = .ok (.iload_n 3, 1) := by decide +kernel
theorem dL_law_755 : decode cL_law 755 = .ok (.iconst 1, 1) := by decide +kernel
theorem dL_law_756 : decode cL_law 756 = .ok (.iadd, 1) := by decide +kernel
theorem dL_law_757 : decode cL_law 757 = .ok (.iaload, 1) := by decide +kernel
theorem dL_law_758 : decode cL_law 758 = .ok (.invokevirtual 89, 3) := by decide +kernel
theorem dL_law_761 : decode cL_law 761 = .ok (.if_icmp .eq 597, 3) := by decide +kernel
theorem dL_law_764 : decode cL_law 764 = .ok (.iconst 0, 1) := by decide +kernel
theorem dL_law_765 : decode cL_law 765 = .ok (.ireturn, 1) := by decide +kernel
theorem dL_law_766 : decode cL_law 766 = .ok (.aload_n 1, 1) := by decide +kernel
theorem dL_law_767 : decode cL_law 767 = .ok (.aload_n 0, 1) := by decide +kernel
theorem dL_law_768 : decode cL_law 768 = .ok (.iload_n 3, 1) := by decide +kernel
theorem dL_law_769 : decode cL_law 769 = .ok (.iconst 1, 1) := by decide +kernel
theorem dL_law_770 : decode cL_law 770 = .ok (.iadd, 1) := by decide +kernel
theorem dL_law_771 : decode cL_law 771 = .ok (.iaload, 1) := by decide +kernel
theorem dL_law_772 : decode cL_law 772 = .ok (.invokevirtual 90, 3) := by decide +kernel
theorem dL_law_775 : decode cL_law 775 = .ok (.aload_n 2, 1) := by decide +kernel
theorem dL_law_776 : decode cL_law 776 = .ok (.aload_n 0, 1) := by decide +kernel
theorem dL_law_777 : decode cL_law 777 = .ok (.iload_n 3, 1) := by decide +kernel
theorem dL_law_778 : decode cL_law 778 = .ok (.iconst 1, 1) := by decide +kernel
theorem dL_law_779 : decode cL_law 779 = .ok (.iadd, 1) := by decide +kernel
theorem dL_law_780 : decode cL_law 780 = .ok (.iaload, 1) := by decide +kernel
theorem dL_law_781 : decode cL_law 781 = .ok (.invokevirtual 93, 3) := by decide +kernel
theorem dL_law_784 : decode cL_law 784 = .ok (.if_icmp .eq 574, 3) := by decide +kernel
theorem dL_law_787 : decode cL_law 787 = .ok (.iconst 0, 1) := by decide +kernel
theorem dL_law_788 : decode cL_law 788 = .ok (.ireturn, 1) := by decide +kernel
theorem dL_law_789 : decode cL_law 789 = .ok (.aload_n 1, 1) := by decide +kernel
theorem dL_law_790 : decode cL_law 790 = .ok (.aload_n 0, 1) := by decide +kernel
theorem dL_law_791 : decode cL_law 791 = .ok (.iload_n 3, 1) := by decide +kernel
theorem dL_law_792 : decode cL_law 792 = .ok (.iconst 1, 1) := by decide +kernel
theorem dL_law_793 : decode cL_law 793 = .ok (.iadd, 1) := by decide +kernel
theorem dL_law_794 : decode cL_law 794 = .ok (.iaload, 1) := by decide +kernel
theorem dL_law_795 : decode cL_law 795 = .ok (.invokevirtual 94, 3) := by decide +kernel
theorem dL_law_798 : decode cL_law 798 = .ok (.aload_n 2, 1) := by decide +kernel
theorem dL_law_799 : decode cL_law 799 = .ok (.aload_n 0, 1) := by decide +kernel
theorem dL_law_800 : decode cL_law 800 = .ok (.iload_n 3, 1) := by decide +kernel
theorem dL_law_801 : decode cL_law 801 = .ok (.iconst 1, 1) := by decide +kernel
theorem dL_law_802 : decode cL_law 802 = .ok (.iadd, 1) := by decide +kernel
theorem dL_law_803 : decode cL_law 803 = .ok (.iaload, 1) := by decide +kernel
theorem dL_law_804 : decode cL_law 804 = .ok (.invokevirtual 97, 3) := by decide +kernel
theorem dL_law_807 : decode cL_law 807 = .ok (.if_icmp .eq 551, 3) := by decide +kernel
theorem dL_law_810 : decode cL_law 810 = .ok (.iconst 0, 1) := by decide +kernel
theorem dL_law_811 : decode cL_law 811 = .ok (.ireturn, 1) := by decide +kernel
theorem dL_law_812 : decode cL_law 812 = .ok (.aload_n 1, 1) := by decide +kernel
theorem dL_law_813 : decode cL_law 813 = .ok (.aload_n 0, 1) := by decide +kernel
theorem dL_law_814 : decode cL_law 814 = .ok (.iload_n 3, 1) := by decide +kernel
theorem dL_law_815 : decode cL_law 815 = .ok (.iconst 1, 1) := by decide +kernel
theorem dL_law_816 : decode cL_law 816 = .ok (.iadd, 1) := by decide +kernel
theorem dL_law_817 : decode cL_law 817 = .ok (.iaload, 1) := by decide +kernel
theorem dL_law_818 : decode cL_law 818 = .ok (.invokevirtual 98, 3) := by decide +kernel
theorem dL_law_821 : decode cL_law 821 = .ok (.aload_n 2, 1) := by decide +kernel
theorem dL_law_822 : decode cL_law 822 = .ok (.aload_n 0, 1) := by decide +kernel
theorem dL_law_823 : decode cL_law 823 = .ok (.iload_n 3, 1) := by decide +kernel
theorem dL_law_824 : decode cL_law 824 = .ok (.iconst 1, 1) := by decide +kernel
theorem dL_law_825 : decode cL_law 825 = .ok (.iadd, 1) := by decide +kernel
theorem dL_law_826 : decode cL_law 826 = .ok (.iaload, 1) := by decide +kernel
theorem dL_law_827 : decode cL_law 827 = .ok (.invokevirtual 101, 3) := by decide +kernel
theorem dL_law_830 : decode cL_law 830 = .ok (.if_icmp .eq 528, 3) := by decide +kernel
theorem dL_law_833 : decode cL_law 833 = .ok (.iconst 0, 1) := by decide +kernel
theorem dL_law_834 : decode cL_law 834 = .ok (.ireturn, 1) := by decide +kernel
theorem dL_law_835 : decode cL_law 835 = .ok (.aload_n 1, 1) := by decide +kernel
theorem dL_law_836 : decode cL_law 836 = .ok (.invokevirtual 102, 3) := by decide +kernel
theorem dL_law_839 : decode cL_law 839 = .ok (.aload_n 2, 1) := by decide +kernel
theorem dL_law_840 : decode cL_law 840 = .ok (.invokevirtual 105, 3) := by decide +kernel
theorem dL_law_843 : decode cL_law 843 = .ok (.if_icmp .eq 515, 3) := by decide +kernel
theorem dL_law_846 : decode cL_law 846 = .ok (.iconst 0, 1) := by decide +kernel
theorem dL_law_847 : decode cL_law 847 = .ok (.ireturn, 1) := by decide +kernel
theorem dL_law_848 : decode cL_law 848 = .ok (.aload_n 1, 1) := by decide +kernel
theorem dL_law_849 : decode cL_law 849 = .ok (.aload_n 0, 1) := by decide +kernel
theorem dL_law_850 : decode cL_law 850 = .ok (.iload_n 3, 1) := by decide +kernel
theorem dL_law_851 : decode cL_law 851 = .ok (.iconst 1, 1) := by decide +kernel
theorem dL_law_852 : decode cL_law 852 = .ok (.iadd, 1) := by decide +kernel
theorem dL_law_853 : decode cL_law 853 = .ok (.iaload, 1) := by decide +kernel
theorem dL_law_854 : decode cL_law 854 = .ok (.invokevirtual 106, 3) := by decide +kernel
theorem dL_law_857 : decode cL_law 857 = .ok (.aload_n 2, 1) := by decide +kernel
theorem dL_law_858 : decode cL_law 858 = .ok (.aload_n 0, 1) := by decide +kernel
theorem dL_law_859 : decode cL_law 859 = .ok (.iload_n 3, 1) := by decide +kernel
theorem dL_law_860 : decode cL_law 860 = .ok (.iconst 1, 1) := by decide +kernel
theorem dL_law_861 : decode cL_law 861 = .ok (.iadd, 1) := by decide +kernel
theorem dL_law_862 : decode cL_law 862 = .ok (.iaload, 1) := by decide +kernel
theorem dL_law_863 : decode cL_law 863 = .ok (.invokevirtual 109, 3) := by decide +kernel
theorem dL_law_866 : decode cL_law 866 = .ok (.if_icmp .eq 492, 3) := by decide +kernel
theorem dL_law_869 : decode cL_law 869 = .ok (.iconst 0, 1) := by decide +kernel
theorem dL_law_870 : decode cL_law 870 = .ok (.ireturn, 1) := by decide +kernel
theorem dL_law_871 : decode cL_law 871 = .ok (.aload_n 1, 1) := by decide +kernel
theorem dL_law_872 : decode cL_law 872 = .ok (.aload_n 0, 1) := by decide +kernel
theorem dL_law_873 : decode cL_law 873 = .ok (.iload_n 3, 1) := by decide +kernel
theorem dL_law_874 : decode cL_law 874 = .ok (.iconst 1, 1) := by decide +kernel
theorem dL_law_875 : decode cL_law 875 = .ok (.iadd, 1) := by decide +kernel
theorem dL_law_876 : decode cL_law 876 = .ok (.iaload, 1) := by decide +kernel
theorem dL_law_877 : decode cL_law 877 = .ok (.aload_n 0, 1) := by decide +kernel
theorem dL_law_878 : decode cL_law 878 = .ok (.iload_n 3, 1) := by decide +kernel
theorem dL_law_879 : decode cL_law 879 = .ok (.iconst 2, 1) := by decide +kernel
theorem dL_law_880 : decode cL_law 880 = .ok (.iadd, 1) := by decide +kernel
theorem dL_law_881 : decode cL_law 881 = .ok (.iaload, 1) := by decide +kernel
theorem dL_law_882 : decode cL_law 882 = .ok (.aload_n 0, 1) := by decide +kernel
theorem dL_law_883 : decode cL_law 883 = .ok (.iload_n 3, 1) := by decide +kernel
theorem dL_law_884 : decode cL_law 884 = .ok (.iconst 3, 1) := by decide +kernel
theorem dL_law_885 : decode cL_law 885 = .ok (.iadd, 1) := by decide +kernel
theorem dL_law_886 : decode cL_law 886 = .ok (.iaload, 1) := by decide +kernel
theorem dL_law_887 : decode cL_law 887 = .ok (.invokevirtual 110, 3) := by decide +kernel
theorem dL_law_890 : decode cL_law 890 = .ok (.aload_n 2, 1) := by decide +kernel
theorem dL_law_891 : decode cL_law 891 = .ok (.aload_n 0, 1) := by decide +kernel
theorem dL_law_892 : decode cL_law 892 = .ok (.iload_n 3, 1) := by decide +kernel
theorem dL_law_893 : decode cL_law 893 = .ok (.iconst 1, 1) := by decide +kernel
theorem dL_law_894 : decode cL_law 894 = .ok (.iadd, 1) := by decide +kernel
theorem dL_law_895 : decode cL_law 895 = .ok (.iaload, 1) := by decide +kernel
theorem dL_law_896 : decode cL_law 896 = .ok (.aload_n 0, 1) := by decide +kernel
theorem dL_law_897 : decode cL_law 897 = .ok (.iload_n 3, 1) := by decide +kernel
theorem dL_law_898 : decode cL_law 898 = .ok (.iconst 2, 1) := by decide +kernel
theorem dL_law_899 : decode cL_law 899 = .ok (.iadd, 1) := by decide +kernel
theorem dL_law_900 : decode cL_law 900 = .ok (.iaload, 1) := by decide +kernel
theorem dL_law_901 : decode cL_law 901 = .ok (.aload_n 0, 1) := by decide +kernel
theorem dL_law_902 : decode cL_law 902 = .ok (.iload_n 3, 1) := by decide +kernel
theorem dL_law_903 : decode cL_law 903 = .ok (.iconst 3, 1) := by decide +kernel
theorem dL_law_904 : decode cL_law 904 = .ok (.iadd, 1) := by decide +kernel
theorem dL_law_905 : decode cL_law 905 = .ok (.iaload, 1) := by decide +kernel
theorem dL_law_906 : decode cL_law 906 = .ok (.invokevirtual 113, 3) := by decide +kernel
theorem dL_law_909 : decode cL_law 909 = .ok (.if_icmp .eq 449, 3) := by decide +kernel
theorem dL_law_912 : decode cL_law 912 = .ok (.iconst 0, 1) := by decide +kernel
theorem dL_law_913 : decode cL_law 913 = .ok (.ireturn, 1) := by decide +kernel
theorem dL_law_914 : decode cL_law 914 = .ok (.aload_n 1, 1) := by decide +kernel
theorem dL_law_915 : decode cL_law 915 = .ok (.aload_n 0, 1) := by decide +kernel
theorem dL_law_916 : decode cL_law 916 = .ok (.iload_n 3, 1) := by decide +kernel
theorem dL_law_917 : decode cL_law 917 = .ok (.iconst 1, 1) := by decide +kernel
theorem dL_law_918 : decode cL_law 918 = .ok (.iadd, 1) := by decide +kernel
theorem dL_law_919 : decode cL_law 919 = .ok (.iaload, 1) := by decide +kernel
theorem dL_law_920 : decode cL_law 920 = .ok (.aload_n 0, 1) := by decide +kernel
theorem dL_law_921 : decode cL_law 921 = .ok (.iload_n 3, 1) := by decide +kernel
theorem dL_law_922 : decode cL_law 922 = .ok (.iconst 2, 1) := by decide +kernel
theorem dL_law_923 : decode cL_law 923 = .ok (.iadd, 1) := by decide +kernel
theorem dL_law_924 : decode cL_law 924 = .ok (.iaload, 1) := by decide +kernel
theorem dL_law_925 : decode cL_law 925 = .ok (.aload_n 0, 1) := by decide +kernel
theorem dL_law_926 : decode cL_law 926 = .ok (.iload_n 3, 1) := by decide +kernel
theorem dL_law_927 : decode cL_law 927 = .ok (.iconst 3, 1) := by decide +kernel
theorem dL_law_928 : decode cL_law 928 = .ok (.iadd, 1) := by decide +kernel
theorem dL_law_929 : decode cL_law 929 = .ok (.iaload, 1) := by decide +kernel
theorem dL_law_930 : decode cL_law 930 = .ok (.invokevirtual 114, 3) := by decide +kernel
theorem dL_law_933 : decode cL_law 933 = .ok (.aload_n 2, 1) := by decide +kernel
theorem dL_law_934 : decode cL_law 934 = .ok (.aload_n 0, 1) := by decide +kernel
theorem dL_law_935 : decode cL_law 935 = .ok (.iload_n 3, 1) := by decide +kernel
theorem dL_law_936 : decode cL_law 936 = .ok (.iconst 1, 1) := by decide +kernel
theorem dL_law_937 : decode cL_law 937 = .ok (.iadd, 1) := by decide +kernel
theorem dL_law_938 : decode cL_law 938 = .ok (.iaload, 1) := by decide +kernel
theorem dL_law_939 : decode cL_law 939 = .ok (.aload_n 0, 1) := by decide +kernel
theorem dL_law_940 : decode cL_law 940 = .ok (.iload_n 3, 1) := by decide +kernel
theorem dL_law_941 : decode cL_law 941 = .ok (.iconst 2, 1) := by decide +kernel
theorem dL_law_942 : decode cL_law 942 = .ok (.iadd, 1) := by decide +kernel
theorem dL_law_943 : decode cL_law 943 = .ok (.iaload, 1) := by decide +kernel
theorem dL_law_944 : decode cL_law 944 = .ok (.aload_n 0, 1) := by decide +kernel
theorem dL_law_945 : decode cL_law 945 = .ok (.iload_n 3, 1) := by decide +kernel
theorem dL_law_946 : decode cL_law 946 = .ok (.iconst 3, 1) := by decide +kernel
theorem dL_law_947 : decode cL_law 947 = .ok (.iadd, 1) := by decide +kernel
theorem dL_law_948 : decode cL_law 948 = .ok (.iaload, 1) := by decide +kernel
theorem dL_law_949 : decode cL_law 949 = .ok (.invokevirtual 117, 3) := by decide +kernel
theorem dL_law_952 : decode cL_law 952 = .ok (.if_icmp .eq 406, 3) := by decide +kernel
theorem dL_law_955 : decode cL_law 955 = .ok (.iconst 0, 1) := by decide +kernel
theorem dL_law_956 : decode cL_law 956 = .ok (.ireturn, 1) := by decide +kernel
theorem dL_law_957 : decode cL_law 957 = .ok (.aload_n 1, 1) := by decide +kernel
theorem dL_law_958 : decode cL_law 958 = .ok (.aload_n 0, 1) := by decide +kernel
theorem dL_law_959 : decode cL_law 959 = .ok (.iload_n 3, 1) := by decide +kernel
theorem dL_law_960 : decode cL_law 960 = .ok (.iconst 1, 1) := by decide +kernel
theorem dL_law_961 : decode cL_law 961 = .ok (.iadd, 1) := by decide +kernel
theorem dL_law_962 : decode cL_law 962 = .ok (.iaload, 1) := by decide +kernel
theorem dL_law_963 : decode cL_law 963 = .ok (.aload_n 0, 1) := by decide +kernel
theorem dL_law_964 : decode cL_law 964 = .ok (.iload_n 3, 1) := by decide +kernel
theorem dL_law_965 : decode cL_law 965 = .ok (.iconst 2, 1) := by decide +kernel
theorem dL_law_966 : decode cL_law 966 = .ok (.iadd, 1) := by decide +kernel
theorem dL_law_967 : decode cL_law 967 = .ok (.iaload, 1) := by decide +kernel
theorem dL_law_968 : decode cL_law 968 = .ok (.invokevirtual 118, 3) := by decide +kernel
theorem dL_law_971 : decode cL_law 971 = .ok (.aload_n 2, 1) := by decide +kernel
theorem dL_law_972 : decode cL_law 972 = .ok (.aload_n 0, 1) := by decide +kernel
theorem dL_law_973 : decode cL_law 973 = .ok (.iload_n 3, 1) := by decide +kernel
theorem dL_law_974 : decode cL_law 974 = .ok (.iconst 1, 1) := by decide +kernel
theorem dL_law_975 : decode cL_law 975 = .ok (.iadd, 1) := by decide +kernel
theorem dL_law_976 : decode cL_law 976 = .ok (.iaload, 1) := by decide +kernel
theorem dL_law_977 : decode cL_law 977 = .ok (.aload_n 0, 1) := by decide +kernel
theorem dL_law_978 : decode cL_law 978 = .ok (.iload_n 3, 1) := by decide +kernel
theorem dL_law_979 : decode cL_law 979 = .ok (.iconst 2, 1) := by decide +kernel
theorem dL_law_980 : decode cL_law 980 = .ok (.iadd, 1) := by decide +kernel
theorem dL_law_981 : decode cL_law 981 = .ok (.iaload, 1) := by decide +kernel
theorem dL_law_982 : decode cL_law 982 = .ok (.invokevirtual 121, 3) := by decide +kernel
theorem dL_law_985 : decode cL_law 985 = .ok (.if_icmp .eq 373, 3) := by decide +kernel
theorem dL_law_988 : decode cL_law 988 = .ok (.iconst 0, 1) := by decide +kernel
theorem dL_law_989 : decode cL_law 989 = .ok (.ireturn, 1) := by decide +kernel
theorem dL_law_990 : decode cL_law 990 = .ok (.aload_n 1, 1) := by decide +kernel
theorem dL_law_991 : decode cL_law 991 = .ok (.aload_n 0, 1) := by decide +kernel
theorem dL_law_992 : decode cL_law 992 = .ok (.iload_n 3, 1) := by decide +kernel
theorem dL_law_993 : decode cL_law 993 = .ok (.iconst 1, 1) := by decide +kernel
theorem dL_law_994 : decode cL_law 994 = .ok (.iadd, 1) := by decide +kernel
theorem dL_law_995 : decode cL_law 995 = .ok (.iaload, 1) := by decide +kernel
theorem dL_law_996 : decode cL_law 996 = .ok (.aload_n 0, 1) := by decide +kernel
theorem dL_law_997 : decode cL_law 997 = .ok (.iload_n 3, 1) := by decide +kernel
theorem dL_law_998 : decode cL_law 998 = .ok (.iconst 2, 1) := by decide +kernel
theorem dL_law_999 : decode cL_law 999 = .ok (.iadd, 1) := by decide +kernel
theorem dL_law_1000 : decode cL_law 1000 = .ok (.iaload, 1) := by decide +kernel
theorem dL_law_1001 : decode cL_law 1001 = .ok (.invokevirtual 122, 3) := by decide +kernel
theorem dL_law_1004 : decode cL_law 1004 = .ok (.aload_n 2, 1) := by decide +kernel
theorem dL_law_1005 : decode cL_law 1005 = .ok (.aload_n 0, 1) := by decide +kernel
theorem dL_law_1006 : decode cL_law 1006 = .ok (.iload_n 3, 1) := by decide +kernel
theorem dL_law_1007 : decode cL_law 1007 = .ok (.iconst 1, 1) := by decide +kernel
theorem dL_law_1008 : decode cL_law 1008 = .ok (.iadd, 1) := by decide +kernel
theorem dL_law_1009 : decode cL_law 1009 = .ok (.iaload, 1) := by decide +kernel
theorem dL_law_1010 : decode cL_law 1010 = .ok (.aload_n 0, 1) := by decide +kernel
theorem dL_law_1011 : decode cL_law 1011 = .ok (.iload_n 3, 1) := by decide +kernel
theorem dL_law_1012 : decode cL_law 1012 = .ok (.iconst 2, 1) := by decide +kernel
theorem dL_law_1013 : decode cL_law 1013 = .ok (.iadd, 1) := by decide +kernel
theorem dL_law_1014 : decode cL_law 1014 = .ok (.iaload, 1) := by decide +kernel
theorem dL_law_1015 : decode cL_law 1015 = .ok (.invokevirtual 125, 3) := by decide +kernel
theorem dL_law_1018 : decode cL_law 1018 = .ok (.if_icmp .eq 340, 3) := by decide +kernel
theorem dL_law_1021 : decode cL_law 1021 = .ok (.iconst 0, 1) := by decide +kernel
theorem dL_law_1022 : decode cL_law 1022 = .ok (.ireturn, 1) := by decide +kernel
theorem dL_law_1023 : decode cL_law 1023 = .ok (.aload_n 1, 1) := by decide +kernel
theorem dL_law_1024 : decode cL_law 1024 = .ok (.aload_n 0, 1) := by decide +kernel
theorem dL_law_1025 : decode cL_law 1025 = .ok (.iload_n 3, 1) := by decide +kernel
theorem dL_law_1026 : decode cL_law 1026 = .ok (.iconst 1, 1) := by decide +kernel
theorem dL_law_1027 : decode cL_law 1027 = .ok (.iadd, 1) := by decide +kernel
theorem dL_law_1028 : decode cL_law 1028 = .ok (.iaload, 1) := by decide +kernel
theorem dL_law_1029 : decode cL_law 1029 = .ok (.aload_n 0, 1) := by decide +kernel
theorem dL_law_1030 : decode cL_law 1030 = .ok (.iload_n 3, 1) := by decide +kernel
theorem dL_law_1031 : decode cL_law 1031 = .ok (.iconst 2, 1) := by decide +kernel
theorem dL_law_1032 : decode cL_law 1032 = .ok (.iadd, 1) := by decide +kernel
theorem dL_law_1033 : decode cL_law 1033 = .ok (.iaload, 1) := by decide +kernel
theorem dL_law_1034 : decode cL_law 1034 = .ok (.invokevirtual 126, 3) := by decide +kernel
theorem dL_law_1037 : decode cL_law 1037 = .ok (.aload_n 2, 1) := by decide +kernel
theorem dL_law_1038 : decode cL_law 1038 = .ok (.aload_n 0, 1) := by decide +kernel
theorem dL_law_1039 : decode cL_law 1039 = .ok (.iload_n 3, 1) := by decide +kernel
theorem dL_law_1040 : decode cL_law 1040 = .ok (.iconst 1, 1) := by decide +kernel
theorem dL_law_1041 : decode cL_law 1041 = .ok (.iadd, 1) := by decide +kernel
theorem dL_law_1042 : decode cL_law 1042 = .ok (.iaload, 1) := by decide +kernel
theorem dL_law_1043 : decode cL_law 1043 = .ok (.aload_n 0, 1) := by decide +kernel
theorem dL_law_1044 : decode cL_law 1044 = .ok (.iload_n 3, 1) := by decide +kernel
theorem dL_law_1045 : decode cL_law 1045 = .ok (.iconst 2, 1) := by decide +kernel
theorem dL_law_1046 : decode cL_law 1046 = .ok (.iadd, 1) := by decide +kernel
theorem dL_law_1047 : decode cL_law 1047 = .ok (.iaload, 1) := by decide +kernel
theorem dL_law_1048 : decode cL_law 1048 = .ok (.invokevirtual 129, 3) := by decide +kernel
theorem dL_law_1051 : decode cL_law 1051 = .ok (.if_icmp .eq 307, 3) := by decide +kernel
theorem dL_law_1054 : decode cL_law 1054 = .ok (.iconst 0, 1) := by decide +kernel
theorem dL_law_1055 : decode cL_law 1055 = .ok (.ireturn, 1) := by decide +kernel
theorem dL_law_1056 : decode cL_law 1056 = .ok (.aload_n 1, 1) := by decide +kernel
theorem dL_law_1057 : decode cL_law 1057 = .ok (.aload_n 0, 1) := by decide +kernel
theorem dL_law_1058 : decode cL_law 1058 = .ok (.iload_n 3, 1) := by decide +kernel
theorem dL_law_1059 : decode cL_law 1059 = .ok (.iconst 1, 1) := by decide +kernel
theorem dL_law_1060 : decode cL_law 1060 = .ok (.iadd, 1) := by decide +kernel
theorem dL_law_1061 : decode cL_law 1061 = .ok (.iaload, 1) := by decide +kernel
theorem dL_law_1062 : decode cL_law 1062 = .ok (.aload_n 0, 1) := by decide +kernel
theorem dL_law_1063 : decode cL_law 1063 = .ok (.iload_n 3, 1) := by decide +kernel
theorem dL_law_1064 : decode cL_law 1064 = .ok (.iconst 2, 1) := by decide +kernel
theorem dL_law_1065 : decode cL_law 1065 = .ok (.iadd, 1) := by decide +kernel
theorem dL_law_1066 : decode cL_law 1066 = .ok (.iaload, 1) := by decide +kernel
theorem dL_law_1067 : decode cL_law 1067 = .ok (.invokevirtual 130, 3) := by decide +kernel
theorem dL_law_1070 : decode cL_law 1070 = .ok (.aload_n 2, 1) := by decide +kernel
theorem dL_law_1071 : decode cL_law 1071 = .ok (.aload_n 0, 1) := by decide +kernel
theorem dL_law_1072 : decode cL_law 1072 = .ok (.iload_n 3, 1) := by decide +kernel
theorem dL_law_1073 : decode cL_law 1073 = .ok (.iconst 1, 1) := by decide +kernel
theorem dL_law_1074 : decode cL_law 1074 = .ok (.iadd, 1) := by decide +kernel
theorem dL_law_1075 : decode cL_law 1075 = .ok (.iaload, 1) := by decide +kernel
theorem dL_law_1076 : decode cL_law 1076 = .ok (.aload_n 0, 1) := by decide +kernel
theorem dL_law_1077 : decode cL_law 1077 = .ok (.iload_n 3, 1) := by decide +kernel
theorem dL_law_1078 : decode cL_law 1078 = .ok (.iconst 2, 1) := by decide +kernel
theorem dL_law_1079 : decode cL_law 1079 = .ok (.iadd, 1) := by decide +kernel
theorem dL_law_1080 : decode cL_law 1080 = .ok (.iaload, 1) := by decide +kernel
theorem dL_law_1081 : decode cL_law 1081 = .ok (.invokevirtual 133, 3) := by decide +kernel
theorem dL_law_1084 : decode cL_law 1084 = .ok (.if_icmp .eq 274, 3) := by decide +kernel
theorem dL_law_1087 : decode cL_law 1087 = .ok (.iconst 0, 1) := by decide +kernel
theorem dL_law_1088 : decode cL_law 1088 = .ok (.ireturn, 1) := by decide +kernel
theorem dL_law_1089 : decode cL_law 1089 = .ok (.aload_n 1, 1) := by decide +kernel
theorem dL_law_1090 : decode cL_law 1090 = .ok (.aload_n 0, 1) := by decide +kernel
theorem dL_law_1091 : decode cL_law 1091 = .ok (.iload_n 3, 1) := by decide +kernel
theorem dL_law_1092 : decode cL_law 1092 = .ok (.iconst 1, 1) := by decide +kernel
theorem dL_law_1093 : decode cL_law 1093 = .ok (.iadd, 1) := by decide +kernel
theorem dL_law_1094 : decode cL_law 1094 = .ok (.iaload, 1) := by decide +kernel
theorem dL_law_1095 : decode cL_law 1095 = .ok (.invokevirtual 134, 3) := by decide +kernel
theorem dL_law_1098 : decode cL_law 1098 = .ok (.aload_n 2, 1) := by decide +kernel
theorem dL_law_1099 : decode cL_law 1099 = .ok (.aload_n 0, 1) := by decide +kernel
theorem dL_law_1100 : decode cL_law 1100 = .ok (.iload_n 3, 1) := by decide +kernel
theorem dL_law_1101 : decode cL_law 1101 = .ok (.iconst 1, 1) := by decide +kernel
theorem dL_law_1102 : decode cL_law 1102 = .ok (.iadd, 1) := by decide +kernel
theorem dL_law_1103 : decode cL_law 1103 = .ok (.iaload, 1) := by decide +kernel
theorem dL_law_1104 : decode cL_law 1104 = .ok (.invokevirtual 137, 3) := by decide +kernel
theorem dL_law_1107 : decode cL_law 1107 = .ok (.if_icmp .eq 251, 3) := by decide +kernel
theorem dL_law_1110 : decode cL_law 1110 = .ok (.iconst 0, 1) := by decide +kernel
theorem dL_law_1111 : decode cL_law 1111 = .ok (.ireturn, 1) := by decide +kernel
theorem dL_law_1112 : decode cL_law 1112 = .ok (.aload_n 1, 1) := by decide +kernel
theorem dL_law_1113 : decode cL_law 1113 = .ok (.aload_n 0, 1) := by decide +kernel
theorem dL_law_1114 : decode cL_law 1114 = .ok (.iload_n 3, 1) := by decide +kernel
theorem dL_law_1115 : decode cL_law 1115 = .ok (.iconst 1, 1) := by decide +kernel
theorem dL_law_1116 : decode cL_law 1116 = .ok (.iadd, 1) := by decide +kernel
theorem dL_law_1117 : decode cL_law 1117 = .ok (.iaload, 1) := by decide +kernel
theorem dL_law_1118 : decode cL_law 1118 = .ok (.aload_n 0, 1) := by decide +kernel
theorem dL_law_1119 : decode cL_law 1119 = .ok (.iload_n 3, 1) := by decide +kernel
theorem dL_law_1120 : decode cL_law 1120 = .ok (.iconst 2, 1) := by decide +kernel
theorem dL_law_1121 : decode cL_law 1121 = .ok (.iadd, 1) := by decide +kernel
theorem dL_law_1122 : decode cL_law 1122 = .ok (.iaload, 1) := by decide +kernel
theorem dL_law_1123 : decode cL_law 1123 = .ok (.invokevirtual 138, 3) := by decide +kernel
theorem dL_law_1126 : decode cL_law 1126 = .ok (.aload_n 2, 1) := by decide +kernel
theorem dL_law_1127 : decode cL_law 1127 = .ok (.aload_n 0, 1) := by decide +kernel
theorem dL_law_1128 : decode cL_law 1128 = .ok (.iload_n 3, 1) := by decide +kernel
theorem dL_law_1129 : decode cL_law 1129 = .ok (.iconst 1, 1) := by decide +kernel
theorem dL_law_1130 : decode cL_law 1130 = .ok (.iadd, 1) := by decide +kernel
theorem dL_law_1131 : decode cL_law 1131 = .ok (.iaload, 1) := by decide +kernel
theorem dL_law_1132 : decode cL_law 1132 = .ok (.aload_n 0, 1) := by decide +kernel
theorem dL_law_1133 : decode cL_law 1133 = .ok (.iload_n 3, 1) := by decide +kernel
theorem dL_law_1134 : decode cL_law 1134 = .ok (.iconst 2, 1) := by decide +kernel
theorem dL_law_1135 : decode cL_law 1135 = .ok (.iadd, 1) := by decide +kernel
theorem dL_law_1136 : decode cL_law 1136 = .ok (.iaload, 1) := by decide +kernel
theorem dL_law_1137 : decode cL_law 1137 = .ok (.invokevirtual 141, 3) := by decide +kernel
theorem dL_law_1140 : decode cL_law 1140 = .ok (.if_icmp .eq 218, 3) := by decide +kernel
theorem dL_law_1143 : decode cL_law 1143 = .ok (.iconst 0, 1) := by decide +kernel
theorem dL_law_1144 : decode cL_law 1144 = .ok (.ireturn, 1) := by decide +kernel
theorem dL_law_1145 : decode cL_law 1145 = .ok (.aload_n 1, 1) := by decide +kernel
theorem dL_law_1146 : decode cL_law 1146 = .ok (.aload_n 0, 1) := by decide +kernel
theorem dL_law_1147 : decode cL_law 1147 = .ok (.iload_n 3, 1) := by decide +kernel
theorem dL_law_1148 : decode cL_law 1148 = .ok (.iconst 1, 1) := by decide +kernel
theorem dL_law_1149 : decode cL_law 1149 = .ok (.iadd, 1) := by decide +kernel
theorem dL_law_1150 : decode cL_law 1150 = .ok (.iaload, 1) := by decide +kernel
theorem dL_law_1151 : decode cL_law 1151 = .ok (.aload_n 0, 1) := by decide +kernel
theorem dL_law_1152 : decode cL_law 1152 = .ok (.iload_n 3, 1) := by decide +kernel
theorem dL_law_1153 : decode cL_law 1153 = .ok (.iconst 2, 1) := by decide +kernel
theorem dL_law_1154 : decode cL_law 1154 = .ok (.iadd, 1) := by decide +kernel
theorem dL_law_1155 : decode cL_law 1155 = .ok (.iaload, 1) := by decide +kernel
theorem dL_law_1156 : decode cL_law 1156 = .ok (.invokevirtual 142, 3) := by decide +kernel
theorem dL_law_1159 : decode cL_law 1159 = .ok (.aload_n 2, 1) := by decide +kernel
theorem dL_law_1160 : decode cL_law 1160 = .ok (.aload_n 0, 1) := by decide +kernel
theorem dL_law_1161 : decode cL_law 1161 = .ok (.iload_n 3, 1) := by decide +kernel
theorem dL_law_1162 : decode cL_law 1162 = .ok (.iconst 1, 1) := by decide +kernel
theorem dL_law_1163 : decode cL_law 1163 = .ok (.iadd, 1) := by decide +kernel
theorem dL_law_1164 : decode cL_law 1164 = .ok (.iaload, 1) := by decide +kernel
theorem dL_law_1165 : decode cL_law 1165 = .ok (.aload_n 0, 1) := by decide +kernel
theorem dL_law_1166 : decode cL_law 1166 = .ok (.iload_n 3, 1) := by decide +kernel
theorem dL_law_1167 : decode cL_law 1167 = .ok (.iconst 2, 1) := by decide +kernel
theorem dL_law_1168 : decode cL_law 1168 = .ok (.iadd, 1) := by decide +kernel
theorem dL_law_1169 : decode cL_law 1169 = .ok (.iaload, 1) := by decide +kernel
theorem dL_law_1170 : decode cL_law 1170 = .ok (.invokevirtual 145, 3) := by decide +kernel
theorem dL_law_1173 : decode cL_law 1173 = .ok (.if_icmp .eq 185, 3) := by decide +kernel
theorem dL_law_1176 : decode cL_law 1176 = .ok (.iconst 0, 1) := by decide +kernel
theorem dL_law_1177 : decode cL_law 1177 = .ok (.ireturn, 1) := by decide +kernel
theorem dL_law_1178 : decode cL_law 1178 = .ok (.aload_n 1, 1) := by decide +kernel
theorem dL_law_1179 : decode cL_law 1179 = .ok (.aload_n 0, 1) := by decide +kernel
theorem dL_law_1180 : decode cL_law 1180 = .ok (.iload_n 3, 1) := by decide +kernel
theorem dL_law_1181 : decode cL_law 1181 = .ok (.iconst 1, 1) := by decide +kernel
theorem dL_law_1182 : decode cL_law 1182 = .ok (.iadd, 1) := by decide +kernel
theorem dL_law_1183 : decode cL_law 1183 = .ok (.iaload, 1) := by decide +kernel
theorem dL_law_1184 : decode cL_law 1184 = .ok (.aload_n 0, 1) := by decide +kernel
theorem dL_law_1185 : decode cL_law 1185 = .ok (.iload_n 3, 1) := by decide +kernel
theorem dL_law_1186 : decode cL_law 1186 = .ok (.iconst 2, 1) := by decide +kernel
theorem dL_law_1187 : decode cL_law 1187 = .ok (.iadd, 1) := by decide +kernel
theorem dL_law_1188 : decode cL_law 1188 = .ok (.iaload, 1) := by decide +kernel
theorem dL_law_1189 : decode cL_law 1189 = .ok (.invokevirtual 146, 3) := by decide +kernel
theorem dL_law_1192 : decode cL_law 1192 = .ok (.aload_n 2, 1) := by decide +kernel
theorem dL_law_1193 : decode cL_law 1193 = .ok (.aload_n 0, 1) := by decide +kernel
theorem dL_law_1194 : decode cL_law 1194 = .ok (.iload_n 3, 1) := by decide +kernel
theorem dL_law_1195 : decode cL_law 1195 = .ok (.iconst 1, 1) := by decide +kernel
theorem dL_law_1196 : decode cL_law 1196 = .ok (.iadd, 1) := by decide +kernel
theorem dL_law_1197 : decode cL_law 1197 = .ok (.iaload, 1) := by decide +kernel
theorem dL_law_1198 : decode cL_law 1198 = .ok (.aload_n 0, 1) := by decide +kernel
theorem dL_law_1199 : decode cL_law 1199 = .ok (.iload_n 3, 1) := by decide +kernel
theorem dL_law_1200 : decode cL_law 1200 = .ok (.iconst 2, 1) := by decide +kernel
theorem dL_law_1201 : decode cL_law 1201 = .ok (.iadd, 1) := by decide +kernel
theorem dL_law_1202 : decode cL_law 1202 = .ok (.iaload, 1) := by decide +kernel
theorem dL_law_1203 : decode cL_law 1203 = .ok (.invokevirtual 149, 3) := by decide +kernel
theorem dL_law_1206 : decode cL_law 1206 = .ok (.if_icmp .eq 152, 3) := by decide +kernel
theorem dL_law_1209 : decode cL_law 1209 = .ok (.iconst 0, 1) := by decide +kernel
theorem dL_law_1210 : decode cL_law 1210 = .ok (.ireturn, 1) := by decide +kernel
theorem dL_law_1211 : decode cL_law 1211 = .ok (.aload_n 1, 1) := by decide +kernel
theorem dL_law_1212 : decode cL_law 1212 = .ok (.aload_n 0, 1) := by decide +kernel
theorem dL_law_1213 : decode cL_law 1213 = .ok (.iload_n 3, 1) := by decide +kernel
theorem dL_law_1214 : decode cL_law 1214 = .ok (.iconst 1, 1) := by decide +kernel
theorem dL_law_1215 : decode cL_law 1215 = .ok (.iadd, 1) := by decide +kernel
theorem dL_law_1216 : decode cL_law 1216 = .ok (.iaload, 1) := by decide +kernel
theorem dL_law_1217 : decode cL_law 1217 = .ok (.aload_n 0, 1) := by decide +kernel
theorem dL_law_1218 : decode cL_law 1218 = .ok (.iload_n 3, 1) := by decide +kernel
theorem dL_law_1219 : decode cL_law 1219 = .ok (.iconst 2, 1) := by decide +kernel
theorem dL_law_1220 : decode cL_law 1220 = .ok (.iadd, 1) := by decide +kernel
theorem dL_law_1221 : decode cL_law 1221 = .ok (.iaload, 1) := by decide +kernel
theorem dL_law_1222 : decode cL_law 1222 = .ok (.invokevirtual 150, 3) := by decide +kernel
theorem dL_law_1225 : decode cL_law 1225 = .ok (.aload_n 2, 1) := by decide +kernel
theorem dL_law_1226 : decode cL_law 1226 = .ok (.aload_n 0, 1) := by decide +kernel
theorem dL_law_1227 : decode cL_law 1227 = .ok (.iload_n 3, 1) := by decide +kernel
theorem dL_law_1228 : decode cL_law 1228 = .ok (.iconst 1, 1) := by decide +kernel
theorem dL_law_1229 : decode cL_law 1229 = .ok (.iadd, 1) := by decide +kernel
theorem dL_law_1230 : decode cL_law 1230 = .ok (.iaload, 1) := by decide +kernel
theorem dL_law_1231 : decode cL_law 1231 = .ok (.aload_n 0, 1) := by decide +kernel
theorem dL_law_1232 : decode cL_law 1232 = .ok (.iload_n 3, 1) := by decide +kernel
theorem dL_law_1233 : decode cL_law 1233 = .ok (.iconst 2, 1) := by decide +kernel
theorem dL_law_1234 : decode cL_law 1234 = .ok (.iadd, 1) := by decide +kernel
theorem dL_law_1235 : decode cL_law 1235 = .ok (.iaload, 1) := by decide +kernel
theorem dL_law_1236 : decode cL_law 1236 = .ok (.invokevirtual 153, 3) := by decide +kernel
theorem dL_law_1239 : decode cL_law 1239 = .ok (.if_icmp .eq 119, 3) := by decide +kernel
theorem dL_law_1242 : decode cL_law 1242 = .ok (.iconst 0, 1) := by decide +kernel
theorem dL_law_1243 : decode cL_law 1243 = .ok (.ireturn, 1) := by decide +kernel
theorem dL_law_1244 : decode cL_law 1244 = .ok (.aload_n 1, 1) := by decide +kernel
theorem dL_law_1245 : decode cL_law 1245 = .ok (.invokevirtual 154, 3) := by decide +kernel
theorem dL_law_1248 : decode cL_law 1248 = .ok (.aload_n 2, 1) := by decide +kernel
theorem dL_law_1249 : decode cL_law 1249 = .ok (.invokevirtual 157, 3) := by decide +kernel
theorem dL_law_1252 : decode cL_law 1252 = .ok (.if_icmp .eq 106, 3) := by decide +kernel
theorem dL_law_1255 : decode cL_law 1255 = .ok (.iconst 0, 1) := by decide +kernel
theorem dL_law_1256 : decode cL_law 1256 = .ok (.ireturn, 1) := by decide +kernel
theorem dL_law_1257 : decode cL_law 1257 = .ok (.aload_n 1, 1) := by decide +kernel
theorem dL_law_1258 : decode cL_law 1258 = .ok (.invokevirtual 158, 3) := by decide +kernel
theorem dL_law_1261 : decode cL_law 1261 = .ok (.aload_n 2, 1) := by decide +kernel
theorem dL_law_1262 : decode cL_law 1262 = .ok (.invokevirtual 162, 3) := by decide +kernel
theorem dL_law_1265 : decode cL_law 1265 = .ok (.lcmp, 1) := by decide +kernel
theorem dL_law_1266 : decode cL_law 1266 = .ok (.ifCond .eq 92, 3) := by decide +kernel
theorem dL_law_1269 : decode cL_law 1269 = .ok (.iconst 0, 1) := by decide +kernel
theorem dL_law_1270 : decode cL_law 1270 = .ok (.ireturn, 1) := by decide +kernel
theorem dL_law_1271 : decode cL_law 1271 = .ok (.aload_n 1, 1) := by decide +kernel
theorem dL_law_1272 : decode cL_law 1272 = .ok (.invokevirtual 163, 3) := by decide +kernel
theorem dL_law_1275 : decode cL_law 1275 = .ok (.aload_n 2, 1) := by decide +kernel
theorem dL_law_1276 : decode cL_law 1276 = .ok (.invokevirtual 166, 3) := by decide +kernel
theorem dL_law_1279 : decode cL_law 1279 = .ok (.lcmp, 1) := by decide +kernel
theorem dL_law_1280 : decode cL_law 1280 = .ok (.ifCond .eq 78, 3) := by decide +kernel
theorem dL_law_1283 : decode cL_law 1283 = .ok (.iconst 0, 1) := by decide +kernel
theorem dL_law_1284 : decode cL_law 1284 = .ok (.ireturn, 1) := by decide +kernel
theorem dL_law_1285 : decode cL_law 1285 = .ok (.aload_n 1, 1) := by decide +kernel
theorem dL_law_1286 : decode cL_law 1286 = .ok (.aload_n 0, 1) := by decide +kernel
theorem dL_law_1287 : decode cL_law 1287 = .ok (.iload_n 3, 1) := by decide +kernel
theorem dL_law_1288 : decode cL_law 1288 = .ok (.iconst 1, 1) := by decide +kernel
theorem dL_law_1289 : decode cL_law 1289 = .ok (.iadd, 1) := by decide +kernel
theorem dL_law_1290 : decode cL_law 1290 = .ok (.iaload, 1) := by decide +kernel
theorem dL_law_1291 : decode cL_law 1291 = .ok (.invokevirtual 167, 3) := by decide +kernel
theorem dL_law_1294 : decode cL_law 1294 = .ok (.aload_n 2, 1) := by decide +kernel
theorem dL_law_1295 : decode cL_law 1295 = .ok (.aload_n 0, 1) := by decide +kernel
theorem dL_law_1296 : decode cL_law 1296 = .ok (.iload_n 3, 1) := by decide +kernel
theorem dL_law_1297 : decode cL_law 1297 = .ok (.iconst 1, 1) := by decide +kernel
theorem dL_law_1298 : decode cL_law 1298 = .ok (.iadd, 1) := by decide +kernel
theorem dL_law_1299 : decode cL_law 1299 = .ok (.iaload, 1) := by decide +kernel
theorem dL_law_1300 : decode cL_law 1300 = .ok (.invokevirtual 170, 3) := by decide +kernel
theorem dL_law_1303 : decode cL_law 1303 = .ok (.if_icmp .eq 55, 3) := by decide +kernel
theorem dL_law_1306 : decode cL_law 1306 = .ok (.iconst 0, 1) := by decide +kernel
theorem dL_law_1307 : decode cL_law 1307 = .ok (.ireturn, 1) := by decide +kernel
theorem dL_law_1308 : decode cL_law 1308 = .ok (.aload_n 1, 1) := by decide +kernel
theorem dL_law_1309 : decode cL_law 1309 = .ok (.invokevirtual 171, 3) := by decide +kernel
theorem dL_law_1312 : decode cL_law 1312 = .ok (.aload_n 2, 1) := by decide +kernel
theorem dL_law_1313 : decode cL_law 1313 = .ok (.invokevirtual 174, 3) := by decide +kernel
theorem dL_law_1316 : decode cL_law 1316 = .ok (.if_icmp .eq 42, 3) := by decide +kernel
theorem dL_law_1319 : decode cL_law 1319 = .ok (.iconst 0, 1) := by decide +kernel
theorem dL_law_1320 : decode cL_law 1320 = .ok (.ireturn, 1) := by decide +kernel
theorem dL_law_1321 : decode cL_law 1321 = .ok (.aload_n 1, 1) := by decide +kernel
theorem dL_law_1322 : decode cL_law 1322 = .ok (.aload_n 0, 1) := by decide +kernel
theorem dL_law_1323 : decode cL_law 1323 = .ok (.iload_n 3, 1) := by decide +kernel
theorem dL_law_1324 : decode cL_law 1324 = .ok (.iconst 1, 1) := by decide +kernel
theorem dL_law_1325 : decode cL_law 1325 = .ok (.iadd, 1) := by decide +kernel
theorem dL_law_1326 : decode cL_law 1326 = .ok (.iaload, 1) := by decide +kernel
theorem dL_law_1327 : decode cL_law 1327 = .ok (.invokevirtual 175, 3) := by decide +kernel
theorem dL_law_1330 : decode cL_law 1330 = .ok (.aload_n 2, 1) := by decide +kernel
theorem dL_law_1331 : decode cL_law 1331 = .ok (.aload_n 0, 1) := by decide +kernel
theorem dL_law_1332 : decode cL_law 1332 = .ok (.iload_n 3, 1) := by decide +kernel
theorem dL_law_1333 : decode cL_law 1333 = .ok (.iconst 1, 1) := by decide +kernel
theorem dL_law_1334 : decode cL_law 1334 = .ok (.iadd, 1) := by decide +kernel
theorem dL_law_1335 : decode cL_law 1335 = .ok (.iaload, 1) := by decide +kernel
theorem dL_law_1336 : decode cL_law 1336 = .ok (.invokevirtual 178, 3) := by decide +kernel
theorem dL_law_1339 : decode cL_law 1339 = .ok (.if_icmp .eq 19, 3) := by decide +kernel
theorem dL_law_1342 : decode cL_law 1342 = .ok (.iconst 0, 1) := by decide +kernel
theorem dL_law_1343 : decode cL_law 1343 = .ok (.ireturn, 1) := by decide +kernel
theorem dL_law_1344 : decode cL_law 1344 = .ok (.aload_n 1, 1) := by decide +kernel
theorem dL_law_1345 : decode cL_law 1345 = .ok (.invokevirtual 179, 3) := by decide +kernel
theorem dL_law_1348 : decode cL_law 1348 = .ok (.aload_n 2, 1) := by decide +kernel
theorem dL_law_1349 : decode cL_law 1349 = .ok (.invokevirtual 182, 3) := by decide +kernel
theorem dL_law_1352 : decode cL_law 1352 = .ok (.lcmp, 1) := by decide +kernel
theorem dL_law_1353 : decode cL_law 1353 = .ok (.ifCond .eq 5, 3) := by decide +kernel
theorem dL_law_1356 : decode cL_law 1356 = .ok (.iconst 0, 1) := by decide +kernel
theorem dL_law_1357 : decode cL_law 1357 = .ok (.ireturn, 1) := by decide +kernel
theorem dL_law_1358 : decode cL_law 1358 = .ok (.iinc 3 6, 3) := by decide +kernel
theorem dL_law_1361 : decode cL_law 1361 = .ok (.goto (-1343), 3) := by decide +kernel
theorem dL_law_1364 : decode cL_law 1364 = .ok (.iconst 1, 1) := by decide +kernel
theorem dL_law_1365 : decode cL_law 1365 = .ok (.ireturn, 1) := by decide +kernel
end
section
/-! THE MEMORY: all cells of the class's object and of the model's, by their numbers; ints by mu, longs by nu -/
def twl : List Cond := lw_tbl.filter goodWord
theorem twl_of {w : Cond} (i : Nat) (h : lw_tbl[i]? = some w) (g : goodWord w = true) : w ∈ twl := List.mem_filter.mpr ⟨List.mem_of_getElem? h, g⟩
theorem twl_mem {ws : List Cond} (h : GoodIn lw_tbl ws) (g : ws.all goodWord = true) : ∀ w ∈ ws, w ∈ twl := fun w hw => List.mem_filter.mpr ⟨(h w hw).1, List.all_eq_true.mp g w hw⟩
theorem twl_good {y : MethodName} {cc : ByteArray} {n : Nat} {ret : Option FieldType} (h : Cond.code y cc n ret ∈ twl) : GoodIn twl (Cond.code y cc n ret :: twl) := by
  intro w hw
  rcases List.mem_cons.mp hw with rfl | hw
  · exact ⟨h, good_of_word (List.mem_filter.mp h).2⟩
  · exact ⟨hw, good_of_word (List.mem_filter.mp hw).2⟩
/-- words that go along with the heat of the machine: the nest's, and what can be cast -/
def nw_kind : Cond → Bool
  | .fieldLinkNest .. => true
  | .methodLinkNest .. => true
  | .castable .. => true
  | _ => false
def nwl : List Cond := lw_tbl.filter nw_kind
theorem nwl_of {w : Cond} (i : Nat) (h : lw_tbl[i]? = some w) (g : nw_kind w = true) : w ∈ nwl := List.mem_filter.mpr ⟨List.mem_of_getElem? h, g⟩
theorem nw_warm {w : Cond} (g : nw_kind w = true) {s U : State} (hW : s.WarmedH U.vm) (h : va_Nw w s) : va_Nw w U := by
  cases w <;> first | exact va_Nw.warmF hW h | exact va_Nw.warmM hW h | exact va_Nw.warmC hW h | (simp [nw_kind] at g; done)
/-- pairs of classes that can't be cast -/
def ncl : List (String × String) := [(RX3, RX9), (RX8, RX9), (RX6, RX9), (RX2, RX9), (RX3, RX8), (RX9, RX8), (RX6, RX8), (RX1, RX8), (RX3, RX6), (RX9, RX6), (RX8, RX6), (RX1, RX6), (RX2, RX6), (RX3, RX1), (RX9, RX1), (RX8, RX1), (RX6, RX1), (RX2, RX1), (RX3, RX2), (RX9, RX2), (RX8, RX2), (RX6, RX2), (RX1, RX2)]
abbrev Mu : Type := Nat → Nat → Int32
abbrev Nu : Type := Nat → Nat → Int64
def mu_row (mu : Mu) (c : Nat) (f : Nat → Int32) : Mu := fun c' => if c' = c then f else mu c'
def mu_up (mu : Mu) (c j : Nat) (x : Int32) : Mu := mu_row mu c (upd (mu c) j x)
def nu_row (nu : Nu) (c : Nat) (f : Nat → Int64) : Nu := fun c' => if c' = c then f else nu c'
def nu_up (nu : Nu) (c j : Nat) (x : Int64) : Nu := nu_row nu c (vp_updL (nu c) j x)
theorem nu_row_self (nu : Nu) (c : Nat) : nu_row nu c (nu c) = nu := by
  funext c'
  unfold nu_row
  by_cases h : c' = c
  · rw [if_pos h, h]
  · rw [if_neg h]
theorem mu_row_self (mu : Mu) (c : Nat) : mu_row mu c (mu c) = mu := by
  funext c'
  unfold mu_row
  by_cases h : c' = c
  · rw [if_pos h, h]
  · rw [if_neg h]
/-- addresses of the cells; the classes' numbers and slots; the array classes; the two static arrays -/
abbrev Gl : Type := (Nat → Nat) × va_G × (Nat → ClassId) × Nat × Nat
def g_tys (G : Gl) : List (ClassId × FieldType) := [(G.2.2.1 0, .int), (G.2.2.1 1, .object RX7), (G.2.2.1 2, .object RX3), (G.2.2.1 3, .object RX4), (G.2.2.1 4, .object RX0)]
abbrev g_rf (G : Gl) (k : Nat) : Value := .ref (G.1 k)
abbrev g_ia (G : Gl) (n : Nat) (f : Nat → Int32) : va_E := .inl (G.2.2.1 0, n, .inl f)
abbrev g_ra (G : Gl) (t n : Nat) (f : Nat → Option Nat) : va_E := .inl (G.2.2.1 t, n, .inr (.inr (.inr (.inr f))))
def g_bench (G : Gl) (c : Nat) (f : Nat → Int32) : va_E := .inr (0, [g_rf G (c + 1), .int (f 1), .int (f 2), g_rf G (c + 2), g_rf G (c + 3), g_rf G (c + 4), .int (f 6), .int (f 7)])
def g_strip (G : Gl) (c : Nat) (f : Nat → Int32) : va_E := .inr (7, [g_rf G (c + 1), .int (f 1)])
def g_rod (G : Gl) (f : Nat → Int32) : va_E := .inr (4, [g_rf G (f 0).toNatClampNeg, .int (f 1), .int (f 2), .int (f 3)])
def g_box (G : Gl) (f : Nat → Int32) (g : Nat → Int64) : va_E := .inr (10, [g_rf G 1, g_rf G 14, g_rf G 23, g_rf G 30, .int (f 4), g_rf G 38, g_rf G 43, g_rf G 59, .int (f 8), .long (g 9), .long (g 10), .int (f 11), g_rf G 63])
def g_search (G : Gl) (f : Nat → Int32) : va_E := .inr (5, [g_rf G 60, .int (f 1), g_rf G 61, g_rf G 62, .int (f 4), .int (f 5), .int (f 6)])
def g_model (G : Gl) (f : Nat → Int32) (g : Nat → Int64) : va_E := .inr (11, [g_rf G 65, g_rf G 66, g_rf G 67, g_rf G 68, g_rf G 69, .int (f 5), g_rf G 70, .int (f 7), .long (g 8), .long (g 9), g_rf G 71, .int (f 11), .int (f 12), .int (f 13), .int (f 14), g_rf G 72, g_rf G 73, g_rf G 74, g_rf G 75, .int (f 19), g_rf G 76, g_rf G 77, g_rf G 78, .long (g 23)])
def g_kci (k : Nat) : Nat := if k = 0 then 3 else if k = 1 then 9 else if k = 2 then 8 else if k = 3 then 6 else if k = 4 then 1 else 2
/-- the sizes of the model's arrays, cells 65 to 78 -/
def g_msz (c : Nat) : Nat := [1568, 6, 240, 4, 240, 6, 40, 21, 8, 9, 7, 6, 7, 6].getD (c - 65) 0
def g_sh (G : Gl) (c : Nat) (f : Nat → Int32) (g : Nat → Int64) : va_E :=
  if c = 0 then g_box G f g
  else if c = 1 then g_ra G 1 6 (fun i => some (G.1 (2 + 2 * i)))
  else if c < 14 then (if c % 2 = 0 then g_strip G c f else g_ia G 60 f)
  else if c = 14 then g_ra G 1 4 (fun i => some (G.1 (15 + 2 * i)))
  else if c < 23 then (if c % 2 = 1 then g_strip G c f else g_ia G 60 f)
  else if c = 23 then g_ra G 2 6 (fun i => some (G.1 (24 + i)))
  else if c < 30 then .inr (g_kci (c - 24), [])
  else if c = 30 then g_ra G 3 7 (fun i => some (G.1 (31 + i)))
  else if c < 38 then g_rod G f
  else if c = 38 then g_bench G 38 f
  else if c = 39 then g_ia G 7 f
  else if c < 43 then g_ia G 40 f
  else if c = 43 then g_ra G 4 3 (fun i => some (G.1 (44 + 5 * i)))
  else if c < 59 then (if (c - 44) % 5 = 0 then g_bench G c f else if (c - 44) % 5 = 1 then g_ia G 7 f else g_ia G 40 f)
  else if c = 59 then g_search G f
  else if c < 63 then g_ia G 7 f
  else if c = 63 then g_ia G 6 f
  else if c = 64 then g_model G f g
  else g_ia G (g_msz c) f
def g_wl (G : Gl) (mu : Mu) (nu : Nu) : va_W := (List.range 79).map (fun c => (G.1 c, g_sh G c (mu c) (nu c)))
theorem g_at {G : Gl} {mu : Mu} {nu : Nu} {c : Nat} (h : c < 79) : (g_wl G mu nu)[c]? = some (G.1 c, g_sh G c (mu c) (nu c)) := by
  simp [g_wl, h]
theorem g_atE {G : Gl} {mu : Mu} {nu : Nu} {c : Nat} {e : va_E} (h : c < 79) (he : g_sh G c (mu c) (nu c) = e) : (g_wl G mu nu)[c]? = some (G.1 c, e) := by
  rw [g_at h, he]
theorem g_setM {G : Gl} {mu : Mu} {nu : Nu} {c : Nat} {e : va_E} {f : Nat → Int32} (h : c < 79) (he : g_sh G c f (nu c) = e) : (g_wl G mu nu).set c (G.1 c, e) = g_wl G (mu_row mu c f) nu := by
  apply List.ext_getElem?
  intro i
  by_cases hi : i = c
  · subst hi
    rw [List.getElem?_set_self (by simp [g_wl, h]), g_at h]
    simp [mu_row, he]
  · rw [List.getElem?_set_ne (fun e => hi e.symm)]
    by_cases h2 : i < 79
    · rw [g_at h2, g_at h2]
      simp [mu_row, hi]
    · simp [g_wl, h2]
theorem g_setN {G : Gl} {mu : Mu} {nu : Nu} {c : Nat} {e : va_E} {f : Nat → Int64} (h : c < 79) (he : g_sh G c (mu c) f = e) : (g_wl G mu nu).set c (G.1 c, e) = g_wl G mu (nu_row nu c f) := by
  apply List.ext_getElem?
  intro i
  by_cases hi : i = c
  · subst hi
    rw [List.getElem?_set_self (by simp [g_wl, h]), g_at h]
    simp [nu_row, he]
  · rw [List.getElem?_set_ne (fun e => hi e.symm)]
    by_cases h2 : i < 79
    · rw [g_at h2, g_at h2]
      simp [nu_row, hi]
    · simp [g_wl, h2]
def GA (G : Gl) (q : Nat) : Prop := ∃ c, c < 79 ∧ q = G.1 c
def g_dis (G : Gl) : Prop := ∀ i j, i < 79 → j < 79 → G.1 i = G.1 j → i = j
theorem g_lt {G : Gl} {mu : Mu} {nu : Nu} {i : Nat} {p : Nat × va_E} (h : (g_wl G mu nu)[i]? = some p) : i < 79 ∧ p.1 = G.1 i := by
  by_cases hi : i < 79
  · rw [g_at hi] at h
    cases h
    exact ⟨hi, rfl⟩
  · simp [g_wl, hi] at h
theorem g_D {G : Gl} (hd : g_dis G) (mu : Mu) (nu : Nu) : va_D (GA G) (g_wl G mu nu) := by
  refine ⟨fun i j p q hp hq e => ?_, fun k q hk => ?_⟩
  · obtain ⟨h1, h2⟩ := g_lt hp
    obtain ⟨h3, h4⟩ := g_lt hq
    exact hd i j h1 h3 (by rw [← h2, ← h4, e])
  · obtain ⟨h1, h2⟩ := g_lt hk
    exact ⟨k, h1, h2⟩
def t_let (j : Nat) : Int32 := if j = 0 then 114 else if j = 1 then 119 else if j = 2 then 116 else if j = 3 then 115 else if j = 4 then 98 else 100
def t_ten (j : Nat) : Nat := 10 ^ j
/-- the static arrays hold what they held -/
def g_S (G : Gl) (U : State) (H : Heap) : Prop := (va_Z RX10 "LETTERS" "[I" (.ref G.2.2.2.1) (GA G) U H ∧ va_T .int G.2.2.2.1 6 (fun j => .int (t_let j)) (GA G) U H) ∧ va_Z RX10 "TENS" "[I" (.ref G.2.2.2.2) (GA G) U H ∧ va_T .int G.2.2.2.2 8 (fun j => .int (nI (t_ten j))) (GA G) U H
theorem g_S.moved {G : Gl} {u U : State} {H : Heap} (hvm : u.vm.Alike U.vm) (h : g_S G u H) : g_S G U H := ⟨⟨h.1.1.moved hvm, h.1.2.moved hvm⟩, h.2.1.moved hvm, h.2.2.moved hvm⟩
theorem g_S.kept {G : Gl} {U : State} {H H1 : Heap} (h : g_S G U H) (hq : ∀ a : Nat, a < H.size → ¬ GA G a → H1[a]? = H[a]?) : g_S G U H1 := ⟨⟨h.1.1.kept hq, h.1.2.kept hq⟩, h.2.1.kept hq, h.2.2.kept hq⟩
def g_N (U : State) : Prop := (∀ w ∈ nwl, va_Nw w U) ∧ ∀ q ∈ ncl, va_Nc q.1 q.2 U
theorem g_N.warm {s U : State} (hW : s.WarmedH U.vm) (h : g_N s) : g_N U := ⟨fun w hw => nw_warm (List.mem_filter.mp hw).2 hW (h.1 w hw), fun q hq => (h.2 q hq).moved hW.alike⟩
theorem g_N.same {s U : State} (hv : s.vm = U.vm) (h : g_N s) : g_N U := ⟨fun w hw => va_Nw.same (by have := (List.mem_filter.mp hw).2; cases w <;> first | rfl | (simp [nw_kind] at this; done)) hv (h.1 w hw), fun q hq => (h.2 q hq).moved (hv ▸ Vm.Alike.refl s.vm)⟩
/-- a method: its name, its code, its locals, what it returns -/
abbrev Mr : Type := MethodName × ByteArray × Nat × Option FieldType
def g_Pc (G : Gl) (as : List Value) (mu : Mu) (nu : Nu) : Array Value → State → Prop := fun a U => a = as.toArray ∧ va_P G.2.1 vwCl (g_wl G mu nu) U.heap ∧ va_K G.2.1 vwCl (g_tys G) U ∧ g_S G U U.heap ∧ g_N U ∧ g_dis G
def g_Q (G : Gl) (post : Option Value → Mu → Nu → Prop) : Array Value → State → Outcome → State → Prop := fun _ st o t => (∃ v mu nu, o = .returned v ∧ post v mu nu ∧ va_P G.2.1 vwCl (g_wl G mu nu) t.heap) ∧ va_F (GA G) st t
def g_rm (fr : Nat) : Room := { frames := fr, cells := 0, slots := 0, locals := 64 * fr }
/-- A CONTRACT: called with these values over this memory the method returns, and then post holds of its answer and of the memory -/
def Ct (l : Launch) (G : Gl) (mm : Mr) (fr : Nat) (as : List Value) (mu : Mu) (nu : Nu) (post : Option Value → Mu → Nu → Prop) : Prop :=
  Met l mm.1 (Cond.code mm.1 mm.2.1 mm.2.2.1 mm.2.2.2 :: twl) (g_rm fr) (g_Pc G as mu nu) (g_Q G post) 0 0 (GA G)
theorem g_blind {G : Gl} {as : List Value} {mu : Mu} {nu : Nu} : FrameBlind (g_Pc G as mu nu) := by
  intro a U g mk h
  obtain ⟨h1, h2, h3, h4, h5, h6⟩ := h
  exact ⟨h1, h2, va_K.moved (u := U) (U := U.calling g mk a) (Vm.Alike.refl U.vm) h3, g_S.moved (u := U) (U := U.calling g mk a) (Vm.Alike.refl U.vm) h4, g_N.same (s := U) (U := U.calling g mk a) rfl h5, h6⟩
/-- the machine in a method: program, environment, room, start, method, arguments, frames below, method, code, cells and slots made -/
abbrev Bx : Type := Program × Env × Room × State × MethodId × Array Value × List Frame × Method × Code × Nat × Nat
/-- the machine at pc, over locals, stack, memory, comes to a state with Q -/
def Mq (l : Launch) (G : Gl) (nL : Nat) (X : Bx) (Q : State → Prop) (pc : Nat) (lv : List (Nat × Value)) (st : List Value) (mu : Mu) (nu : Nu) : Prop :=
  match X with
  | (p, e, R, s, m, args, below, meth, c, cells, slots) => ∀ (H : Heap) (locs : List Loc) (ls : Array Slot), va_P G.2.1 vwCl (g_wl G mu nu) H → va_S (GA G) s.heap H locs → lv_has ls nL lv → W p l e R s m args below meth c H locs cells slots Q (F0 m pc ls st)
def Cx (G : Gl) (nL : Nat) (X : Bx) (cc : ByteArray) (own : String) (ret : Option FieldType) (fr : Nat) : Prop :=
  match X with
  | (p, _, R, s, m, args, _, meth, c, cells, slots) => p.tables.exec = Jvm.exec ∧ c.code = cc ∧ c.maxLocals = nL ∧ s.vm.findClass own = some m.cls ∧ (∀ w ∈ twl, w.before args s = true) ∧ va_K G.2.1 vwCl (g_tys G) s ∧ g_S G s s.heap ∧ g_N s ∧ g_dis G ∧ meth.sig.returnType = ret ∧ meth.locks = false ∧ fr ≤ R.frames ∧ 64 * fr ≤ R.locals ∧ cells ≤ R.cells ∧ slots ≤ R.slots
def g_E (G : Gl) (X : Bx) (post : Option Value → Mu → Nu → Prop) : State → Prop :=
  match X with
  | (_, _, _, s, _, args, below, _, _, cells, slots) => MQ below (g_Q G post) args s cells slots (GA G)
theorem Ct.of {l : Launch} {G : Gl} {mm : Mr} {fr : Nat} {as : List Value} {mu : Mu} {nu : Nu} {post : Option Value → Mu → Nu → Prop} {own : String} {lv : List (Nat × Value)} (hy : plainName mm.1.cls = true) (ho : mm.1.cls = own) (hn : (lg_sl as).length ≤ mm.2.2.1) (hlv : lv_args 0 as = lv)
    (body : ∀ X : Bx, Cx G mm.2.2.1 X mm.2.1 own mm.2.2.2 fr → Mq l G mm.2.2.1 X (g_E G X post) 0 lv [] mu nu) : Ct l G mm fr as mu nu post := by
  subst hlv
  unfold Ct
  refine Met.ofW (cc := mm.2.1) (maxL := mm.2.2.1) (ret := mm.2.2.2) hy rfl ?_
  intro p e s m args below meth c s₁ B hml hv
  obtain ⟨rfl, hP, hK, hS, hN, hd⟩ := hv
  have hts := atoms_spec (ws := Cond.code mm.1 mm.2.1 mm.2.2.1 mm.2.2.2 :: twl) B.pre
  have hown : s.vm.findClass own = some m.cls := ho ▸ findClass_of_methodNamed B.named
  rw [lg_entry_eq]
  exact body (p, e, (headSpec (Cond.code mm.1 mm.2.1 mm.2.2.1 mm.2.2.2 :: twl) (g_rm fr)).room, s, m, as.toArray, below, meth, c, 0, 0) ⟨B.exec, B.bytes, hml, hown, fun w hw => hts w (List.mem_cons_of_mem _ hw), hK, hS, hN, hd, B.returns, B.notSynchronized, Nat.le_refl _, Nat.le_refl _, Nat.zero_le _, Nat.zero_le _⟩ s.heap [] _ hP va_S.rf (lv_entry as hn)
end
section
section
variable {l : Launch} {G : Gl} {nL : Nat} {X : Bx} {Q : State → Prop} {cc : ByteArray} {own : String} {ret : Option FieldType} {fr pc : Nat} {lv : List (Nat × Value)} {st : List Value} {mu : Mu} {nu : Nu}
theorem m_iconst (C : Cx G nL X cc own ret fr) {n : Int} (v : Int32) (d : decode cc pc = .ok (.iconst n, 1)) (hv : Int32.ofInt n = v) (kk : Mq l G nL X Q (pc + 1) lv (.int v :: st) mu nu) : Mq l G nL X Q pc lv st mu nu := by
  obtain ⟨p, e, R, s, m, args, below, meth, c, cells, slots⟩ := X
  obtain ⟨hx, hb, hml, ho, hts, hK, hGS, hGN, hd, hr, hlk, hfr, hlo, hce, hsl⟩ := C
  intro H locs ls hP hS hl
  exact lv_iconst hx hb d hv (kk H locs ls hP hS hl)
theorem m_bipush (C : Cx G nL X cc own ret fr) {n : Int} (v : Int32) (d : decode cc pc = .ok (.bipush n, 2)) (hv : (Int8.ofInt n).toInt32 = v) (kk : Mq l G nL X Q (pc + 2) lv (.int v :: st) mu nu) : Mq l G nL X Q pc lv st mu nu := by
  obtain ⟨p, e, R, s, m, args, below, meth, c, cells, slots⟩ := X
  obtain ⟨hx, hb, hml, ho, hts, hK, hGS, hGN, hd, hr, hlk, hfr, hlo, hce, hsl⟩ := C
  intro H locs ls hP hS hl
  exact lv_bipush hx hb d hv (kk H locs ls hP hS hl)
theorem m_sipush (C : Cx G nL X cc own ret fr) {n : Int} (v : Int32) (d : decode cc pc = .ok (.sipush n, 3)) (hv : (Int16.ofInt n).toInt32 = v) (kk : Mq l G nL X Q (pc + 3) lv (.int v :: st) mu nu) : Mq l G nL X Q pc lv st mu nu := by
  obtain ⟨p, e, R, s, m, args, below, meth, c, cells, slots⟩ := X
  obtain ⟨hx, hb, hml, ho, hts, hK, hGS, hGN, hd, hr, hlk, hfr, hlo, hce, hsl⟩ := C
  intro H locs ls hP hS hl
  exact lv_sipush hx hb d hv (kk H locs ls hP hS hl)
theorem m_lconst (C : Cx G nL X cc own ret fr) {n : Fin 2} (v : Int64) (d : decode cc pc = .ok (.lconst n, 1)) (hv : Int64.ofNat (n : Nat) = v) (kk : Mq l G nL X Q (pc + 1) lv (.long v :: st) mu nu) : Mq l G nL X Q pc lv st mu nu := by
  obtain ⟨p, e, R, s, m, args, below, meth, c, cells, slots⟩ := X
  obtain ⟨hx, hb, hml, ho, hts, hK, hGS, hGN, hd, hr, hlk, hfr, hlo, hce, hsl⟩ := C
  intro H locs ls hP hS hl
  exact lv_lconst hx hb d hv (kk H locs ls hP hS hl)
theorem m_ldc (C : Cx G nL X cc own ret fr) {index : Nat} (v : Int32) (hw : Cond.constant own index v ∈ twl) (d : decode cc pc = .ok (.ldc index, 2)) (kk : Mq l G nL X Q (pc + 2) lv (.int v :: st) mu nu) : Mq l G nL X Q pc lv st mu nu := by
  obtain ⟨p, e, R, s, m, args, below, meth, c, cells, slots⟩ := X
  obtain ⟨hx, hb, hml, ho, hts, hK, hGS, hGN, hd, hr, hlk, hfr, hlo, hce, hsl⟩ := C
  intro H locs ls hP hS hl
  exact lv_ldc hx hb ho (hts _ hw) d (kk H locs ls hP hS hl)
theorem m_ldcw (C : Cx G nL X cc own ret fr) {index : Nat} (v : Int32) (hw : Cond.constant own index v ∈ twl) (d : decode cc pc = .ok (.ldc_w index, 3)) (kk : Mq l G nL X Q (pc + 3) lv (.int v :: st) mu nu) : Mq l G nL X Q pc lv st mu nu := by
  obtain ⟨p, e, R, s, m, args, below, meth, c, cells, slots⟩ := X
  obtain ⟨hx, hb, hml, ho, hts, hK, hGS, hGN, hd, hr, hlk, hfr, hlo, hce, hsl⟩ := C
  intro H locs ls hP hS hl
  exact lv_ldcw hx hb ho (hts _ hw) d (kk H locs ls hP hS hl)
theorem m_ldc2 (C : Cx G nL X cc own ret fr) {index : Nat} (v : Int64) (hw : Cond.constantLong own index v ∈ twl) (d : decode cc pc = .ok (.ldc2_w index, 3)) (kk : Mq l G nL X Q (pc + 3) lv (.long v :: st) mu nu) : Mq l G nL X Q pc lv st mu nu := by
  obtain ⟨p, e, R, s, m, args, below, meth, c, cells, slots⟩ := X
  obtain ⟨hx, hb, hml, ho, hts, hK, hGS, hGN, hd, hr, hlk, hfr, hlo, hce, hsl⟩ := C
  intro H locs ls hP hS hl
  exact lv_ldc2 hx hb ho (hts _ hw) d (kk H locs ls hP hS hl)
theorem m_iload (C : Cx G nL X cc own ret fr) {i : Nat} {x : Int32} (j : Nat) (d : decode cc pc = .ok (.iload i, 2)) (h : lv[j]? = some (i, .int x)) (kk : Mq l G nL X Q (pc + 2) lv (.int x :: st) mu nu) : Mq l G nL X Q pc lv st mu nu := by
  obtain ⟨p, e, R, s, m, args, below, meth, c, cells, slots⟩ := X
  obtain ⟨hx, hb, hml, ho, hts, hK, hGS, hGN, hd, hr, hlk, hfr, hlo, hce, hsl⟩ := C
  intro H locs ls hP hS hl
  exact lv_iload hx hb d (lv_at hl j h) (kk H locs ls hP hS hl)
theorem m_iload_n (C : Cx G nL X cc own ret fr) {k : Fin 4} {x : Int32} (j : Nat) (d : decode cc pc = .ok (.iload_n k, 1)) (h : lv[j]? = some ((k : Nat), .int x)) (kk : Mq l G nL X Q (pc + 1) lv (.int x :: st) mu nu) : Mq l G nL X Q pc lv st mu nu := by
  obtain ⟨p, e, R, s, m, args, below, meth, c, cells, slots⟩ := X
  obtain ⟨hx, hb, hml, ho, hts, hK, hGS, hGN, hd, hr, hlk, hfr, hlo, hce, hsl⟩ := C
  intro H locs ls hP hS hl
  exact lv_iload_n hx hb d rfl (lv_at hl j h) (kk H locs ls hP hS hl)
theorem m_lload (C : Cx G nL X cc own ret fr) {i : Nat} {x : Int64} (j : Nat) (d : decode cc pc = .ok (.lload i, 2)) (h : lv[j]? = some (i, .long x)) (kk : Mq l G nL X Q (pc + 2) lv (.long x :: st) mu nu) : Mq l G nL X Q pc lv st mu nu := by
  obtain ⟨p, e, R, s, m, args, below, meth, c, cells, slots⟩ := X
  obtain ⟨hx, hb, hml, ho, hts, hK, hGS, hGN, hd, hr, hlk, hfr, hlo, hce, hsl⟩ := C
  intro H locs ls hP hS hl
  exact lv_lload hx hb d (lv_at hl j h) (kk H locs ls hP hS hl)
theorem m_lload_n (C : Cx G nL X cc own ret fr) {k : Fin 4} {x : Int64} (j : Nat) (d : decode cc pc = .ok (.lload_n k, 1)) (h : lv[j]? = some ((k : Nat), .long x)) (kk : Mq l G nL X Q (pc + 1) lv (.long x :: st) mu nu) : Mq l G nL X Q pc lv st mu nu := by
  obtain ⟨p, e, R, s, m, args, below, meth, c, cells, slots⟩ := X
  obtain ⟨hx, hb, hml, ho, hts, hK, hGS, hGN, hd, hr, hlk, hfr, hlo, hce, hsl⟩ := C
  intro H locs ls hP hS hl
  exact lv_lload_n hx hb d rfl (lv_at hl j h) (kk H locs ls hP hS hl)
theorem m_aload (C : Cx G nL X cc own ret fr) {i : Nat} {x : Nat} (j : Nat) (d : decode cc pc = .ok (.aload i, 2)) (h : lv[j]? = some (i, .ref x)) (kk : Mq l G nL X Q (pc + 2) lv (.ref x :: st) mu nu) : Mq l G nL X Q pc lv st mu nu := by
  obtain ⟨p, e, R, s, m, args, below, meth, c, cells, slots⟩ := X
  obtain ⟨hx, hb, hml, ho, hts, hK, hGS, hGN, hd, hr, hlk, hfr, hlo, hce, hsl⟩ := C
  intro H locs ls hP hS hl
  exact lv_aload hx hb d (lv_at hl j h) (kk H locs ls hP hS hl)
theorem m_aload_n (C : Cx G nL X cc own ret fr) {k : Fin 4} {x : Nat} (j : Nat) (d : decode cc pc = .ok (.aload_n k, 1)) (h : lv[j]? = some ((k : Nat), .ref x)) (kk : Mq l G nL X Q (pc + 1) lv (.ref x :: st) mu nu) : Mq l G nL X Q pc lv st mu nu := by
  obtain ⟨p, e, R, s, m, args, below, meth, c, cells, slots⟩ := X
  obtain ⟨hx, hb, hml, ho, hts, hK, hGS, hGN, hd, hr, hlk, hfr, hlo, hce, hsl⟩ := C
  intro H locs ls hP hS hl
  exact lv_aload_n hx hb d rfl (lv_at hl j h) (kk H locs ls hP hS hl)
theorem m_istore (C : Cx G nL X cc own ret fr) {i : Nat} {x : Int32} (lw : List (Nat × Value)) (d : decode cc pc = .ok (.istore i, 2)) (hn : i < nL) (hv : (i, Value.int x) :: lv.filter (fun q => !(q.1 == i) && !(q.1 + 1 == i && q.2.category == 2)) = lw) (kk : Mq l G nL X Q (pc + 2) lw st mu nu) : Mq l G nL X Q pc lv (.int x :: st) mu nu := by
  obtain ⟨p, e, R, s, m, args, below, meth, c, cells, slots⟩ := X
  obtain ⟨hx, hb, hml, ho, hts, hK, hGS, hGN, hd, hr, hlk, hfr, hlo, hce, hsl⟩ := C
  intro H locs ls hP hS hl
  exact lv_istore hx hb d hl hn hv (fun ls hl => (kk H locs ls hP hS hl))
theorem m_istore_n (C : Cx G nL X cc own ret fr) {k : Fin 4} {x : Int32} (lw : List (Nat × Value)) (d : decode cc pc = .ok (.istore_n k, 1)) (hn : (k : Nat) < nL) (hv : ((k : Nat), Value.int x) :: lv.filter (fun q => !(q.1 == (k : Nat)) && !(q.1 + 1 == (k : Nat) && q.2.category == 2)) = lw) (kk : Mq l G nL X Q (pc + 1) lw st mu nu) : Mq l G nL X Q pc lv (.int x :: st) mu nu := by
  obtain ⟨p, e, R, s, m, args, below, meth, c, cells, slots⟩ := X
  obtain ⟨hx, hb, hml, ho, hts, hK, hGS, hGN, hd, hr, hlk, hfr, hlo, hce, hsl⟩ := C
  intro H locs ls hP hS hl
  exact lv_istore_n hx hb d rfl hl hn hv (fun ls hl => (kk H locs ls hP hS hl))
theorem m_lstore (C : Cx G nL X cc own ret fr) {i : Nat} {x : Int64} (lw : List (Nat × Value)) (d : decode cc pc = .ok (.lstore i, 2)) (hn : i + 1 < nL) (hv : (i, Value.long x) :: lv.filter (fun q => !(q.1 == i) && (!(q.1 == i + 1) && !(q.1 + 1 == i && q.2.category == 2))) = lw) (kk : Mq l G nL X Q (pc + 2) lw st mu nu) : Mq l G nL X Q pc lv (.long x :: st) mu nu := by
  obtain ⟨p, e, R, s, m, args, below, meth, c, cells, slots⟩ := X
  obtain ⟨hx, hb, hml, ho, hts, hK, hGS, hGN, hd, hr, hlk, hfr, hlo, hce, hsl⟩ := C
  intro H locs ls hP hS hl
  exact lv_lstore hx hb d hl hn hv (fun ls hl => (kk H locs ls hP hS hl))
theorem m_lstore_n (C : Cx G nL X cc own ret fr) {k : Fin 4} {x : Int64} (lw : List (Nat × Value)) (d : decode cc pc = .ok (.lstore_n k, 1)) (hn : (k : Nat) + 1 < nL) (hv : ((k : Nat), Value.long x) :: lv.filter (fun q => !(q.1 == (k : Nat)) && (!(q.1 == (k : Nat) + 1) && !(q.1 + 1 == (k : Nat) && q.2.category == 2))) = lw) (kk : Mq l G nL X Q (pc + 1) lw st mu nu) : Mq l G nL X Q pc lv (.long x :: st) mu nu := by
  obtain ⟨p, e, R, s, m, args, below, meth, c, cells, slots⟩ := X
  obtain ⟨hx, hb, hml, ho, hts, hK, hGS, hGN, hd, hr, hlk, hfr, hlo, hce, hsl⟩ := C
  intro H locs ls hP hS hl
  exact lv_lstore_n hx hb d rfl hl hn hv (fun ls hl => (kk H locs ls hP hS hl))
theorem m_astore (C : Cx G nL X cc own ret fr) {i : Nat} {x : Nat} (lw : List (Nat × Value)) (d : decode cc pc = .ok (.astore i, 2)) (hn : i < nL) (hv : (i, Value.ref x) :: lv.filter (fun q => !(q.1 == i) && !(q.1 + 1 == i && q.2.category == 2)) = lw) (kk : Mq l G nL X Q (pc + 2) lw st mu nu) : Mq l G nL X Q pc lv (.ref x :: st) mu nu := by
  obtain ⟨p, e, R, s, m, args, below, meth, c, cells, slots⟩ := X
  obtain ⟨hx, hb, hml, ho, hts, hK, hGS, hGN, hd, hr, hlk, hfr, hlo, hce, hsl⟩ := C
  intro H locs ls hP hS hl
  exact lv_astore hx hb d hl hn hv (fun ls hl => (kk H locs ls hP hS hl))
theorem m_astore_n (C : Cx G nL X cc own ret fr) {k : Fin 4} {x : Nat} (lw : List (Nat × Value)) (d : decode cc pc = .ok (.astore_n k, 1)) (hn : (k : Nat) < nL) (hv : ((k : Nat), Value.ref x) :: lv.filter (fun q => !(q.1 == (k : Nat)) && !(q.1 + 1 == (k : Nat) && q.2.category == 2)) = lw) (kk : Mq l G nL X Q (pc + 1) lw st mu nu) : Mq l G nL X Q pc lv (.ref x :: st) mu nu := by
  obtain ⟨p, e, R, s, m, args, below, meth, c, cells, slots⟩ := X
  obtain ⟨hx, hb, hml, ho, hts, hK, hGS, hGN, hd, hr, hlk, hfr, hlo, hce, hsl⟩ := C
  intro H locs ls hP hS hl
  exact lv_astore_n hx hb d rfl hl hn hv (fun ls hl => (kk H locs ls hP hS hl))
theorem m_iinc (C : Cx G nL X cc own ret fr) {i : Nat} {n : Int} {x : Int32} (j : Nat) (v : Int32) (lw : List (Nat × Value)) (d : decode cc pc = .ok (.iinc i n, 3)) (h : lv[j]? = some (i, .int x)) (hv : x + Int32.ofInt n = v) (hn : i < nL) (hw : (i, Value.int v) :: lv.filter (fun q => !(q.1 == i) && !(q.1 + 1 == i && q.2.category == 2)) = lw) (kk : Mq l G nL X Q (pc + 3) lw st mu nu) : Mq l G nL X Q pc lv st mu nu := by
  obtain ⟨p, e, R, s, m, args, below, meth, c, cells, slots⟩ := X
  obtain ⟨hx, hb, hml, ho, hts, hK, hGS, hGN, hd, hr, hlk, hfr, hlo, hce, hsl⟩ := C
  intro H locs ls hP hS hl
  exact lv_iinc hx hb d hl h hv hn hw (fun ls hl => (kk H locs ls hP hS hl))
theorem m_dup (C : Cx G nL X cc own ret fr) {va : Value} (d : decode cc pc = .ok (.dup, 1)) (hc : va.category = 1) (kk : Mq l G nL X Q (pc + 1) lv (va :: va :: st) mu nu) : Mq l G nL X Q pc lv (va :: st) mu nu := by
  obtain ⟨p, e, R, s, m, args, below, meth, c, cells, slots⟩ := X
  obtain ⟨hx, hb, hml, ho, hts, hK, hGS, hGN, hd, hr, hlk, hfr, hlo, hce, hsl⟩ := C
  intro H locs ls hP hS hl
  exact lv_dup hx hb d hc (kk H locs ls hP hS hl)
theorem m_pop (C : Cx G nL X cc own ret fr) {va : Value} (d : decode cc pc = .ok (.pop, 1)) (hc : va.category = 1) (kk : Mq l G nL X Q (pc + 1) lv st mu nu) : Mq l G nL X Q pc lv (va :: st) mu nu := by
  obtain ⟨p, e, R, s, m, args, below, meth, c, cells, slots⟩ := X
  obtain ⟨hx, hb, hml, ho, hts, hK, hGS, hGN, hd, hr, hlk, hfr, hlo, hce, hsl⟩ := C
  intro H locs ls hP hS hl
  exact lv_pop hx hb d hc (kk H locs ls hP hS hl)
theorem m_iadd (C : Cx G nL X cc own ret fr) {x y : Int32} (d : decode cc pc = .ok (.iadd, 1)) (kk : Mq l G nL X Q (pc + 1) lv (.int (x + y) :: st) mu nu) : Mq l G nL X Q pc lv (.int y :: .int x :: st) mu nu := by
  obtain ⟨p, e, R, s, m, args, below, meth, c, cells, slots⟩ := X
  obtain ⟨hx, hb, hml, ho, hts, hK, hGS, hGN, hd, hr, hlk, hfr, hlo, hce, hsl⟩ := C
  intro H locs ls hP hS hl
  exact lv_iadd hx hb d (kk H locs ls hP hS hl)
theorem m_isub (C : Cx G nL X cc own ret fr) {x y : Int32} (d : decode cc pc = .ok (.isub, 1)) (kk : Mq l G nL X Q (pc + 1) lv (.int (x - y) :: st) mu nu) : Mq l G nL X Q pc lv (.int y :: .int x :: st) mu nu := by
  obtain ⟨p, e, R, s, m, args, below, meth, c, cells, slots⟩ := X
  obtain ⟨hx, hb, hml, ho, hts, hK, hGS, hGN, hd, hr, hlk, hfr, hlo, hce, hsl⟩ := C
  intro H locs ls hP hS hl
  exact lv_isub hx hb d (kk H locs ls hP hS hl)
theorem m_imul (C : Cx G nL X cc own ret fr) {x y : Int32} (d : decode cc pc = .ok (.imul, 1)) (kk : Mq l G nL X Q (pc + 1) lv (.int (x * y) :: st) mu nu) : Mq l G nL X Q pc lv (.int y :: .int x :: st) mu nu := by
  obtain ⟨p, e, R, s, m, args, below, meth, c, cells, slots⟩ := X
  obtain ⟨hx, hb, hml, ho, hts, hK, hGS, hGN, hd, hr, hlk, hfr, hlo, hce, hsl⟩ := C
  intro H locs ls hP hS hl
  exact lv_imul hx hb d (kk H locs ls hP hS hl)
theorem m_iand (C : Cx G nL X cc own ret fr) {x y : Int32} (d : decode cc pc = .ok (.iand, 1)) (kk : Mq l G nL X Q (pc + 1) lv (.int (x &&& y) :: st) mu nu) : Mq l G nL X Q pc lv (.int y :: .int x :: st) mu nu := by
  obtain ⟨p, e, R, s, m, args, below, meth, c, cells, slots⟩ := X
  obtain ⟨hx, hb, hml, ho, hts, hK, hGS, hGN, hd, hr, hlk, hfr, hlo, hce, hsl⟩ := C
  intro H locs ls hP hS hl
  exact lv_iand hx hb d (kk H locs ls hP hS hl)
theorem m_ior (C : Cx G nL X cc own ret fr) {x y : Int32} (d : decode cc pc = .ok (.ior, 1)) (kk : Mq l G nL X Q (pc + 1) lv (.int (x ||| y) :: st) mu nu) : Mq l G nL X Q pc lv (.int y :: .int x :: st) mu nu := by
  obtain ⟨p, e, R, s, m, args, below, meth, c, cells, slots⟩ := X
  obtain ⟨hx, hb, hml, ho, hts, hK, hGS, hGN, hd, hr, hlk, hfr, hlo, hce, hsl⟩ := C
  intro H locs ls hP hS hl
  exact lv_ior hx hb d (kk H locs ls hP hS hl)
theorem m_ixor (C : Cx G nL X cc own ret fr) {x y : Int32} (d : decode cc pc = .ok (.ixor, 1)) (kk : Mq l G nL X Q (pc + 1) lv (.int (x ^^^ y) :: st) mu nu) : Mq l G nL X Q pc lv (.int y :: .int x :: st) mu nu := by
  obtain ⟨p, e, R, s, m, args, below, meth, c, cells, slots⟩ := X
  obtain ⟨hx, hb, hml, ho, hts, hK, hGS, hGN, hd, hr, hlk, hfr, hlo, hce, hsl⟩ := C
  intro H locs ls hP hS hl
  exact lv_ixor hx hb d (kk H locs ls hP hS hl)
theorem m_ishl (C : Cx G nL X cc own ret fr) {x y : Int32} (d : decode cc pc = .ok (.ishl, 1)) (kk : Mq l G nL X Q (pc + 1) lv (.int (x <<< (y &&& 31)) :: st) mu nu) : Mq l G nL X Q pc lv (.int y :: .int x :: st) mu nu := by
  obtain ⟨p, e, R, s, m, args, below, meth, c, cells, slots⟩ := X
  obtain ⟨hx, hb, hml, ho, hts, hK, hGS, hGN, hd, hr, hlk, hfr, hlo, hce, hsl⟩ := C
  intro H locs ls hP hS hl
  exact lv_ishl hx hb d (kk H locs ls hP hS hl)
theorem m_ishr (C : Cx G nL X cc own ret fr) {x y : Int32} (d : decode cc pc = .ok (.ishr, 1)) (kk : Mq l G nL X Q (pc + 1) lv (.int (x >>> (y &&& 31)) :: st) mu nu) : Mq l G nL X Q pc lv (.int y :: .int x :: st) mu nu := by
  obtain ⟨p, e, R, s, m, args, below, meth, c, cells, slots⟩ := X
  obtain ⟨hx, hb, hml, ho, hts, hK, hGS, hGN, hd, hr, hlk, hfr, hlo, hce, hsl⟩ := C
  intro H locs ls hP hS hl
  exact lv_ishr hx hb d (kk H locs ls hP hS hl)
theorem m_idiv (C : Cx G nL X cc own ret fr) {x y : Int32} (d : decode cc pc = .ok (.idiv, 1)) (hne : ¬ y = 0) (kk : Mq l G nL X Q (pc + 1) lv (.int (x / y) :: st) mu nu) : Mq l G nL X Q pc lv (.int y :: .int x :: st) mu nu := by
  obtain ⟨p, e, R, s, m, args, below, meth, c, cells, slots⟩ := X
  obtain ⟨hx, hb, hml, ho, hts, hK, hGS, hGN, hd, hr, hlk, hfr, hlo, hce, hsl⟩ := C
  intro H locs ls hP hS hl
  exact lv_idiv hx hb d hne (kk H locs ls hP hS hl)
theorem m_irem (C : Cx G nL X cc own ret fr) {x y : Int32} (d : decode cc pc = .ok (.irem, 1)) (hne : ¬ y = 0) (kk : Mq l G nL X Q (pc + 1) lv (.int (x - x / y * y) :: st) mu nu) : Mq l G nL X Q pc lv (.int y :: .int x :: st) mu nu := by
  obtain ⟨p, e, R, s, m, args, below, meth, c, cells, slots⟩ := X
  obtain ⟨hx, hb, hml, ho, hts, hK, hGS, hGN, hd, hr, hlk, hfr, hlo, hce, hsl⟩ := C
  intro H locs ls hP hS hl
  exact lv_irem hx hb d hne (kk H locs ls hP hS hl)
theorem m_ladd (C : Cx G nL X cc own ret fr) {x y : Int64} (d : decode cc pc = .ok (.ladd, 1)) (kk : Mq l G nL X Q (pc + 1) lv (.long (x + y) :: st) mu nu) : Mq l G nL X Q pc lv (.long y :: .long x :: st) mu nu := by
  obtain ⟨p, e, R, s, m, args, below, meth, c, cells, slots⟩ := X
  obtain ⟨hx, hb, hml, ho, hts, hK, hGS, hGN, hd, hr, hlk, hfr, hlo, hce, hsl⟩ := C
  intro H locs ls hP hS hl
  exact lv_ladd hx hb d (kk H locs ls hP hS hl)
theorem m_lmul (C : Cx G nL X cc own ret fr) {x y : Int64} (d : decode cc pc = .ok (.lmul, 1)) (kk : Mq l G nL X Q (pc + 1) lv (.long (x * y) :: st) mu nu) : Mq l G nL X Q pc lv (.long y :: .long x :: st) mu nu := by
  obtain ⟨p, e, R, s, m, args, below, meth, c, cells, slots⟩ := X
  obtain ⟨hx, hb, hml, ho, hts, hK, hGS, hGN, hd, hr, hlk, hfr, hlo, hce, hsl⟩ := C
  intro H locs ls hP hS hl
  exact lv_lmul hx hb d (kk H locs ls hP hS hl)
theorem m_ldiv (C : Cx G nL X cc own ret fr) {x y : Int64} (d : decode cc pc = .ok (.ldiv, 1)) (hne : ¬ y = 0) (kk : Mq l G nL X Q (pc + 1) lv (.long (x / y) :: st) mu nu) : Mq l G nL X Q pc lv (.long y :: .long x :: st) mu nu := by
  obtain ⟨p, e, R, s, m, args, below, meth, c, cells, slots⟩ := X
  obtain ⟨hx, hb, hml, ho, hts, hK, hGS, hGN, hd, hr, hlk, hfr, hlo, hce, hsl⟩ := C
  intro H locs ls hP hS hl
  exact lv_ldiv hx hb d hne (kk H locs ls hP hS hl)
theorem m_lrem (C : Cx G nL X cc own ret fr) {x y : Int64} (d : decode cc pc = .ok (.lrem, 1)) (hne : ¬ y = 0) (kk : Mq l G nL X Q (pc + 1) lv (.long (x - x / y * y) :: st) mu nu) : Mq l G nL X Q pc lv (.long y :: .long x :: st) mu nu := by
  obtain ⟨p, e, R, s, m, args, below, meth, c, cells, slots⟩ := X
  obtain ⟨hx, hb, hml, ho, hts, hK, hGS, hGN, hd, hr, hlk, hfr, hlo, hce, hsl⟩ := C
  intro H locs ls hP hS hl
  exact lv_lrem hx hb d hne (kk H locs ls hP hS hl)
theorem m_lcmp (C : Cx G nL X cc own ret fr) {x y : Int64} (d : decode cc pc = .ok (.lcmp, 1)) (kk : Mq l G nL X Q (pc + 1) lv (.int (lg_cmp x y) :: st) mu nu) : Mq l G nL X Q pc lv (.long y :: .long x :: st) mu nu := by
  obtain ⟨p, e, R, s, m, args, below, meth, c, cells, slots⟩ := X
  obtain ⟨hx, hb, hml, ho, hts, hK, hGS, hGN, hd, hr, hlk, hfr, hlo, hce, hsl⟩ := C
  intro H locs ls hP hS hl
  exact W.lcmp hx hb d (kk H locs ls hP hS hl)
theorem m_i2l (C : Cx G nL X cc own ret fr) {x : Int32} (d : decode cc pc = .ok (.i2l, 1)) (kk : Mq l G nL X Q (pc + 1) lv (.long x.toInt64 :: st) mu nu) : Mq l G nL X Q pc lv (.int x :: st) mu nu := by
  obtain ⟨p, e, R, s, m, args, below, meth, c, cells, slots⟩ := X
  obtain ⟨hx, hb, hml, ho, hts, hK, hGS, hGN, hd, hr, hlk, hfr, hlo, hce, hsl⟩ := C
  intro H locs ls hP hS hl
  exact lv_i2l hx hb d rfl (kk H locs ls hP hS hl)
theorem m_l2i (C : Cx G nL X cc own ret fr) {x : Int64} (d : decode cc pc = .ok (.l2i, 1)) (kk : Mq l G nL X Q (pc + 1) lv (.int x.toInt32 :: st) mu nu) : Mq l G nL X Q pc lv (.long x :: st) mu nu := by
  obtain ⟨p, e, R, s, m, args, below, meth, c, cells, slots⟩ := X
  obtain ⟨hx, hb, hml, ho, hts, hK, hGS, hGN, hd, hr, hlk, hfr, hlo, hce, hsl⟩ := C
  intro H locs ls hP hS hl
  exact lv_l2i hx hb d rfl (kk H locs ls hP hS hl)
theorem m_i2b (C : Cx G nL X cc own ret fr) {x : Int32} (d : decode cc pc = .ok (.i2b, 1)) (kk : Mq l G nL X Q (pc + 1) lv (.int x.toInt8.toInt32 :: st) mu nu) : Mq l G nL X Q pc lv (.int x :: st) mu nu := by
  obtain ⟨p, e, R, s, m, args, below, meth, c, cells, slots⟩ := X
  obtain ⟨hx, hb, hml, ho, hts, hK, hGS, hGN, hd, hr, hlk, hfr, hlo, hce, hsl⟩ := C
  intro H locs ls hP hS hl
  exact lv_i2b hx hb d rfl (kk H locs ls hP hS hl)
theorem m_goto (C : Cx G nL X cc own ret fr) {off : Int} (tgt : Nat) (d : decode cc pc = .ok (.goto off, 3)) (ht : (pc : Int) + off = (tgt : Int)) (kk : Mq l G nL X Q tgt lv st mu nu) : Mq l G nL X Q pc lv st mu nu := by
  obtain ⟨p, e, R, s, m, args, below, meth, c, cells, slots⟩ := X
  obtain ⟨hx, hb, hml, ho, hts, hK, hGS, hGN, hd, hr, hlk, hfr, hlo, hce, hsl⟩ := C
  intro H locs ls hP hS hl
  exact lv_goto hx hb d ht (kk H locs ls hP hS hl)
theorem m_if_eq (C : Cx G nL X cc own ret fr) {x : Int32} {off : Int} (tgt : Nat) (d : decode cc pc = .ok (.ifCond .eq off, 3)) (ht : (pc : Int) + off = (tgt : Int)) (kt : x = 0 → Mq l G nL X Q tgt lv st mu nu) (kf : ¬ x = 0 → Mq l G nL X Q (pc + 3) lv st mu nu) : Mq l G nL X Q pc lv (.int x :: st) mu nu := by
  obtain ⟨p, e, R, s, m, args, below, meth, c, cells, slots⟩ := X
  obtain ⟨hx, hb, hml, ho, hts, hK, hGS, hGN, hd, hr, hlk, hfr, hlo, hce, hsl⟩ := C
  intro H locs ls hP hS hl
  exact lv_if_eq hx hb d ht (fun h => kt h H locs ls hP hS hl) (fun h => kf h H locs ls hP hS hl)
theorem m_icmp_eq (C : Cx G nL X cc own ret fr) {x y : Int32} {off : Int} (tgt : Nat) (d : decode cc pc = .ok (.if_icmp .eq off, 3)) (ht : (pc : Int) + off = (tgt : Int)) (kt : x = y → Mq l G nL X Q tgt lv st mu nu) (kf : ¬ x = y → Mq l G nL X Q (pc + 3) lv st mu nu) : Mq l G nL X Q pc lv (.int y :: .int x :: st) mu nu := by
  obtain ⟨p, e, R, s, m, args, below, meth, c, cells, slots⟩ := X
  obtain ⟨hx, hb, hml, ho, hts, hK, hGS, hGN, hd, hr, hlk, hfr, hlo, hce, hsl⟩ := C
  intro H locs ls hP hS hl
  exact lv_icmp_eq hx hb d ht (fun h => kt h H locs ls hP hS hl) (fun h => kf h H locs ls hP hS hl)
theorem m_if_ne (C : Cx G nL X cc own ret fr) {x : Int32} {off : Int} (tgt : Nat) (d : decode cc pc = .ok (.ifCond .ne off, 3)) (ht : (pc : Int) + off = (tgt : Int)) (kt : ¬ x = 0 → Mq l G nL X Q tgt lv st mu nu) (kf : x = 0 → Mq l G nL X Q (pc + 3) lv st mu nu) : Mq l G nL X Q pc lv (.int x :: st) mu nu := by
  obtain ⟨p, e, R, s, m, args, below, meth, c, cells, slots⟩ := X
  obtain ⟨hx, hb, hml, ho, hts, hK, hGS, hGN, hd, hr, hlk, hfr, hlo, hce, hsl⟩ := C
  intro H locs ls hP hS hl
  exact lv_if_ne hx hb d ht (fun h => kt h H locs ls hP hS hl) (fun h => kf h H locs ls hP hS hl)
theorem m_icmp_ne (C : Cx G nL X cc own ret fr) {x y : Int32} {off : Int} (tgt : Nat) (d : decode cc pc = .ok (.if_icmp .ne off, 3)) (ht : (pc : Int) + off = (tgt : Int)) (kt : ¬ x = y → Mq l G nL X Q tgt lv st mu nu) (kf : x = y → Mq l G nL X Q (pc + 3) lv st mu nu) : Mq l G nL X Q pc lv (.int y :: .int x :: st) mu nu := by
  obtain ⟨p, e, R, s, m, args, below, meth, c, cells, slots⟩ := X
  obtain ⟨hx, hb, hml, ho, hts, hK, hGS, hGN, hd, hr, hlk, hfr, hlo, hce, hsl⟩ := C
  intro H locs ls hP hS hl
  exact lv_icmp_ne hx hb d ht (fun h => kt h H locs ls hP hS hl) (fun h => kf h H locs ls hP hS hl)
theorem m_if_lt (C : Cx G nL X cc own ret fr) {x : Int32} {off : Int} (tgt : Nat) (d : decode cc pc = .ok (.ifCond .lt off, 3)) (ht : (pc : Int) + off = (tgt : Int)) (kt : x < 0 → Mq l G nL X Q tgt lv st mu nu) (kf : ¬ x < 0 → Mq l G nL X Q (pc + 3) lv st mu nu) : Mq l G nL X Q pc lv (.int x :: st) mu nu := by
  obtain ⟨p, e, R, s, m, args, below, meth, c, cells, slots⟩ := X
  obtain ⟨hx, hb, hml, ho, hts, hK, hGS, hGN, hd, hr, hlk, hfr, hlo, hce, hsl⟩ := C
  intro H locs ls hP hS hl
  exact lv_if_lt hx hb d ht (fun h => kt h H locs ls hP hS hl) (fun h => kf h H locs ls hP hS hl)
theorem m_icmp_lt (C : Cx G nL X cc own ret fr) {x y : Int32} {off : Int} (tgt : Nat) (d : decode cc pc = .ok (.if_icmp .lt off, 3)) (ht : (pc : Int) + off = (tgt : Int)) (kt : x < y → Mq l G nL X Q tgt lv st mu nu) (kf : ¬ x < y → Mq l G nL X Q (pc + 3) lv st mu nu) : Mq l G nL X Q pc lv (.int y :: .int x :: st) mu nu := by
  obtain ⟨p, e, R, s, m, args, below, meth, c, cells, slots⟩ := X
  obtain ⟨hx, hb, hml, ho, hts, hK, hGS, hGN, hd, hr, hlk, hfr, hlo, hce, hsl⟩ := C
  intro H locs ls hP hS hl
  exact lv_icmp_lt hx hb d ht (fun h => kt h H locs ls hP hS hl) (fun h => kf h H locs ls hP hS hl)
theorem m_if_ge (C : Cx G nL X cc own ret fr) {x : Int32} {off : Int} (tgt : Nat) (d : decode cc pc = .ok (.ifCond .ge off, 3)) (ht : (pc : Int) + off = (tgt : Int)) (kt : 0 ≤ x → Mq l G nL X Q tgt lv st mu nu) (kf : ¬ 0 ≤ x → Mq l G nL X Q (pc + 3) lv st mu nu) : Mq l G nL X Q pc lv (.int x :: st) mu nu := by
  obtain ⟨p, e, R, s, m, args, below, meth, c, cells, slots⟩ := X
  obtain ⟨hx, hb, hml, ho, hts, hK, hGS, hGN, hd, hr, hlk, hfr, hlo, hce, hsl⟩ := C
  intro H locs ls hP hS hl
  exact lv_if_ge hx hb d ht (fun h => kt h H locs ls hP hS hl) (fun h => kf h H locs ls hP hS hl)
theorem m_icmp_ge (C : Cx G nL X cc own ret fr) {x y : Int32} {off : Int} (tgt : Nat) (d : decode cc pc = .ok (.if_icmp .ge off, 3)) (ht : (pc : Int) + off = (tgt : Int)) (kt : y ≤ x → Mq l G nL X Q tgt lv st mu nu) (kf : ¬ y ≤ x → Mq l G nL X Q (pc + 3) lv st mu nu) : Mq l G nL X Q pc lv (.int y :: .int x :: st) mu nu := by
  obtain ⟨p, e, R, s, m, args, below, meth, c, cells, slots⟩ := X
  obtain ⟨hx, hb, hml, ho, hts, hK, hGS, hGN, hd, hr, hlk, hfr, hlo, hce, hsl⟩ := C
  intro H locs ls hP hS hl
  exact lv_icmp_ge hx hb d ht (fun h => kt h H locs ls hP hS hl) (fun h => kf h H locs ls hP hS hl)
theorem m_if_gt (C : Cx G nL X cc own ret fr) {x : Int32} {off : Int} (tgt : Nat) (d : decode cc pc = .ok (.ifCond .gt off, 3)) (ht : (pc : Int) + off = (tgt : Int)) (kt : 0 < x → Mq l G nL X Q tgt lv st mu nu) (kf : ¬ 0 < x → Mq l G nL X Q (pc + 3) lv st mu nu) : Mq l G nL X Q pc lv (.int x :: st) mu nu := by
  obtain ⟨p, e, R, s, m, args, below, meth, c, cells, slots⟩ := X
  obtain ⟨hx, hb, hml, ho, hts, hK, hGS, hGN, hd, hr, hlk, hfr, hlo, hce, hsl⟩ := C
  intro H locs ls hP hS hl
  exact lv_if_gt hx hb d ht (fun h => kt h H locs ls hP hS hl) (fun h => kf h H locs ls hP hS hl)
theorem m_icmp_gt (C : Cx G nL X cc own ret fr) {x y : Int32} {off : Int} (tgt : Nat) (d : decode cc pc = .ok (.if_icmp .gt off, 3)) (ht : (pc : Int) + off = (tgt : Int)) (kt : y < x → Mq l G nL X Q tgt lv st mu nu) (kf : ¬ y < x → Mq l G nL X Q (pc + 3) lv st mu nu) : Mq l G nL X Q pc lv (.int y :: .int x :: st) mu nu := by
  obtain ⟨p, e, R, s, m, args, below, meth, c, cells, slots⟩ := X
  obtain ⟨hx, hb, hml, ho, hts, hK, hGS, hGN, hd, hr, hlk, hfr, hlo, hce, hsl⟩ := C
  intro H locs ls hP hS hl
  exact lv_icmp_gt hx hb d ht (fun h => kt h H locs ls hP hS hl) (fun h => kf h H locs ls hP hS hl)
theorem m_if_le (C : Cx G nL X cc own ret fr) {x : Int32} {off : Int} (tgt : Nat) (d : decode cc pc = .ok (.ifCond .le off, 3)) (ht : (pc : Int) + off = (tgt : Int)) (kt : x ≤ 0 → Mq l G nL X Q tgt lv st mu nu) (kf : ¬ x ≤ 0 → Mq l G nL X Q (pc + 3) lv st mu nu) : Mq l G nL X Q pc lv (.int x :: st) mu nu := by
  obtain ⟨p, e, R, s, m, args, below, meth, c, cells, slots⟩ := X
  obtain ⟨hx, hb, hml, ho, hts, hK, hGS, hGN, hd, hr, hlk, hfr, hlo, hce, hsl⟩ := C
  intro H locs ls hP hS hl
  exact lv_if_le hx hb d ht (fun h => kt h H locs ls hP hS hl) (fun h => kf h H locs ls hP hS hl)
theorem m_icmp_le (C : Cx G nL X cc own ret fr) {x y : Int32} {off : Int} (tgt : Nat) (d : decode cc pc = .ok (.if_icmp .le off, 3)) (ht : (pc : Int) + off = (tgt : Int)) (kt : x ≤ y → Mq l G nL X Q tgt lv st mu nu) (kf : ¬ x ≤ y → Mq l G nL X Q (pc + 3) lv st mu nu) : Mq l G nL X Q pc lv (.int y :: .int x :: st) mu nu := by
  obtain ⟨p, e, R, s, m, args, below, meth, c, cells, slots⟩ := X
  obtain ⟨hx, hb, hml, ho, hts, hK, hGS, hGN, hd, hr, hlk, hfr, hlo, hce, hsl⟩ := C
  intro H locs ls hP hS hl
  exact lv_icmp_le hx hb d ht (fun h => kt h H locs ls hP hS hl) (fun h => kf h H locs ls hP hS hl)
theorem m_tblIn (C : Cx G nL X cc own ret fr) {dflt lo hi : Int} {offs : Array Int} {len : Nat} {x : Int32} {off : Int} (tgt : Nat) (d : decode cc pc = .ok (.tableswitch dflt lo hi offs, len)) (h1 : ¬ x.toInt < lo) (h2 : ¬ hi < x.toInt) (hoff : offs[(x.toInt - lo).toNat]? = some off) (ht : (pc : Int) + off = (tgt : Int)) (kk : Mq l G nL X Q tgt lv st mu nu) : Mq l G nL X Q pc lv (.int x :: st) mu nu := by
  obtain ⟨p, e, R, s, m, args, below, meth, c, cells, slots⟩ := X
  obtain ⟨hx, hb, hml, ho, hts, hK, hGS, hGN, hd, hr, hlk, hfr, hlo, hce, hsl⟩ := C
  intro H locs ls hP hS hl
  exact lv_tableIn hx hb d h1 h2 hoff ht (kk H locs ls hP hS hl)
theorem m_tblOut (C : Cx G nL X cc own ret fr) {dflt lo hi : Int} {offs : Array Int} {len : Nat} {x : Int32} (tgt : Nat) (d : decode cc pc = .ok (.tableswitch dflt lo hi offs, len)) (h : x.toInt < lo ∨ hi < x.toInt) (ht : (pc : Int) + dflt = (tgt : Int)) (kk : Mq l G nL X Q tgt lv st mu nu) : Mq l G nL X Q pc lv (.int x :: st) mu nu := by
  obtain ⟨p, e, R, s, m, args, below, meth, c, cells, slots⟩ := X
  obtain ⟨hx, hb, hml, ho, hts, hK, hGS, hGN, hd, hr, hlk, hfr, hlo, hce, hsl⟩ := C
  intro H locs ls hP hS hl
  exact lv_tableOut hx hb d h ht (kk H locs ls hP hS hl)
theorem m_sub (ks : List Nat) {lw : List (Nat × Value)} (h : lv_pick lv ks = lw) (kk : Mq l G nL X Q pc lw st mu nu) : Mq l G nL X Q pc lv st mu nu := by
  obtain ⟨p, e, R, s, m, args, below, meth, c, cells, slots⟩ := X
  intro H locs ls hP hS hl
  exact kk H locs ls hP hS (lv_sub hl ks h)
theorem m_topi {x : Int32} (y : Int32) (h : x = y) (kk : Mq l G nL X Q pc lv (.int y :: st) mu nu) : Mq l G nL X Q pc lv (.int x :: st) mu nu := by rw [h]; exact kk
theorem m_topl {x : Int64} (y : Int64) (h : x = y) (kk : Mq l G nL X Q pc lv (.long y :: st) mu nu) : Mq l G nL X Q pc lv (.long x :: st) mu nu := by rw [h]; exact kk
theorem m_mem {mu2 : Mu} {nu2 : Nu} (hm : mu = mu2) (hn : nu = nu2) (kk : Mq l G nL X Q pc lv st mu2 nu2) : Mq l G nL X Q pc lv st mu nu := by rw [hm, hn]; exact kk
theorem m_nameM (kk : ∀ mu2 : Mu, mu2 = mu → Mq l G nL X Q pc lv st mu2 nu) : Mq l G nL X Q pc lv st mu nu := kk mu rfl
theorem m_iret {post : Option Value → Mu → Nu → Prop} (C : Cx G nL X cc own (some .int) fr) {v : Int32} (d : decode cc pc = .ok (.ireturn, 1)) (hp : post (some (.int v)) mu nu) : Mq l G nL X (g_E G X post) pc lv [.int v] mu nu := by
  obtain ⟨p, e, R, s, m, args, below, meth, c, cells, slots⟩ := X
  obtain ⟨hx, hb, hml, ho, hts, hK, hGS, hGN, hd, hr, hlk, hfr, hlo, hce, hsl⟩ := C
  intro H locs ls hP hS hl
  exact W.iret hx hb hr (fun t ht hW => ⟨⟨_, mu, nu, rfl, hp, by rw [ht]; exact hP⟩, hS.F ht⟩) hS.2.2 d hlk
theorem m_lret {post : Option Value → Mu → Nu → Prop} (C : Cx G nL X cc own (some .long) fr) {v : Int64} (d : decode cc pc = .ok (.lreturn, 1)) (hp : post (some (.long v)) mu nu) : Mq l G nL X (g_E G X post) pc lv [.long v] mu nu := by
  obtain ⟨p, e, R, s, m, args, below, meth, c, cells, slots⟩ := X
  obtain ⟨hx, hb, hml, ho, hts, hK, hGS, hGN, hd, hr, hlk, hfr, hlo, hce, hsl⟩ := C
  intro H locs ls hP hS hl
  exact W.lret hx hb hr (fun t ht hW => ⟨⟨_, mu, nu, rfl, hp, by rw [ht]; exact hP⟩, hS.F ht⟩) hS.2.2 d hlk
theorem m_zret {post : Option Value → Mu → Nu → Prop} (C : Cx G nL X cc own (some .boolean) fr) {v : Int32} (hn : narrow .boolean (.int v) = .int v) (d : decode cc pc = .ok (.ireturn, 1)) (hp : post (some (.int v)) mu nu) : Mq l G nL X (g_E G X post) pc lv [.int v] mu nu := by
  obtain ⟨p, e, R, s, m, args, below, meth, c, cells, slots⟩ := X
  obtain ⟨hx, hb, hml, ho, hts, hK, hGS, hGN, hd, hr, hlk, hfr, hlo, hce, hsl⟩ := C
  intro H locs ls hP hS hl
  exact W.zret hx hb hr hn (fun t ht hW => ⟨⟨_, mu, nu, rfl, hp, by rw [ht]; exact hP⟩, hS.F ht⟩) hS.2.2 d hlk
theorem m_vret {post : Option Value → Mu → Nu → Prop} (C : Cx G nL X cc own none fr) (d : decode cc pc = .ok (.return_, 1)) (hp : post none mu nu) : Mq l G nL X (g_E G X post) pc lv [] mu nu := by
  obtain ⟨p, e, R, s, m, args, below, meth, c, cells, slots⟩ := X
  obtain ⟨hx, hb, hml, ho, hts, hK, hGS, hGN, hd, hr, hlk, hfr, hlo, hce, hsl⟩ := C
  intro H locs ls hP hS hl
  exact W.vret hx hb hr (fun t ht hW => ⟨⟨_, mu, nu, rfl, hp, by rw [ht]; exact hP⟩, hS.F ht⟩) hS.2.2 d hlk
theorem m_get (C : Cx G nL X cc own ret fr) {cls : String} {T : u_T} {N ci index : Nat} {fs : List Value} (q0 : Nat) (hq : q0 < 79) (he : g_sh G q0 (mu q0) (nu q0) = .inr (ci, fs)) (hc : vwCl[ci]? = some (cls, T, N)) (hin : ∀ w ∈ u_ws cls T N, w ∈ twl) (k : Nat) (hk : k < N) (hcl : (T k).1 = cls) (hlink : Cond.fieldLink own index cls (T k).2.1 (T k).2.2.1 ∈ twl) {v : Value} (hv : fs[k]? = some v) (d : decode cc pc = .ok (.getfield index, 3)) (kk : Mq l G nL X Q (pc + 3) lv (v :: st) mu nu) : Mq l G nL X Q pc lv (.ref (G.1 q0) :: st) mu nu := by
  obtain ⟨p, e, R, s, m, args, below, meth, c, cells, slots⟩ := X
  obtain ⟨hx, hb, hml, ho, hts, hK, hGS, hGN, hd, hr, hlk, hfr, hlo, hce, hsl⟩ := C
  intro H locs ls hP hS hl
  exact va_get hx hb hts hin ho hK hP q0 (g_atE hq he) hc k hk (hts _ hlink) (fun x h => by rw [← hcl]; exact h) hv d (kk H locs ls hP hS hl)
theorem m_putI (C : Cx G nL X cc own ret fr) {cls : String} {T : u_T} {N ci index : Nat} {fs : List Value} (q0 : Nat) (hq : q0 < 79) (he : g_sh G q0 (mu q0) (nu q0) = .inr (ci, fs)) (hc : vwCl[ci]? = some (cls, T, N)) (hin : ∀ w ∈ u_ws cls T N, w ∈ twl) (k : Nat) (hk : k < N) (hcl : (T k).1 = cls) (hlink : Cond.fieldLink own index cls (T k).2.1 (T k).2.2.1 ∈ twl)  (x : Int32) (ty0 : Nat → FieldType) (hty : ∀ k, k < N → parseFieldDescriptor (T k).2.2.1 = some (ty0 k)) (hnm : ∀ a, a < N → ∀ b, b < N → a ≠ b → (T a).2.1 ≠ (T b).2.1) (hfin : (T k).2.2.2 = false) {ty : FieldType} {v : Value} (hd2 : parseFieldDescriptor (T k).2.2.1 = some ty) (hn : narrow ty v = v) (hfit : fits ty v = true) (hlen : k < fs.length) (he2 : g_sh G q0 (upd (mu q0) k x) (nu q0) = .inr (ci, fs.set k v)) (d : decode cc pc = .ok (.putfield index, 3)) (kk : Mq l G nL X Q (pc + 3) lv st (mu_up mu q0 k x) nu) : Mq l G nL X Q pc lv (v :: .ref (G.1 q0) :: st) mu nu := by
  obtain ⟨p, e, R, s, m, args, below, meth, c, cells, slots⟩ := X
  obtain ⟨hx, hb, hml, ho, hts, hK, hGS, hGN, hd, hr, hlk, hfr, hlo, hce, hsl⟩ := C
  intro H locs ls hP hS hl
  exact va_put hx hb hts hin ty0 hty hnm ho hK hP (g_D hd mu nu) hS q0 (g_atE hq he) hc k hk (hts _ hlink) (fun x h => by rw [← hcl]; exact h) hfin hd2 hn hfit hlen d (fun H1 locs1 hP1 _ hS1 => kk H1 locs1 ls (by rw [g_setM hq he2] at hP1; exact hP1) hS1 hl)
theorem m_putL (C : Cx G nL X cc own ret fr) {cls : String} {T : u_T} {N ci index : Nat} {fs : List Value} (q0 : Nat) (hq : q0 < 79) (he : g_sh G q0 (mu q0) (nu q0) = .inr (ci, fs)) (hc : vwCl[ci]? = some (cls, T, N)) (hin : ∀ w ∈ u_ws cls T N, w ∈ twl) (k : Nat) (hk : k < N) (hcl : (T k).1 = cls) (hlink : Cond.fieldLink own index cls (T k).2.1 (T k).2.2.1 ∈ twl)  (x : Int64) (ty0 : Nat → FieldType) (hty : ∀ k, k < N → parseFieldDescriptor (T k).2.2.1 = some (ty0 k)) (hnm : ∀ a, a < N → ∀ b, b < N → a ≠ b → (T a).2.1 ≠ (T b).2.1) (hfin : (T k).2.2.2 = false) {ty : FieldType} {v : Value} (hd2 : parseFieldDescriptor (T k).2.2.1 = some ty) (hn : narrow ty v = v) (hfit : fits ty v = true) (hlen : k < fs.length) (he2 : g_sh G q0 (mu q0) (vp_updL (nu q0) k x) = .inr (ci, fs.set k v)) (d : decode cc pc = .ok (.putfield index, 3)) (kk : Mq l G nL X Q (pc + 3) lv st mu (nu_up nu q0 k x)) : Mq l G nL X Q pc lv (v :: .ref (G.1 q0) :: st) mu nu := by
  obtain ⟨p, e, R, s, m, args, below, meth, c, cells, slots⟩ := X
  obtain ⟨hx, hb, hml, ho, hts, hK, hGS, hGN, hd, hr, hlk, hfr, hlo, hce, hsl⟩ := C
  intro H locs ls hP hS hl
  exact va_put hx hb hts hin ty0 hty hnm ho hK hP (g_D hd mu nu) hS q0 (g_atE hq he) hc k hk (hts _ hlink) (fun x h => by rw [← hcl]; exact h) hfin hd2 hn hfit hlen d (fun H1 locs1 hP1 _ hS1 => kk H1 locs1 ls (by rw [g_setN hq he2] at hP1; exact hP1) hS1 hl)
theorem m_getN (C : Cx G nL X cc own ret fr) {cls : String} {T : u_T} {N ci index : Nat} {fs : List Value} (q0 : Nat) (hq : q0 < 79) (he : g_sh G q0 (mu q0) (nu q0) = .inr (ci, fs)) (hc : vwCl[ci]? = some (cls, T, N)) (hin : ∀ w ∈ u_ws cls T N, w ∈ twl) (k : Nat) (hk : k < N) (hcl : (T k).1 = cls) {host : String} (hlink : Cond.fieldLinkNest own index cls (T k).2.1 (T k).2.2.1 host ∈ nwl) {v : Value} (hv : fs[k]? = some v) (d : decode cc pc = .ok (.getfield index, 3)) (kk : Mq l G nL X Q (pc + 3) lv (v :: st) mu nu) : Mq l G nL X Q pc lv (.ref (G.1 q0) :: st) mu nu := by
  obtain ⟨p, e, R, s, m, args, below, meth, c, cells, slots⟩ := X
  obtain ⟨hx, hb, hml, ho, hts, hK, hGS, hGN, hd, hr, hlk, hfr, hlo, hce, hsl⟩ := C
  intro H locs ls hP hS hl
  exact va_getN hx hb hts hin ho hK hP q0 (g_atE hq he) hc k hk (va_Nw.use rfl (hGN.1 _ hlink)) (fun x h => by rw [← hcl]; exact h) hv d (kk H locs ls hP hS hl)
theorem m_putIN (C : Cx G nL X cc own ret fr) {cls : String} {T : u_T} {N ci index : Nat} {fs : List Value} (q0 : Nat) (hq : q0 < 79) (he : g_sh G q0 (mu q0) (nu q0) = .inr (ci, fs)) (hc : vwCl[ci]? = some (cls, T, N)) (hin : ∀ w ∈ u_ws cls T N, w ∈ twl) (k : Nat) (hk : k < N) (hcl : (T k).1 = cls) {host : String} (hlink : Cond.fieldLinkNest own index cls (T k).2.1 (T k).2.2.1 host ∈ nwl)  (x : Int32) (ty0 : Nat → FieldType) (hty : ∀ k, k < N → parseFieldDescriptor (T k).2.2.1 = some (ty0 k)) (hnm : ∀ a, a < N → ∀ b, b < N → a ≠ b → (T a).2.1 ≠ (T b).2.1) (hfin : (T k).2.2.2 = false) {ty : FieldType} {v : Value} (hd2 : parseFieldDescriptor (T k).2.2.1 = some ty) (hn : narrow ty v = v) (hfit : fits ty v = true) (hlen : k < fs.length) (he2 : g_sh G q0 (upd (mu q0) k x) (nu q0) = .inr (ci, fs.set k v)) (d : decode cc pc = .ok (.putfield index, 3)) (kk : Mq l G nL X Q (pc + 3) lv st (mu_up mu q0 k x) nu) : Mq l G nL X Q pc lv (v :: .ref (G.1 q0) :: st) mu nu := by
  obtain ⟨p, e, R, s, m, args, below, meth, c, cells, slots⟩ := X
  obtain ⟨hx, hb, hml, ho, hts, hK, hGS, hGN, hd, hr, hlk, hfr, hlo, hce, hsl⟩ := C
  intro H locs ls hP hS hl
  exact va_putN hx hb hts hin ty0 hty hnm ho hK hP (g_D hd mu nu) hS q0 (g_atE hq he) hc k hk (va_Nw.use rfl (hGN.1 _ hlink)) (fun x h => by rw [← hcl]; exact h) hfin hd2 hn hfit hlen d (fun H1 locs1 hP1 _ hS1 => kk H1 locs1 ls (by rw [g_setM hq he2] at hP1; exact hP1) hS1 hl)
theorem m_putLN (C : Cx G nL X cc own ret fr) {cls : String} {T : u_T} {N ci index : Nat} {fs : List Value} (q0 : Nat) (hq : q0 < 79) (he : g_sh G q0 (mu q0) (nu q0) = .inr (ci, fs)) (hc : vwCl[ci]? = some (cls, T, N)) (hin : ∀ w ∈ u_ws cls T N, w ∈ twl) (k : Nat) (hk : k < N) (hcl : (T k).1 = cls) {host : String} (hlink : Cond.fieldLinkNest own index cls (T k).2.1 (T k).2.2.1 host ∈ nwl)  (x : Int64) (ty0 : Nat → FieldType) (hty : ∀ k, k < N → parseFieldDescriptor (T k).2.2.1 = some (ty0 k)) (hnm : ∀ a, a < N → ∀ b, b < N → a ≠ b → (T a).2.1 ≠ (T b).2.1) (hfin : (T k).2.2.2 = false) {ty : FieldType} {v : Value} (hd2 : parseFieldDescriptor (T k).2.2.1 = some ty) (hn : narrow ty v = v) (hfit : fits ty v = true) (hlen : k < fs.length) (he2 : g_sh G q0 (mu q0) (vp_updL (nu q0) k x) = .inr (ci, fs.set k v)) (d : decode cc pc = .ok (.putfield index, 3)) (kk : Mq l G nL X Q (pc + 3) lv st mu (nu_up nu q0 k x)) : Mq l G nL X Q pc lv (v :: .ref (G.1 q0) :: st) mu nu := by
  obtain ⟨p, e, R, s, m, args, below, meth, c, cells, slots⟩ := X
  obtain ⟨hx, hb, hml, ho, hts, hK, hGS, hGN, hd, hr, hlk, hfr, hlo, hce, hsl⟩ := C
  intro H locs ls hP hS hl
  exact va_putN hx hb hts hin ty0 hty hnm ho hK hP (g_D hd mu nu) hS q0 (g_atE hq he) hc k hk (va_Nw.use rfl (hGN.1 _ hlink)) (fun x h => by rw [← hcl]; exact h) hfin hd2 hn hfit hlen d (fun H1 locs1 hP1 _ hS1 => kk H1 locs1 ls (by rw [g_setN hq he2] at hP1; exact hP1) hS1 hl)
theorem m_iald (C : Cx G nL X cc own ret fr) {n : Nat} (q0 : Nat) (hq : q0 < 79) (he : ∀ f g, g_sh G q0 f g = g_ia G n f) {i : Int32} (p0 : Nat) (hi : i = nI p0) (hp : p0 < n) (hn : n < 2 ^ 31) (d : decode cc pc = .ok (.iaload, 1)) (kk : Mq l G nL X Q (pc + 1) lv (.int (mu q0 p0) :: st) mu nu) : Mq l G nL X Q pc lv (.int i :: .ref (G.1 q0) :: st) mu nu := by
  obtain ⟨p, e, R, s, m, args, below, meth, c, cells, slots⟩ := X
  obtain ⟨hx, hb, hml, ho, hts, hK, hGS, hGN, hd, hr, hlk, hfr, hlo, hce, hsl⟩ := C
  intro H locs ls hP hS hl
  exact by
    subst hi
    refine va_iald hx hb hK hP q0 0 (g_atE hq (he _ _)) rfl (vp_in_nI hp hn) d ?_
    rw [nI_clamp (by omega)]
    exact (kk H locs ls hP hS hl)
theorem m_iast (C : Cx G nL X cc own ret fr) {n : Nat} (q0 : Nat) (hq : q0 < 79) (he : ∀ f g, g_sh G q0 f g = g_ia G n f) {i x : Int32} (p0 : Nat) (hi : i = nI p0) (hp : p0 < n) (hn : n < 2 ^ 31) (d : decode cc pc = .ok (.iastore, 1)) (kk : Mq l G nL X Q (pc + 1) lv st (mu_up mu q0 p0 x) nu) : Mq l G nL X Q pc lv (.int x :: .int i :: .ref (G.1 q0) :: st) mu nu := by
  obtain ⟨p, e, R, s, m, args, below, meth, c, cells, slots⟩ := X
  obtain ⟨hx, hb, hml, ho, hts, hK, hGS, hGN, hd, hr, hlk, hfr, hlo, hce, hsl⟩ := C
  intro H locs ls hP hS hl
  subst hi
  refine va_iast hx hb hK hP (g_D hd mu nu) hS q0 0 (g_atE hq (he _ _)) rfl (vp_in_nI hp hn) d (fun H1 locs1 hP1 _ hS1 => kk H1 locs1 ls ?_ hS1 hl)
  rw [nI_clamp (by omega), g_setM hq (he _ _)] at hP1
  exact hP1
theorem m_aald (C : Cx G nL X cc own ret fr) {n : Nat} (q0 : Nat) (hq : q0 < 79) (t0 : Nat) {rf : Nat → Option Nat} {cn : String} (ht : (g_tys G)[t0]? = some (G.2.2.1 t0, .object cn)) (he : ∀ f g, g_sh G q0 f g = g_ra G t0 n rf) {i : Int32} (p0 a : Nat) (hi : i = nI p0) (hp : p0 < n) (hn : n < 2 ^ 31) (ha : rf p0 = some a) (d : decode cc pc = .ok (.aaload, 1)) (kk : Mq l G nL X Q (pc + 1) lv (.ref a :: st) mu nu) : Mq l G nL X Q pc lv (.int i :: .ref (G.1 q0) :: st) mu nu := by
  obtain ⟨p, e, R, s, m, args, below, meth, c, cells, slots⟩ := X
  obtain ⟨hx, hb, hml, ho, hts, hK, hGS, hGN, hd, hr, hlk, hfr, hlo, hce, hsl⟩ := C
  intro H locs ls hP hS hl
  exact by
    subst hi
    refine va_aldq hx hb hK hP q0 t0 (g_atE hq (he _ _)) ht (vp_in_nI hp hn) d ?_
    rw [nI_clamp (by omega), ha]
    exact (kk H locs ls hP hS hl)
theorem m_alenI (C : Cx G nL X cc own ret fr) {n : Nat} (q0 : Nat) (hq : q0 < 79) (he : ∀ f g, g_sh G q0 f g = g_ia G n f) (d : decode cc pc = .ok (.arraylength, 1)) (kk : Mq l G nL X Q (pc + 1) lv (.int (nI n) :: st) mu nu) : Mq l G nL X Q pc lv (.ref (G.1 q0) :: st) mu nu := by
  obtain ⟨p, e, R, s, m, args, below, meth, c, cells, slots⟩ := X
  obtain ⟨hx, hb, hml, ho, hts, hK, hGS, hGN, hd, hr, hlk, hfr, hlo, hce, hsl⟩ := C
  intro H locs ls hP hS hl
  exact va_alen hx hb hK hP q0 0 (g_atE hq (he _ _)) rfl rfl d (kk H locs ls hP hS hl)
theorem m_alenR (C : Cx G nL X cc own ret fr) {n : Nat} (q0 : Nat) (hq : q0 < 79) (t0 : Nat) {rf : Nat → Option Nat} {cn : String} (ht : (g_tys G)[t0]? = some (G.2.2.1 t0, .object cn)) (he : ∀ f g, g_sh G q0 f g = g_ra G t0 n rf) (d : decode cc pc = .ok (.arraylength, 1)) (kk : Mq l G nL X Q (pc + 1) lv (.int (nI n) :: st) mu nu) : Mq l G nL X Q pc lv (.ref (G.1 q0) :: st) mu nu := by
  obtain ⟨p, e, R, s, m, args, below, meth, c, cells, slots⟩ := X
  obtain ⟨hx, hb, hml, ho, hts, hK, hGS, hGN, hd, hr, hlk, hfr, hlo, hce, hsl⟩ := C
  intro H locs ls hP hS hl
  exact va_alen hx hb hK hP q0 t0 (g_atE hq (he _ _)) ht rfl d (kk H locs ls hP hS hl)
theorem m_letters (C : Cx G nL X cc own ret fr) {index : Nat} (hlink : Cond.fieldLink own index RX10 "LETTERS" "[I" ∈ twl) (d : decode cc pc = .ok (.getstatic index, 3)) (kk : Mq l G nL X Q (pc + 3) lv (.ref G.2.2.2.1 :: st) mu nu) : Mq l G nL X Q pc lv st mu nu := by
  obtain ⟨p, e, R, s, m, args, below, meth, c, cells, slots⟩ := X
  obtain ⟨hx, hb, hml, ho, hts, hK, hGS, hGN, hd, hr, hlk, hfr, hlo, hce, hsl⟩ := C
  intro H locs ls hP hS hl
  exact va_gets hx hb hGS.1.1 hS ho (hts _ hlink) (fun _ h => h) d (kk H locs ls hP hS hl)
theorem m_tens (C : Cx G nL X cc own ret fr) {index : Nat} {host : String} (hlink : Cond.fieldLinkNest own index RX10 "TENS" "[I" host ∈ nwl) (d : decode cc pc = .ok (.getstatic index, 3)) (kk : Mq l G nL X Q (pc + 3) lv (.ref G.2.2.2.2 :: st) mu nu) : Mq l G nL X Q pc lv st mu nu := by
  obtain ⟨p, e, R, s, m, args, below, meth, c, cells, slots⟩ := X
  obtain ⟨hx, hb, hml, ho, hts, hK, hGS, hGN, hd, hr, hlk, hfr, hlo, hce, hsl⟩ := C
  intro H locs ls hP hS hl
  exact va_getsN hx hb hGS.2.1 hS ho (va_Nw.use rfl (hGN.1 _ hlink)) (fun _ h => h) d (kk H locs ls hP hS hl)
theorem m_letAt (C : Cx G nL X cc own ret fr) {i : Int32} (p0 : Nat) (hi : i = nI p0) (hp : p0 < 6) (d : decode cc pc = .ok (.iaload, 1)) (kk : Mq l G nL X Q (pc + 1) lv (.int (t_let p0) :: st) mu nu) : Mq l G nL X Q pc lv (.int i :: .ref G.2.2.2.1 :: st) mu nu := by
  obtain ⟨p, e, R, s, m, args, below, meth, c, cells, slots⟩ := X
  obtain ⟨hx, hb, hml, ho, hts, hK, hGS, hGN, hd, hr, hlk, hfr, hlo, hce, hsl⟩ := C
  intro H locs ls hP hS hl
  exact by
    subst hi
    exact va_ti hx hb hGS.1.2 hS (vp_in_nI hp (by decide)) (by rw [nI_clamp (by omega)]) d (kk H locs ls hP hS hl)
theorem m_tenAt (C : Cx G nL X cc own ret fr) {i : Int32} (p0 : Nat) (hi : i = nI p0) (hp : p0 < 8) (d : decode cc pc = .ok (.iaload, 1)) (kk : Mq l G nL X Q (pc + 1) lv (.int (nI (t_ten p0)) :: st) mu nu) : Mq l G nL X Q pc lv (.int i :: .ref G.2.2.2.2 :: st) mu nu := by
  obtain ⟨p, e, R, s, m, args, below, meth, c, cells, slots⟩ := X
  obtain ⟨hx, hb, hml, ho, hts, hK, hGS, hGN, hd, hr, hlk, hfr, hlo, hce, hsl⟩ := C
  intro H locs ls hP hS hl
  exact by
    subst hi
    exact va_ti hx hb hGS.2.2 hS (vp_in_nI hp (by decide)) (by rw [nI_clamp (by omega)]) d (kk H locs ls hP hS hl)
end
end
section
section
variable {p : Program} {l : Launch} {e : Env} {R : Room} {s : State} {m : MethodId} {args : Array Value} {below : List Frame} {meth : Method} {c : Code} {H : Heap} {locs : List Loc} {cells slots : Nat} {Q : State → Prop} {G : Gl} {post : Option Value → Mu → Nu → Prop} {pc : Nat} {ls : Array Slot} {rest st0 : List Value} {a : Array Value}
theorem g_call (hr : va_Run p l e R s m args below meth c H locs cells slots 0 0 (F0 m pc ls st0) rest (g_Q G post a) (GA G)) (hS : va_S (GA G) s.heap H locs)
    (kk : ∀ (v : Option Value) (mu : Mu) (nu : Nu) (H1 : Heap) (locs1 : List Loc), post v mu nu → va_P G.2.1 vwCl (g_wl G mu nu) H1 → va_S (GA G) s.heap H1 locs1 → W p l e R s m args below meth c H1 locs1 cells slots Q (F0 m (pc + 3) ls (v.toList ++ rest))) : W p l e R s m args below meth c H locs cells slots Q (F0 m pc ls st0) := by
  intro T hT X
  obtain ⟨v, st₀, t, T', L, h0, X', hL, e1, e2, ⟨⟨v', mu, nu, hv, hp, hb⟩, hz, hk⟩, st⟩ := hr T hT X
  cases hv
  rw [h0] at hz hk
  obtain ⟨t2, a1, b1⟩ := kk v mu nu T'.heap (locs ++ L) hp (by rw [e1]; exact hb)
    ⟨Nat.le_trans hS.1 (by rw [e1]; exact hz), fun q h1 h2 => by rw [e1, hk q (Nat.lt_of_lt_of_le h1 hS.1) h2]; exact hS.2.1 q h1 h2, fun q hq => by
      rcases List.mem_append.mp hq with h | h
      · exact hS.2.2 q h
      · exact hL q h⟩ T' rfl X'
  exact ⟨t2, st t2 a1, b1⟩
end
/-- what a call of a static method asks of the tables -/
def WS (own : String) (index : Nat) (mm : Mr) (n : Nat) : Prop := Cond.methodLink own index mm.1 ∈ twl ∧ Cond.static mm.1 ∈ twl ∧ Cond.initialized mm.1.cls ∈ twl ∧ Cond.code mm.1 mm.2.1 mm.2.2.1 mm.2.2.2 ∈ twl ∧ (mm.1.cls ≠ "java/lang/invoke/MethodHandle" ∧ mm.1.cls ≠ "java/lang/invoke/VarHandle" ∧ (parseMethodDescriptor mm.1.desc).map (fun d => d.parameters.length) = some n) ∧ mm.2.2.1 ≤ 45
/-- of a method of an object of its own class -/
def WV (own : String) (index : Nat) (mm : Mr) (n : Nat) : Prop := Cond.methodLink own index mm.1 ∈ twl ∧ Cond.instanceMethod mm.1 ∈ twl ∧ Cond.selects mm.1.cls mm.1 mm.1 ∈ twl ∧ Cond.initialized mm.1.cls ∈ twl ∧ Cond.code mm.1 mm.2.1 mm.2.2.1 mm.2.2.2 ∈ twl ∧ (mm.1.cls ≠ "java/lang/invoke/MethodHandle" ∧ mm.1.cls ≠ "java/lang/invoke/VarHandle" ∧ (parseMethodDescriptor mm.1.desc).map (fun d => d.parameters.length) = some n) ∧ mm.2.2.1 ≤ 45
/-- of a nest mate's private method -/
def WN (own host : String) (index : Nat) (mm : Mr) (n : Nat) : Prop := Cond.methodLinkNest own index mm.1 host ∈ nwl ∧ Cond.instanceMethod mm.1 ∈ twl ∧ Cond.selects mm.1.cls mm.1 mm.1 ∈ twl ∧ Cond.initialized mm.1.cls ∈ twl ∧ Cond.code mm.1 mm.2.1 mm.2.2.1 mm.2.2.2 ∈ twl ∧ (mm.1.cls ≠ "java/lang/invoke/MethodHandle" ∧ mm.1.cls ≠ "java/lang/invoke/VarHandle" ∧ (parseMethodDescriptor mm.1.desc).map (fun d => d.parameters.length) = some n) ∧ mm.2.2.1 ≤ 45
/-- of a method that a class C has of another one, or in its place -/
def WO (own C : String) (index : Nat) (x : MethodName) (mm : Mr) (n : Nat) : Prop := Cond.methodLink own index x ∈ twl ∧ Cond.sameMethod x.cls x.cls x.name x.desc ∈ twl ∧ Cond.instanceMethod x ∈ twl ∧ (∃ b0 m0 r0, Cond.code x b0 m0 r0 ∈ twl) ∧ Cond.selects C x mm.1 ∈ twl ∧ Cond.instanceMethod mm.1 ∈ twl ∧ Cond.initialized mm.1.cls ∈ twl ∧ Cond.code mm.1 mm.2.1 mm.2.2.1 mm.2.2.2 ∈ twl ∧ (x.cls ≠ "java/lang/invoke/MethodHandle" ∧ x.cls ≠ "java/lang/invoke/VarHandle" ∧ (parseMethodDescriptor x.desc).map (fun d => d.parameters.length) = some n) ∧ mm.2.2.1 ≤ 45
/-- of the class's own elder, by super -/
def WU (own : String) (index : Nat) (mm : Mr) (n : Nat) : Prop := Cond.methodLink own index mm.1 ∈ twl ∧ Cond.sameMethod mm.1.cls mm.1.cls mm.1.name mm.1.desc ∈ twl ∧ Cond.superclass own mm.1.cls ∈ twl ∧ Cond.instanceMethod mm.1 ∈ twl ∧ Cond.initialized mm.1.cls ∈ twl ∧ Cond.code mm.1 mm.2.1 mm.2.2.1 mm.2.2.2 ∈ twl ∧ (mm.1.name ≠ "<init>" ∧ (parseMethodDescriptor mm.1.desc).map (fun d => d.parameters.length) = some n) ∧ mm.2.2.1 ≤ 45
section
variable {l : Launch} {G : Gl} {nL : Nat} {X : Bx} {Q : State → Prop} {cc : ByteArray} {own : String} {ret : Option FieldType} {fr pc : Nat} {lv : List (Nat × Value)} {st : List Value} {mu : Mu} {nu : Nu} {mm : Mr} {post : Option Value → Mu → Nu → Prop} {fr' n index : Nat}
theorem g_pre {s U : State} {H : Heap} {locs : List Loc} {as : List Value} (hP : va_P G.2.1 vwCl (g_wl G mu nu) H) (hK : va_K G.2.1 vwCl (g_tys G) s) (hGS : g_S G s s.heap) (hGN : g_N s) (hd : g_dis G) (hS : va_S (GA G) s.heap H locs) (hU : U.heap = H) (hW : s.WarmedH U.vm) : g_Pc G as mu nu as.toArray U :=
  ⟨rfl, by rw [hU]; exact hP, va_K.moved hW.alike hK, by rw [hU]; exact (hGS.kept hS.2.1).moved hW.alike, hGN.warm hW, hd⟩
theorem m_callS (C : Cx G nL X cc own ret fr) {as : List Value} {rest : List Value} (hc : Ct l G mm fr' as mu nu post) (hw : WS own index mm n) (hf : fr' + 1 ≤ fr) (hn : as.length = n) (hst : st = as.reverse ++ rest) (hrm : (rest.map fun v => v.category).sum ≤ 8) (d : decode cc pc = .ok (.invokestatic index, 3))
    (kk : ∀ (v : Option Value) (mu2 : Mu) (nu2 : Nu), post v mu2 nu2 → Mq l G nL X Q (pc + 3) lv (v.toList ++ rest) mu2 nu2) : Mq l G nL X Q pc lv st mu nu := by
  obtain ⟨p, e, R, s, m, args, below, meth, c, cells, slots⟩ := X
  obtain ⟨hx, hb, hml, ho, hts, hK, hGS, hGN, hd, hr, hlk, hfr, hlo, hce, hsl⟩ := C
  intro H locs ls hP hS hl
  obtain ⟨w1, w2, w3, w4, w5, w6⟩ := hw
  subst hst
  refine g_call (va_runS ⟨hx, hb, hml, ho, hts⟩ hc ⟨callB_of (ws' := twl) n hts (twl_good w4) rfl rfl rfl (hts _ w3) (hts _ w1) w5 ⟨Nat.le_trans hf hfr, ?_⟩, hts _ w2⟩ ⟨g_blind, fun U hU hW => g_pre hP hK hGS hGN hd hS hU hW⟩ rfl hn hl.1 rfl (lv_room hrm) d ⟨hce, hsl⟩) hS (fun v mu2 nu2 H1 locs1 hp hP1 hS1 => kk v mu2 nu2 hp H1 locs1 ls hP1 hS1 hl)
  show 8 + (mm.2.2.1 + 11) + 64 * fr' ≤ R.locals
  omega
theorem m_callV (C : Cx G nL X cc own ret fr) {as : List Value} {rest : List Value} (q0 : Nat) (hq : q0 < 79) {ci : Nat} {fs : List Value} {T : u_T} {N : Nat} (he : g_sh G q0 (mu q0) (nu q0) = .inr (ci, fs)) (hcl : vwCl[ci]? = some (mm.1.cls, T, N)) (hc : Ct l G mm fr' (.ref (G.1 q0) :: as) mu nu post) (hw : WV own index mm n) (hf : fr' + 1 ≤ fr) (hn : as.length = n) (hst : st = as.reverse ++ .ref (G.1 q0) :: rest) (hrm : (rest.map fun v => v.category).sum ≤ 8) (d : decode cc pc = .ok (.invokevirtual index, 3))
    (kk : ∀ (v : Option Value) (mu2 : Mu) (nu2 : Nu), post v mu2 nu2 → Mq l G nL X Q (pc + 3) lv (v.toList ++ rest) mu2 nu2) : Mq l G nL X Q pc lv st mu nu := by
  obtain ⟨p, e, R, s, m, args, below, meth, c, cells, slots⟩ := X
  obtain ⟨hx, hb, hml, ho, hts, hK, hGS, hGN, hd, hr, hlk, hfr, hlo, hce, hsl⟩ := C
  intro H locs ls hP hS hl
  obtain ⟨w1, w2, w3, w4, w5, w6, w7⟩ := hw
  subst hst
  refine g_call (va_runV (C := mm.1.cls) ⟨hx, hb, hml, ho, hts⟩ hc ⟨callB_of (ws' := twl) n hts (twl_good w5) rfl rfl rfl (hts _ w4) (hts _ w1) w6 ⟨Nat.le_trans hf hfr, ?_⟩, hts _ w2, hts _ w3⟩ ⟨g_blind, va_recv hK hP hcl (g_atE hq he), fun U hU hW => g_pre hP hK hGS hGN hd hS hU hW⟩ rfl hn hl.1 rfl (lv_room hrm) d ⟨hce, hsl⟩) hS (fun v mu2 nu2 H1 locs1 hp hP1 hS1 => kk v mu2 nu2 hp H1 locs1 ls hP1 hS1 hl)
  show 8 + (mm.2.2.1 + 11) + 64 * fr' ≤ R.locals
  omega
theorem m_callN (C : Cx G nL X cc own ret fr) {as : List Value} {rest : List Value} {host : String} (q0 : Nat) (hq : q0 < 79) {ci : Nat} {fs : List Value} {T : u_T} {N : Nat} (he : g_sh G q0 (mu q0) (nu q0) = .inr (ci, fs)) (hcl : vwCl[ci]? = some (mm.1.cls, T, N)) (hc : Ct l G mm fr' (.ref (G.1 q0) :: as) mu nu post) (hw : WN own host index mm n) (hf : fr' + 1 ≤ fr) (hn : as.length = n) (hst : st = as.reverse ++ .ref (G.1 q0) :: rest) (hrm : (rest.map fun v => v.category).sum ≤ 8) (d : decode cc pc = .ok (.invokevirtual index, 3))
    (kk : ∀ (v : Option Value) (mu2 : Mu) (nu2 : Nu), post v mu2 nu2 → Mq l G nL X Q (pc + 3) lv (v.toList ++ rest) mu2 nu2) : Mq l G nL X Q pc lv st mu nu := by
  obtain ⟨p, e, R, s, m, args, below, meth, c, cells, slots⟩ := X
  obtain ⟨hx, hb, hml, ho, hts, hK, hGS, hGN, hd, hr, hlk, hfr, hlo, hce, hsl⟩ := C
  intro H locs ls hP hS hl
  obtain ⟨w1, w2, w3, w4, w5, w6, w7⟩ := hw
  subst hst
  refine g_call (va_runVN (C := mm.1.cls) (host := host) ⟨hx, hb, hml, ho, hts⟩ hc ⟨va_cnB (ws' := twl) n hts (twl_good w5) rfl rfl rfl (hGN.1 _ w1) (hts _ w4) w6 ⟨Nat.le_trans hf hfr, ?_⟩, hts _ w2, hts _ w3⟩ ⟨g_blind, va_recv hK hP hcl (g_atE hq he), fun U hU hW => g_pre hP hK hGS hGN hd hS hU hW⟩ rfl hn hl.1 rfl (lv_room hrm) d ⟨hce, hsl⟩) hS (fun v mu2 nu2 H1 locs1 hp hP1 hS1 => kk v mu2 nu2 hp H1 locs1 ls hP1 hS1 hl)
  show 8 + (mm.2.2.1 + 11) + 64 * fr' ≤ R.locals
  omega
theorem m_callO (C : Cx G nL X cc own ret fr) {as : List Value} {rest : List Value} {x : MethodName} {cn : String} (q0 : Nat) (hq : q0 < 79) {ci : Nat} {fs : List Value} {T : u_T} {N : Nat} (he : g_sh G q0 (mu q0) (nu q0) = .inr (ci, fs)) (hcl : vwCl[ci]? = some (cn, T, N)) (hc : Ct l G mm fr' (.ref (G.1 q0) :: as) mu nu post) (hw : WO own cn index x mm n) (hf : fr' + 1 ≤ fr) (hn : as.length = n) (hst : st = as.reverse ++ .ref (G.1 q0) :: rest) (hrm : (rest.map fun v => v.category).sum ≤ 8) (d : decode cc pc = .ok (.invokevirtual index, 3))
    (kk : ∀ (v : Option Value) (mu2 : Mu) (nu2 : Nu), post v mu2 nu2 → Mq l G nL X Q (pc + 3) lv (v.toList ++ rest) mu2 nu2) : Mq l G nL X Q pc lv st mu nu := by
  obtain ⟨p, e, R, s, m, args, below, meth, c, cells, slots⟩ := X
  obtain ⟨hx, hb, hml, ho, hts, hK, hGS, hGN, hd, hr, hlk, hfr, hlo, hce, hsl⟩ := C
  intro H locs ls hP hS hl
  obtain ⟨w1, w2, w3, ⟨b0, m0, r0, w4⟩, w5, w6, w7, w8, w9, w10⟩ := hw
  subst hst
  refine g_call (va_runU (C := cn) (owner := x.cls) (x := x) ⟨hx, hb, hml, ho, hts⟩ hc ⟨⟨rfl, rfl, Nat.le_trans hf hfr, ?_, pay_in hts (twl_good w8), List.mem_cons_self⟩, hts _ w8, hts _ w7, ⟨w9.1, w9.2.1⟩, fun sig h => ?_, hts _ w1, hts _ w2, va_Decl.of (hts _ w3) (hts _ w4), hts _ w5, hts _ w6⟩ ⟨g_blind, va_recv hK hP hcl (g_atE hq he), fun U hU hW => g_pre hP hK hGS hGN hd hS hU hW⟩ rfl hn hl.1 rfl (lv_room hrm) d ⟨hce, hsl⟩) hS (fun v mu2 nu2 H1 locs1 hp hP1 hS1 => kk v mu2 nu2 hp H1 locs1 ls hP1 hS1 hl)
  · show 8 + (mm.2.2.1 + 11) + 64 * fr' ≤ R.locals
    omega
  · have h2 := w9.2.2
    rw [h] at h2
    exact (Option.some.inj h2).symm
theorem m_callU (C : Cx G nL X cc own ret fr) {as : List Value} {rest : List Value} {cn : String} (q0 : Nat) (hq : q0 < 79) {ci : Nat} {fs : List Value} {T : u_T} {N : Nat} (he : g_sh G q0 (mu q0) (nu q0) = .inr (ci, fs)) (hcl : vwCl[ci]? = some (cn, T, N)) (hc : Ct l G mm fr' (.ref (G.1 q0) :: as) mu nu post) (hw : WU own index mm n) (hf : fr' + 1 ≤ fr) (hn : as.length = n) (hst : st = as.reverse ++ .ref (G.1 q0) :: rest) (hrm : (rest.map fun v => v.category).sum ≤ 8) (d : decode cc pc = .ok (.invokespecial index, 3))
    (kk : ∀ (v : Option Value) (mu2 : Mu) (nu2 : Nu), post v mu2 nu2 → Mq l G nL X Q (pc + 3) lv (v.toList ++ rest) mu2 nu2) : Mq l G nL X Q pc lv st mu nu := by
  obtain ⟨p, e, R, s, m, args, below, meth, c, cells, slots⟩ := X
  obtain ⟨hx, hb, hml, ho, hts, hK, hGS, hGN, hd, hr, hlk, hfr, hlo, hce, hsl⟩ := C
  intro H locs ls hP hS hl
  obtain ⟨w1, w2, w3, w4, w5, w6, w7, w8⟩ := hw
  subst hst
  refine g_call (va_runSU (C := cn) (hK.1 ci _ hcl).2 ⟨hx, hb, hml, ho, hts⟩ hc ⟨⟨rfl, rfl, Nat.le_trans hf hfr, ?_, pay_in hts (twl_good w6), List.mem_cons_self⟩, hts _ w1, hts _ w2, hts _ w3, hts _ w4, hts _ w5, hts _ w6, w7.1, fun sig h => ?_⟩ ⟨g_blind, va_recv hK hP hcl (g_atE hq he), fun U hU hW => g_pre hP hK hGS hGN hd hS hU hW⟩ rfl hn hl.1 rfl (lv_room hrm) d ⟨hce, hsl⟩) hS (fun v mu2 nu2 H1 locs1 hp hP1 hS1 => kk v mu2 nu2 hp H1 locs1 ls hP1 hS1 hl)
  · show 8 + (mm.2.2.1 + 11) + 64 * fr' ≤ R.locals
    omega
  · have h2 := w7.2
    rw [h] at h2
    exact (Option.some.inj h2).symm
def WMax (own : String) (index : Nat) (nm : MethodName) (cd : ByteArray) : Prop := Cond.methodLink own index nm ∈ twl ∧ Cond.static nm ∈ twl ∧ Cond.initialized "java/lang/Math" ∈ twl ∧ Cond.code nm cd 2 (some .int) ∈ twl
theorem m_max (C : Cx G nL X cc own ret fr) {rest : List Value} {x y : Int32} (hw : WMax own index Lib.Math.max.name Lib.Math.max.code) (hf : 1 ≤ fr) (hrm : (rest.map fun v => v.category).sum ≤ 8) (d : decode cc pc = .ok (.invokestatic index, 3))
    (kk : Mq l G nL X Q (pc + 3) lv (.int (if x < y then y else x) :: rest) mu nu) : Mq l G nL X Q pc lv (.int y :: .int x :: rest) mu nu := by
  obtain ⟨p, e, R, s, m, args, below, meth, c, cells, slots⟩ := X
  obtain ⟨hx, hb, hml, ho, hts, hK, hGS, hGN, hd, hr, hlk, hfr, hlo, hce, hsl⟩ := C
  intro H locs ls hP hS hl
  exact va_mmax hx hb (hml.trans hl.1.symm) ho (hts _ hw.1) (hts _ hw.2.1) (hts _ hw.2.2.1) (hts _ hw.2.2.2) (Nat.le_trans hf hfr) (by omega) hce hsl d (kk H locs ls hP hS hl)
theorem m_min (C : Cx G nL X cc own ret fr) {rest : List Value} {x y : Int32} (hw : WMax own index Lib.Math.min.name Lib.Math.min.code) (hf : 1 ≤ fr) (hrm : (rest.map fun v => v.category).sum ≤ 8) (d : decode cc pc = .ok (.invokestatic index, 3))
    (kk : Mq l G nL X Q (pc + 3) lv (.int (if y < x then y else x) :: rest) mu nu) : Mq l G nL X Q pc lv (.int y :: .int x :: rest) mu nu := by
  obtain ⟨p, e, R, s, m, args, below, meth, c, cells, slots⟩ := X
  obtain ⟨hx, hb, hml, ho, hts, hK, hGS, hGN, hd, hr, hlk, hfr, hlo, hce, hsl⟩ := C
  intro H locs ls hP hS hl
  exact va_mmin hx hb (hml.trans hl.1.symm) ho (hts _ hw.1) (hts _ hw.2.1) (hts _ hw.2.2.1) (hts _ hw.2.2.2) (Nat.le_trans hf hfr) (by omega) hce hsl d (kk H locs ls hP hS hl)
def WCopy (own : String) (index : Nat) : Prop := Cond.methodLink own index arraycopyName ∈ twl ∧ Cond.native arraycopyName ∈ twl ∧ Cond.static arraycopyName ∈ twl ∧ Cond.initialized "java/lang/System" ∈ twl
theorem m_copy (C : Cx G nL X cc own ret fr) {rest : List Value} {n0 n1 : Nat} (q0 q1 : Nat) (hq0 : q0 < 79) (hq1 : q1 < 79) (he0 : ∀ f g, g_sh G q0 f g = g_ia G n0 f) (he1 : ∀ f g, g_sh G q1 f g = g_ia G n1 f) {sp dp k : Int32} (a b z : Nat) (ha : sp = nI a) (hb0 : dp = nI b) (hz : k = nI z) (h4 : a + z ≤ n0) (h5 : b + z ≤ n1) (hn0 : n0 < 2 ^ 31) (hn1 : n1 < 2 ^ 31) (hw : WCopy own index) (hf : 1 ≤ fr) (hrm : (rest.map fun v => v.category).sum ≤ 8) (d : decode cc pc = .ok (.invokestatic index, 3))
    (kk : Mq l G nL X Q (pc + 3) lv rest (mu_row mu q1 (va_cpy (mu q0) (mu q1) a b z)) nu) : Mq l G nL X Q pc lv (.int k :: .int dp :: .ref (G.1 q1) :: .int sp :: .ref (G.1 q0) :: rest) mu nu := by
  obtain ⟨p, e, R, s, m, args, below, meth, c, cells, slots⟩ := X
  obtain ⟨hx, hb, hml, ho, hts, hK, hGS, hGN, hd, hr, hlk, hfr, hlo, hce, hsl⟩ := C
  intro H locs ls hP hS hl
  subst ha; subst hb0; subst hz
  have ca : (nI a).toNatClampNeg = a := nI_clamp (by omega)
  have cb : (nI b).toNatClampNeg = b := nI_clamp (by omega)
  have cz : (nI z).toNatClampNeg = z := nI_clamp (by omega)
  refine va_copyi (ty := .int) hx hb (hml.trans hl.1.symm) ho (hts _ hw.1) (hts _ hw.2.1) (hts _ hw.2.2.1) (hts _ hw.2.2.2) hK hP (g_D hd mu nu) hS q0 q1 0 0 (g_atE hq0 (he0 _ _)) (g_atE hq1 (he1 _ _)) rfl rfl rfl (nI_pos (by omega)) (nI_pos (by omega)) (nI_pos (by omega)) (by rw [ca, cz]; exact h4) (by rw [cb, cz]; exact h5) (fun i _ => rfl) (Nat.le_trans hf hfr) ?_ d (fun H1 locs1 hP1 _ hS1 => kk H1 locs1 ls ?_ hS1 hl)
  · have : nativeFrameWords "java/lang/System" "arraycopy" 5 ≤ 30 := by decide +kernel
    omega
  · rw [ca, cb, cz, g_setM hq1 (he1 _ _)] at hP1
    exact hP1
theorem m_instY (C : Cx G nL X cc own ret fr) {nm cn : String} (q0 : Nat) (hq : q0 < 79) {ci : Nat} {fs : List Value} {T : u_T} {N : Nat} (he : g_sh G q0 (mu q0) (nu q0) = .inr (ci, fs)) (hcl : vwCl[ci]? = some (cn, T, N)) (hlink : Cond.classLink own index nm ∈ twl) (hc : Cond.castable cn nm ∈ nwl) (d : decode cc pc = .ok (.instanceof index, 3))
    (kk : Mq l G nL X Q (pc + 3) lv (.int 1 :: st) mu nu) : Mq l G nL X Q pc lv (.ref (G.1 q0) :: st) mu nu := by
  obtain ⟨p, e, R, s, m, args, below, meth, c, cells, slots⟩ := X
  obtain ⟨hx, hb, hml, ho, hts, hK, hGS, hGN, hd, hr, hlk, hfr, hlo, hce, hsl⟩ := C
  intro H locs ls hP hS hl
  exact va_instY hx hb ho (hts _ hlink) (hGN.1 _ hc) (va_recv hK hP hcl (g_atE hq he)) d (kk H locs ls hP hS hl)
theorem m_instS (C : Cx G nL X cc own ret fr) {cn : String} (q0 : Nat) (hq : q0 < 79) {ci : Nat} {fs : List Value} {T : u_T} {N : Nat} (he : g_sh G q0 (mu q0) (nu q0) = .inr (ci, fs)) (hcl : vwCl[ci]? = some (cn, T, N)) (hlink : Cond.classLink own index cn ∈ twl) (d : decode cc pc = .ok (.instanceof index, 3))
    (kk : Mq l G nL X Q (pc + 3) lv (.int 1 :: st) mu nu) : Mq l G nL X Q pc lv (.ref (G.1 q0) :: st) mu nu := by
  obtain ⟨p, e, R, s, m, args, below, meth, c, cells, slots⟩ := X
  obtain ⟨hx, hb, hml, ho, hts, hK, hGS, hGN, hd, hr, hlk, hfr, hlo, hce, hsl⟩ := C
  intro H locs ls hP hS hl
  exact va_instS hx hb ho (hts _ hlink) (hK.1 ci _ hcl).2 (va_recv hK hP hcl (g_atE hq he)) d (kk H locs ls hP hS hl)
theorem m_instN (C : Cx G nL X cc own ret fr) {nm cn : String} (q0 : Nat) (hq : q0 < 79) {ci : Nat} {fs : List Value} {T : u_T} {N : Nat} (he : g_sh G q0 (mu q0) (nu q0) = .inr (ci, fs)) (hcl : vwCl[ci]? = some (cn, T, N)) (hlink : Cond.classLink own index nm ∈ twl) (hc : (cn, nm) ∈ ncl) (d : decode cc pc = .ok (.instanceof index, 3))
    (kk : Mq l G nL X Q (pc + 3) lv (.int 0 :: st) mu nu) : Mq l G nL X Q pc lv (.ref (G.1 q0) :: st) mu nu := by
  obtain ⟨p, e, R, s, m, args, below, meth, c, cells, slots⟩ := X
  obtain ⟨hx, hb, hml, ho, hts, hK, hGS, hGN, hd, hr, hlk, hfr, hlo, hce, hsl⟩ := C
  intro H locs ls hP hS hl
  exact va_instNo hx hb ho (hts _ hlink) (hGN.2 _ hc) (va_recv hK hP hcl (g_atE hq he)) d (kk H locs ls hP hS hl)
end
end
section
def mX10_init : Mr := (yX10_init, cX10_init, 2, none)
def mX7_init : Mr := (yX7_init, cX7_init, 1, none)
def mX3_init : Mr := (yX3_init, cX3_init, 1, none)
def mX9_init : Mr := (yX9_init, cX9_init, 1, none)
def mX8_init : Mr := (yX8_init, cX8_init, 1, none)
def mX6_init : Mr := (yX6_init, cX6_init, 1, none)
def mX1_init : Mr := (yX1_init, cX1_init, 1, none)
def mX2_init : Mr := (yX2_init, cX2_init, 1, none)
def mX4_init : Mr := (yX4_init, cX4_init, 2, none)
def mX0_init : Mr := (yX0_init, cX0_init, 1, none)
def mX5_init : Mr := (yX5_init, cX5_init, 1, none)
def mX10_row : Mr := (yX10_row, cX10_row, 3, (some .int))
def mX10_isRow : Mr := (yX10_isRow, cX10_isRow, 1, (some .boolean))
def mX10_found : Mr := (yX10_found, cX10_found, 2, (some .int))
def mX7_make : Mr := (yX7_make, cX7_make, 4, none)
def mX10_lay : Mr := (yX10_lay, cX10_lay, 5, (some .int))
def mX10_unfitPlace : Mr := (yX10_unfitPlace, cX10_unfitPlace, 2, (some .int))
def mX7_isThere : Mr := (yX7_isThere, cX7_isThere, 1, (some .boolean))
def mX7_holds : Mr := (yX7_holds, cX7_holds, 3, (some .boolean))
def mX10_at : Mr := (yX10_at, cX10_at, 4, (some .int))
def mX10_tear : Mr := (yX10_tear, cX10_tear, 2, (some .int))
def mX10_copy : Mr := (yX10_copy, cX10_copy, 6, (some .int))
def mX10_mean : Mr := (yX10_mean, cX10_mean, 5, (some .int))
def mX10_text : Mr := (yX10_text, cX10_text, 3, (some .int))
def mX10_isText : Mr := (yX10_isText, cX10_isText, 1, (some .boolean))
def mX10_put : Mr := (yX10_put, cX10_put, 6, (some .int))
def mX10_fault : Mr := (yX10_fault, cX10_fault, 2, (some .int))
def mX10_firstFault : Mr := (yX10_firstFault, cX10_firstFault, 5, (some .int))
def mX10_isFigure : Mr := (yX10_isFigure, cX10_isFigure, 1, (some .boolean))
def mX10_kindByLetter : Mr := (yX10_kindByLetter, cX10_kindByLetter, 2, (some .int))
def mX10_box : Mr := (yX10_box, cX10_box, 3, (some .int))
def mX10_fillBox : Mr := (yX10_fillBox, cX10_fillBox, 5, none)
def mX0_clear : Mr := (yX0_clear, cX0_clear, 1, none)
def mX10_rod : Mr := (yX10_rod, cX10_rod, 3, (some .int))
def mX10_isRod : Mr := (yX10_isRod, cX10_isRod, 2, (some .boolean))
def mX10_ofRod : Mr := (yX10_ofRod, cX10_ofRod, 3, (some .int))
def mX10_digitNow : Mr := (yX10_digitNow, cX10_digitNow, 2, (some .int))
def mX0_isOver : Mr := (yX0_isOver, cX0_isOver, 2, (some .boolean))
def mX0_placeOf : Mr := (yX0_placeOf, cX0_placeOf, 3, (some .int))
def mX10_mark : Mr := (yX10_mark, cX10_mark, 3, (some .int))
def mX10_isOfKind : Mr := (yX10_isOfKind, cX10_isOfKind, 2, (some .boolean))
def mX10_linesApart : Mr := (yX10_linesApart, cX10_linesApart, 8, (some .int))
def mX10_shownNow : Mr := (yX10_shownNow, cX10_shownNow, 3, (some .int))
def mX9_shown : Mr := (yX9_shown, cX9_shown, 5, (some .int))
def mX1_isWithoutTens : Mr := (yX1_isWithoutTens, cX1_isWithoutTens, 3, (some .boolean))
def mX9_isWithoutTens : Mr := (yX9_isWithoutTens, cX9_isWithoutTens, 3, (some .boolean))
def mX2_shown : Mr := (yX2_shown, cX2_shown, 4, (some .int))
def mX8_shown : Mr := (yX8_shown, cX8_shown, 4, (some .int))
def mX6_shown : Mr := (yX6_shown, cX6_shown, 4, (some .int))
def mX3_shown : Mr := (yX3_shown, cX3_shown, 4, (some .int))
def mX10_shownAs : Mr := (yX10_shownAs, cX10_shownAs, 4, (some .int))
def mX10_slidBy : Mr := (yX10_slidBy, cX10_slidBy, 3, (some .int))
def mX10_isLine : Mr := (yX10_isLine, cX10_isLine, 1, (some .boolean))
def mX10_shows : Mr := (yX10_shows, cX10_shows, 3, (some .int))
def mX10_laid : Mr := (yX10_laid, cX10_laid, 2, (some .int))
def mX0_isFull : Mr := (yX0_isFull, cX0_isFull, 1, (some .boolean))
def mX0_act : Mr := (yX0_act, cX0_act, 4, none)
def mX0_perform : Mr := (yX0_perform, cX0_perform, 5, none)
def mX0_isTaken : Mr := (yX0_isTaken, cX0_isTaken, 2, (some .boolean))
def mX10_lift : Mr := (yX10_lift, cX10_lift, 2, (some .int))
def mX0_lastRod : Mr := (yX0_lastRod, cX0_lastRod, 1, (some .int))
def mX10_change : Mr := (yX10_change, cX10_change, 3, (some .int))
def mX10_over : Mr := (yX10_over, cX10_over, 2, (some .int))
def mX10_undo : Mr := (yX10_undo, cX10_undo, 4, (some .int))
def mX0_takeBack : Mr := (yX0_takeBack, cX0_takeBack, 1, none)
def mX0_backOf : Mr := (yX0_backOf, cX0_backOf, 1, (some .int))
def mX10_keep : Mr := (yX10_keep, cX10_keep, 2, (some .int))
def mX10_isKeepingPlace : Mr := (yX10_isKeepingPlace, cX10_isKeepingPlace, 1, (some .boolean))
def mX0_become : Mr := (yX0_become, cX0_become, 2, none)
def mX10_on : Mr := (yX10_on, cX10_on, 2, (some .int))
def mX10_reads : Mr := (yX10_reads, cX10_reads, 2, (some .int))
def mX10_rightBy : Mr := (yX10_rightBy, cX10_rightBy, 4, (some .int))
def mX10_readOff : Mr := (yX10_readOff, cX10_readOff, 2, (some .int))
def mX10_readWith : Mr := (yX10_readWith, cX10_readWith, 8, (some .int))
def mX10_wrong : Mr := (yX10_wrong, cX10_wrong, 3, (some .int))
def mX10_carries : Mr := (yX10_carries, cX10_carries, 6, (some .int))
def mX10_makes : Mr := (yX10_makes, cX10_makes, 5, (some .int))
def mX10_lookAt : Mr := (yX10_lookAt, cX10_lookAt, 3, none)
def mX5_nearest : Mr := (yX5_nearest, cX5_nearest, 4, (some .int))
def mX5_extend : Mr := (yX5_extend, cX5_extend, 6, none)
def mX5_leastGap : Mr := (yX5_leastGap, cX5_leastGap, 6, (some .int))
def mX7_take : Mr := (yX7_take, cX7_take, 4, none)
def mX10_most : Mr := (yX10_most, cX10_most, 5, (some .int))
def mX10_near : Mr := (yX10_near, cX10_near, 7, (some .int))
def mX10_digits : Mr := (yX10_digits, cX10_digits, 6, (some .int))
def mX10_unfitPairs : Mr := (yX10_unfitPairs, cX10_unfitPairs, 3, (some .int))
def mX10_fits : Mr := (yX10_fits, cX10_fits, 5, (some .boolean))
def mX10_kinds : Mr := (yX10_kinds, cX10_kinds, 4, (some .int))
def mX10_fittingKinds : Mr := (yX10_fittingKinds, cX10_fittingKinds, 5, (some .int))
def mX10_test : Mr := (yX10_test, cX10_test, 9, (some .int))
def mX10_greatestPart : Mr := (yX10_greatestPart, cX10_greatestPart, 8, (some .int))
def mX10_other : Mr := (yX10_other, cX10_other, 7, (some .int))
def mX10_wasReadWith : Mr := (yX10_wasReadWith, cX10_wasReadWith, 5, (some .boolean))
def mX10_duel : Mr := (yX10_duel, cX10_duel, 3, (some .int))
def mX0_bits : Mr := (yX0_bits, cX0_bits, 3, (some .int))
def mX5_playedOut : Mr := (yX5_playedOut, cX5_playedOut, 8, (some .int))
def mX10_odds : Mr := (yX10_odds, cX10_odds, 9, (some .int))
def mX10_isTwelfths : Mr := (yX10_isTwelfths, cX10_isTwelfths, 1, (some .boolean))
def mX10_readOfLeft : Mr := (yX10_readOfLeft, cX10_readOfLeft, 5, (some .int))
def mX10_weightOfLeft : Mr := (yX10_weightOfLeft, cX10_weightOfLeft, 6, (some .long))
def mX10_tell : Mr := (yX10_tell, cX10_tell, 7, none)
def mX10_greatestShared : Mr := (yX10_greatestShared, cX10_greatestShared, 11, (some .long))
def mX10_mid : Mr := (yX10_mid, cX10_mid, 3, (some .int))
def mX10_lots : Mr := (yX10_lots, cX10_lots, 6, (some .int))
def mX10_deedByLot : Mr := (yX10_deedByLot, cX10_deedByLot, 5, none)
def mX10_asked : Mr := (yX10_asked, cX10_asked, 1, (some .int))
def mX10_upper : Mr := (yX10_upper, cX10_upper, 1, (some .long))
def mX10_lower : Mr := (yX10_lower, cX10_lower, 1, (some .long))
def mX10_count : Mr := (yX10_count, cX10_count, 2, (some .int))
def mX10_howManyThere : Mr := (yX10_howManyThere, cX10_howManyThere, 3, (some .int))
def mX10_howManyKept : Mr := (yX10_howManyKept, cX10_howManyKept, 3, (some .int))
def mX10_howManyOf : Mr := (yX10_howManyOf, cX10_howManyOf, 4, (some .int))
def mX10_finding : Mr := (yX10_finding, cX10_finding, 1, (some .int))
def mX10_findings : Mr := (yX10_findings, cX10_findings, 2, (some .int))
def mX10_digest : Mr := (yX10_digest, cX10_digest, 5, (some .long))
def mX10_withStrips : Mr := (yX10_withStrips, cX10_withStrips, 7, (some .long))
def mX11_init : Mr := (yX11_init, cX11_init, 2, none)
def mX11_row : Mr := (yX11_row, cX11_row, 4, (some .int))
def mX11_isRow : Mr := (yX11_isRow, cX11_isRow, 1, (some .boolean))
def mX11_in : Mr := (yX11_in, cX11_in, 6, (some .boolean))
def mX11_finds : Mr := (yX11_finds, cX11_finds, 2, (some .int))
def mX11_lay : Mr := (yX11_lay, cX11_lay, 5, (some .int))
def mX11_tells : Mr := (yX11_tells, cX11_tells, 2, (some .int))
def mX11_at : Mr := (yX11_at, cX11_at, 3, (some .int))
def mX11_tear : Mr := (yX11_tear, cX11_tear, 2, (some .int))
def mX11_copy : Mr := (yX11_copy, cX11_copy, 7, (some .int))
def mX11_mean : Mr := (yX11_mean, cX11_mean, 5, (some .int))
def mX11_text : Mr := (yX11_text, cX11_text, 4, (some .int))
def mX11_isText : Mr := (yX11_isText, cX11_isText, 1, (some .boolean))
def mX11_put : Mr := (yX11_put, cX11_put, 5, (some .int))
def mX11_fault : Mr := (yX11_fault, cX11_fault, 2, (some .int))
def mX11_faultOf : Mr := (yX11_faultOf, cX11_faultOf, 3, (some .int))
def mX11_here : Mr := (yX11_here, cX11_here, 1, (some .int))
def mX11_takesRod : Mr := (yX11_takesRod, cX11_takesRod, 5, (some .boolean))
def mX11_kindOf : Mr := (yX11_kindOf, cX11_kindOf, 1, (some .int))
def mX11_box : Mr := (yX11_box, cX11_box, 3, (some .int))
def mX11_rod : Mr := (yX11_rod, cX11_rod, 3, (some .int))
def mX11_isRod : Mr := (yX11_isRod, cX11_isRod, 2, (some .boolean))
def mX11_rodOf : Mr := (yX11_rodOf, cX11_rodOf, 3, (some .int))
def mX11_digitOf : Mr := (yX11_digitOf, cX11_digitOf, 2, (some .int))
def mX11_has : Mr := (yX11_has, cX11_has, 2, (some .boolean))
def mX11_placeOf : Mr := (yX11_placeOf, cX11_placeOf, 3, (some .int))
def mX11_mark : Mr := (yX11_mark, cX11_mark, 4, (some .int))
def mX11_isA : Mr := (yX11_isA, cX11_isA, 2, (some .boolean))
def mX11_linesAgainst : Mr := (yX11_linesAgainst, cX11_linesAgainst, 8, (some .int))
def mX11_showsOf : Mr := (yX11_showsOf, cX11_showsOf, 3, (some .int))
def mX11_showsBy : Mr := (yX11_showsBy, cX11_showsBy, 4, (some .int))
def mX11_worn : Mr := (yX11_worn, cX11_worn, 3, (some .int))
def mX11_shows : Mr := (yX11_shows, cX11_shows, 3, (some .int))
def mX11_isLine : Mr := (yX11_isLine, cX11_isLine, 1, (some .boolean))
def mX11_laid : Mr := (yX11_laid, cX11_laid, 2, (some .int))
def mX11_minds : Mr := (yX11_minds, cX11_minds, 3, none)
def mX11_lays : Mr := (yX11_lays, cX11_lays, 2, none)
def mX11_lift : Mr := (yX11_lift, cX11_lift, 1, (some .int))
def mX11_lifts : Mr := (yX11_lifts, cX11_lifts, 2, (some .int))
def mX11_change : Mr := (yX11_change, cX11_change, 4, (some .int))
def mX11_over : Mr := (yX11_over, cX11_over, 2, (some .int))
def mX11_undo : Mr := (yX11_undo, cX11_undo, 5, (some .int))
def mX11_keep : Mr := (yX11_keep, cX11_keep, 2, (some .int))
def mX11_bring : Mr := (yX11_bring, cX11_bring, 4, none)
def mX11_on : Mr := (yX11_on, cX11_on, 2, (some .int))
def mX11_reads : Mr := (yX11_reads, cX11_reads, 2, (some .int))
def mX11_rightBy : Mr := (yX11_rightBy, cX11_rightBy, 4, (some .int))
def mX11_readBy : Mr := (yX11_readBy, cX11_readBy, 4, (some .int))
def mX11_wrong : Mr := (yX11_wrong, cX11_wrong, 3, (some .int))
def mX11_carries : Mr := (yX11_carries, cX11_carries, 7, (some .int))
def mX11_makes : Mr := (yX11_makes, cX11_makes, 6, (some .int))
def mX11_goesNext : Mr := (yX11_goesNext, cX11_goesNext, 6, (some .boolean))
def mX11_keeps : Mr := (yX11_keeps, cX11_keeps, 3, none)
def mX11_laysBest : Mr := (yX11_laysBest, cX11_laysBest, 4, none)
def mX11_most : Mr := (yX11_most, cX11_most, 6, (some .int))
def mX11_near : Mr := (yX11_near, cX11_near, 8, (some .int))
def mX11_digits : Mr := (yX11_digits, cX11_digits, 6, (some .int))
def mX11_againstPairs : Mr := (yX11_againstPairs, cX11_againstPairs, 4, (some .int))
def mX11_showedSo : Mr := (yX11_showedSo, cX11_showedSo, 7, (some .boolean))
def mX11_kinds : Mr := (yX11_kinds, cX11_kinds, 4, (some .int))
def mX11_kindsOf : Mr := (yX11_kindsOf, cX11_kindsOf, 5, (some .int))
def mX11_test : Mr := (yX11_test, cX11_test, 13, (some .int))
def mX11_other : Mr := (yX11_other, cX11_other, 9, (some .int))
def mX11_readWith : Mr := (yX11_readWith, cX11_readWith, 7, (some .int))
def mX11_duel : Mr := (yX11_duel, cX11_duel, 9, (some .int))
def mX11_isLaidOr : Mr := (yX11_isLaidOr, cX11_isLaidOr, 5, (some .boolean))
def mX11_odds : Mr := (yX11_odds, cX11_odds, 3, (some .int))
def mX11_chance : Mr := (yX11_chance, cX11_chance, 13, (some .int))
def mX11_readWithout : Mr := (yX11_readWithout, cX11_readWithout, 5, (some .int))
def mX11_tellsPart : Mr := (yX11_tellsPart, cX11_tellsPart, 11, (some .int))
def mX11_mid : Mr := (yX11_mid, cX11_mid, 3, (some .int))
def mX11_lots : Mr := (yX11_lots, cX11_lots, 8, (some .int))
def mX11_asked : Mr := (yX11_asked, cX11_asked, 1, (some .int))
def mX11_upper : Mr := (yX11_upper, cX11_upper, 1, (some .long))
def mX11_lower : Mr := (yX11_lower, cX11_lower, 1, (some .long))
def mX11_count : Mr := (yX11_count, cX11_count, 2, (some .int))
def mX11_framed : Mr := (yX11_framed, cX11_framed, 3, (some .int))
def mX11_rowsThere : Mr := (yX11_rowsThere, cX11_rowsThere, 3, (some .int))
def mX11_textsThere : Mr := (yX11_textsThere, cX11_textsThere, 3, (some .int))
def mX11_boxesKept : Mr := (yX11_boxesKept, cX11_boxesKept, 3, (some .int))
def mX11_manyOf : Mr := (yX11_manyOf, cX11_manyOf, 4, (some .int))
def mX11_finding : Mr := (yX11_finding, cX11_finding, 1, (some .int))
def mX11_findings : Mr := (yX11_findings, cX11_findings, 2, (some .int))
def mX11_digest : Mr := (yX11_digest, cX11_digest, 3, (some .long))
def mX11_mix : Mr := (yX11_mix, cX11_mix, 3, none)
set_option maxRecDepth 20000 in
theorem kcX10_init : Cond.code mX10_init.1 mX10_init.2.1 mX10_init.2.2.1 mX10_init.2.2.2 ∈ twl := twl_of 79 rfl rfl
set_option maxRecDepth 20000 in
theorem kcX7_init : Cond.code mX7_init.1 mX7_init.2.1 mX7_init.2.2.1 mX7_init.2.2.2 ∈ twl := twl_of 88 rfl rfl
set_option maxRecDepth 20000 in
theorem kcX3_init : Cond.code mX3_init.1 mX3_init.2.1 mX3_init.2.2.1 mX3_init.2.2.2 ∈ twl := twl_of 105 rfl rfl
set_option maxRecDepth 20000 in
theorem kcX9_init : Cond.code mX9_init.1 mX9_init.2.1 mX9_init.2.2.1 mX9_init.2.2.2 ∈ twl := twl_of 112 rfl rfl
set_option maxRecDepth 20000 in
theorem kcX8_init : Cond.code mX8_init.1 mX8_init.2.1 mX8_init.2.2.1 mX8_init.2.2.2 ∈ twl := twl_of 119 rfl rfl
set_option maxRecDepth 20000 in
theorem kcX6_init : Cond.code mX6_init.1 mX6_init.2.1 mX6_init.2.2.1 mX6_init.2.2.2 ∈ twl := twl_of 126 rfl rfl
set_option maxRecDepth 20000 in
theorem kcX1_init : Cond.code mX1_init.1 mX1_init.2.1 mX1_init.2.2.1 mX1_init.2.2.2 ∈ twl := twl_of 133 rfl rfl
set_option maxRecDepth 20000 in
theorem kcX2_init : Cond.code mX2_init.1 mX2_init.2.1 mX2_init.2.2.1 mX2_init.2.2.2 ∈ twl := twl_of 140 rfl rfl
set_option maxRecDepth 20000 in
theorem kcX4_init : Cond.code mX4_init.1 mX4_init.2.1 mX4_init.2.2.1 mX4_init.2.2.2 ∈ twl := twl_of 148 rfl rfl
set_option maxRecDepth 20000 in
theorem kcX0_init : Cond.code mX0_init.1 mX0_init.2.1 mX0_init.2.2.1 mX0_init.2.2.2 ∈ twl := twl_of 168 rfl rfl
set_option maxRecDepth 20000 in
theorem kcX5_init : Cond.code mX5_init.1 mX5_init.2.1 mX5_init.2.2.1 mX5_init.2.2.2 ∈ twl := twl_of 204 rfl rfl
set_option maxRecDepth 20000 in
theorem kcX10_row : Cond.code mX10_row.1 mX10_row.2.1 mX10_row.2.2.1 mX10_row.2.2.2 ∈ twl := twl_of 274 rfl rfl
set_option maxRecDepth 20000 in
theorem kcX10_isRow : Cond.code mX10_isRow.1 mX10_isRow.2.1 mX10_isRow.2.2.1 mX10_isRow.2.2.2 ∈ twl := twl_of 277 rfl rfl
set_option maxRecDepth 20000 in
theorem kcX10_found : Cond.code mX10_found.1 mX10_found.2.1 mX10_found.2.2.1 mX10_found.2.2.2 ∈ twl := twl_of 281 rfl rfl
set_option maxRecDepth 20000 in
theorem kcX7_make : Cond.code mX7_make.1 mX7_make.2.1 mX7_make.2.2.1 mX7_make.2.2.2 ∈ twl := twl_of 285 rfl rfl
set_option maxRecDepth 20000 in
theorem kcX10_lay : Cond.code mX10_lay.1 mX10_lay.2.1 mX10_lay.2.2.1 mX10_lay.2.2.2 ∈ twl := twl_of 289 rfl rfl
set_option maxRecDepth 20000 in
theorem kcX10_unfitPlace : Cond.code mX10_unfitPlace.1 mX10_unfitPlace.2.1 mX10_unfitPlace.2.2.1 mX10_unfitPlace.2.2.2 ∈ twl := twl_of 292 rfl rfl
set_option maxRecDepth 20000 in
theorem kcX7_isThere : Cond.code mX7_isThere.1 mX7_isThere.2.1 mX7_isThere.2.2.1 mX7_isThere.2.2.2 ∈ twl := twl_of 296 rfl rfl
set_option maxRecDepth 20000 in
theorem kcX7_holds : Cond.code mX7_holds.1 mX7_holds.2.1 mX7_holds.2.2.1 mX7_holds.2.2.2 ∈ twl := twl_of 300 rfl rfl
set_option maxRecDepth 20000 in
theorem kcX10_at : Cond.code mX10_at.1 mX10_at.2.1 mX10_at.2.2.1 mX10_at.2.2.2 ∈ twl := twl_of 304 rfl rfl
set_option maxRecDepth 20000 in
theorem kcX10_tear : Cond.code mX10_tear.1 mX10_tear.2.1 mX10_tear.2.2.1 mX10_tear.2.2.2 ∈ twl := twl_of 308 rfl rfl
set_option maxRecDepth 20000 in
theorem kcX10_copy : Cond.code mX10_copy.1 mX10_copy.2.1 mX10_copy.2.2.1 mX10_copy.2.2.2 ∈ twl := twl_of 312 rfl rfl
set_option maxRecDepth 20000 in
theorem kcX10_mean : Cond.code mX10_mean.1 mX10_mean.2.1 mX10_mean.2.2.1 mX10_mean.2.2.2 ∈ twl := twl_of 319 rfl rfl
set_option maxRecDepth 20000 in
theorem kcX10_text : Cond.code mX10_text.1 mX10_text.2.1 mX10_text.2.2.1 mX10_text.2.2.2 ∈ twl := twl_of 323 rfl rfl
set_option maxRecDepth 20000 in
theorem kcX10_isText : Cond.code mX10_isText.1 mX10_isText.2.1 mX10_isText.2.2.1 mX10_isText.2.2.2 ∈ twl := twl_of 326 rfl rfl
set_option maxRecDepth 20000 in
theorem kcX10_put : Cond.code mX10_put.1 mX10_put.2.1 mX10_put.2.2.1 mX10_put.2.2.2 ∈ twl := twl_of 330 rfl rfl
set_option maxRecDepth 20000 in
theorem kcX10_fault : Cond.code mX10_fault.1 mX10_fault.2.1 mX10_fault.2.2.1 mX10_fault.2.2.2 ∈ twl := twl_of 334 rfl rfl
set_option maxRecDepth 20000 in
theorem kcX10_firstFault : Cond.code mX10_firstFault.1 mX10_firstFault.2.1 mX10_firstFault.2.2.1 mX10_firstFault.2.2.2 ∈ twl := twl_of 337 rfl rfl
set_option maxRecDepth 20000 in
theorem kcX10_isFigure : Cond.code mX10_isFigure.1 mX10_isFigure.2.1 mX10_isFigure.2.2.1 mX10_isFigure.2.2.2 ∈ twl := twl_of 340 rfl rfl
set_option maxRecDepth 20000 in
theorem kcX10_kindByLetter : Cond.code mX10_kindByLetter.1 mX10_kindByLetter.2.1 mX10_kindByLetter.2.2.1 mX10_kindByLetter.2.2.2 ∈ twl := twl_of 343 rfl rfl
set_option maxRecDepth 20000 in
theorem kcX10_box : Cond.code mX10_box.1 mX10_box.2.1 mX10_box.2.2.1 mX10_box.2.2.2 ∈ twl := twl_of 349 rfl rfl
set_option maxRecDepth 20000 in
theorem kcX10_fillBox : Cond.code mX10_fillBox.1 mX10_fillBox.2.1 mX10_fillBox.2.2.1 mX10_fillBox.2.2.2 ∈ twl := twl_of 353 rfl rfl
set_option maxRecDepth 20000 in
theorem kcX0_clear : Cond.code mX0_clear.1 mX0_clear.2.1 mX0_clear.2.2.1 mX0_clear.2.2.2 ∈ twl := twl_of 357 rfl rfl
set_option maxRecDepth 20000 in
theorem kcX10_rod : Cond.code mX10_rod.1 mX10_rod.2.1 mX10_rod.2.2.1 mX10_rod.2.2.2 ∈ twl := twl_of 361 rfl rfl
set_option maxRecDepth 20000 in
theorem kcX10_isRod : Cond.code mX10_isRod.1 mX10_isRod.2.1 mX10_isRod.2.2.1 mX10_isRod.2.2.2 ∈ twl := twl_of 365 rfl rfl
set_option maxRecDepth 20000 in
theorem kcX10_ofRod : Cond.code mX10_ofRod.1 mX10_ofRod.2.1 mX10_ofRod.2.2.1 mX10_ofRod.2.2.2 ∈ twl := twl_of 369 rfl rfl
set_option maxRecDepth 20000 in
theorem kcX10_digitNow : Cond.code mX10_digitNow.1 mX10_digitNow.2.1 mX10_digitNow.2.2.1 mX10_digitNow.2.2.2 ∈ twl := twl_of 373 rfl rfl
set_option maxRecDepth 20000 in
theorem kcX0_isOver : Cond.code mX0_isOver.1 mX0_isOver.2.1 mX0_isOver.2.2.1 mX0_isOver.2.2.2 ∈ twl := twl_of 377 rfl rfl
set_option maxRecDepth 20000 in
theorem kcX0_placeOf : Cond.code mX0_placeOf.1 mX0_placeOf.2.1 mX0_placeOf.2.2.1 mX0_placeOf.2.2.2 ∈ twl := twl_of 381 rfl rfl
set_option maxRecDepth 20000 in
theorem kcX10_mark : Cond.code mX10_mark.1 mX10_mark.2.1 mX10_mark.2.2.1 mX10_mark.2.2.2 ∈ twl := twl_of 385 rfl rfl
set_option maxRecDepth 20000 in
theorem kcX10_isOfKind : Cond.code mX10_isOfKind.1 mX10_isOfKind.2.1 mX10_isOfKind.2.2.1 mX10_isOfKind.2.2.2 ∈ twl := twl_of 388 rfl rfl
set_option maxRecDepth 20000 in
theorem kcX10_linesApart : Cond.code mX10_linesApart.1 mX10_linesApart.2.1 mX10_linesApart.2.2.1 mX10_linesApart.2.2.2 ∈ twl := twl_of 392 rfl rfl
set_option maxRecDepth 20000 in
theorem kcX10_shownNow : Cond.code mX10_shownNow.1 mX10_shownNow.2.1 mX10_shownNow.2.2.1 mX10_shownNow.2.2.2 ∈ twl := twl_of 396 rfl rfl
set_option maxRecDepth 20000 in
theorem kcX9_shown : Cond.code mX9_shown.1 mX9_shown.2.1 mX9_shown.2.2.1 mX9_shown.2.2.2 ∈ twl := twl_of 403 rfl rfl
set_option maxRecDepth 20000 in
theorem kcX1_isWithoutTens : Cond.code mX1_isWithoutTens.1 mX1_isWithoutTens.2.1 mX1_isWithoutTens.2.2.1 mX1_isWithoutTens.2.2.2 ∈ twl := twl_of 411 rfl rfl
set_option maxRecDepth 20000 in
theorem kcX9_isWithoutTens : Cond.code mX9_isWithoutTens.1 mX9_isWithoutTens.2.1 mX9_isWithoutTens.2.2.1 mX9_isWithoutTens.2.2.2 ∈ twl := twl_of 413 rfl rfl
set_option maxRecDepth 20000 in
theorem kcX2_shown : Cond.code mX2_shown.1 mX2_shown.2.1 mX2_shown.2.2.1 mX2_shown.2.2.2 ∈ twl := twl_of 416 rfl rfl
set_option maxRecDepth 20000 in
theorem kcX8_shown : Cond.code mX8_shown.1 mX8_shown.2.1 mX8_shown.2.2.1 mX8_shown.2.2.2 ∈ twl := twl_of 419 rfl rfl
set_option maxRecDepth 20000 in
theorem kcX6_shown : Cond.code mX6_shown.1 mX6_shown.2.1 mX6_shown.2.2.1 mX6_shown.2.2.2 ∈ twl := twl_of 423 rfl rfl
set_option maxRecDepth 20000 in
theorem kcX3_shown : Cond.code mX3_shown.1 mX3_shown.2.1 mX3_shown.2.2.1 mX3_shown.2.2.2 ∈ twl := twl_of 427 rfl rfl
set_option maxRecDepth 20000 in
theorem kcX10_shownAs : Cond.code mX10_shownAs.1 mX10_shownAs.2.1 mX10_shownAs.2.2.1 mX10_shownAs.2.2.2 ∈ twl := twl_of 431 rfl rfl
set_option maxRecDepth 20000 in
theorem kcX10_slidBy : Cond.code mX10_slidBy.1 mX10_slidBy.2.1 mX10_slidBy.2.2.1 mX10_slidBy.2.2.2 ∈ twl := twl_of 435 rfl rfl
set_option maxRecDepth 20000 in
theorem kcX10_isLine : Cond.code mX10_isLine.1 mX10_isLine.2.1 mX10_isLine.2.2.1 mX10_isLine.2.2.2 ∈ twl := twl_of 438 rfl rfl
set_option maxRecDepth 20000 in
theorem kcX10_shows : Cond.code mX10_shows.1 mX10_shows.2.1 mX10_shows.2.2.1 mX10_shows.2.2.2 ∈ twl := twl_of 442 rfl rfl
set_option maxRecDepth 20000 in
theorem kcX10_laid : Cond.code mX10_laid.1 mX10_laid.2.1 mX10_laid.2.2.1 mX10_laid.2.2.2 ∈ twl := twl_of 446 rfl rfl
set_option maxRecDepth 20000 in
theorem kcX0_isFull : Cond.code mX0_isFull.1 mX0_isFull.2.1 mX0_isFull.2.2.1 mX0_isFull.2.2.2 ∈ twl := twl_of 450 rfl rfl
set_option maxRecDepth 20000 in
theorem kcX0_act : Cond.code mX0_act.1 mX0_act.2.1 mX0_act.2.2.1 mX0_act.2.2.2 ∈ twl := twl_of 454 rfl rfl
set_option maxRecDepth 20000 in
theorem kcX0_perform : Cond.code mX0_perform.1 mX0_perform.2.1 mX0_perform.2.2.1 mX0_perform.2.2.2 ∈ twl := twl_of 459 rfl rfl
set_option maxRecDepth 20000 in
theorem kcX0_isTaken : Cond.code mX0_isTaken.1 mX0_isTaken.2.1 mX0_isTaken.2.2.1 mX0_isTaken.2.2.2 ∈ twl := twl_of 463 rfl rfl
set_option maxRecDepth 20000 in
theorem kcX10_lift : Cond.code mX10_lift.1 mX10_lift.2.1 mX10_lift.2.2.1 mX10_lift.2.2.2 ∈ twl := twl_of 467 rfl rfl
set_option maxRecDepth 20000 in
theorem kcX0_lastRod : Cond.code mX0_lastRod.1 mX0_lastRod.2.1 mX0_lastRod.2.2.1 mX0_lastRod.2.2.2 ∈ twl := twl_of 471 rfl rfl
set_option maxRecDepth 20000 in
theorem kcX10_change : Cond.code mX10_change.1 mX10_change.2.1 mX10_change.2.2.1 mX10_change.2.2.2 ∈ twl := twl_of 475 rfl rfl
set_option maxRecDepth 20000 in
theorem kcX10_over : Cond.code mX10_over.1 mX10_over.2.1 mX10_over.2.2.1 mX10_over.2.2.2 ∈ twl := twl_of 480 rfl rfl
set_option maxRecDepth 20000 in
theorem kcX10_undo : Cond.code mX10_undo.1 mX10_undo.2.1 mX10_undo.2.2.1 mX10_undo.2.2.2 ∈ twl := twl_of 484 rfl rfl
set_option maxRecDepth 20000 in
theorem kcX0_takeBack : Cond.code mX0_takeBack.1 mX0_takeBack.2.1 mX0_takeBack.2.2.1 mX0_takeBack.2.2.2 ∈ twl := twl_of 488 rfl rfl
set_option maxRecDepth 20000 in
theorem kcX0_backOf : Cond.code mX0_backOf.1 mX0_backOf.2.1 mX0_backOf.2.2.1 mX0_backOf.2.2.2 ∈ twl := twl_of 491 rfl rfl
set_option maxRecDepth 20000 in
theorem kcX10_keep : Cond.code mX10_keep.1 mX10_keep.2.1 mX10_keep.2.2.1 mX10_keep.2.2.2 ∈ twl := twl_of 495 rfl rfl
set_option maxRecDepth 20000 in
theorem kcX10_isKeepingPlace : Cond.code mX10_isKeepingPlace.1 mX10_isKeepingPlace.2.1 mX10_isKeepingPlace.2.2.1 mX10_isKeepingPlace.2.2.2 ∈ twl := twl_of 498 rfl rfl
set_option maxRecDepth 20000 in
theorem kcX0_become : Cond.code mX0_become.1 mX0_become.2.1 mX0_become.2.2.1 mX0_become.2.2.2 ∈ twl := twl_of 502 rfl rfl
set_option maxRecDepth 20000 in
theorem kcX10_on : Cond.code mX10_on.1 mX10_on.2.1 mX10_on.2.2.1 mX10_on.2.2.2 ∈ twl := twl_of 507 rfl rfl
set_option maxRecDepth 20000 in
theorem kcX10_reads : Cond.code mX10_reads.1 mX10_reads.2.1 mX10_reads.2.2.1 mX10_reads.2.2.2 ∈ twl := twl_of 511 rfl rfl
set_option maxRecDepth 20000 in
theorem kcX10_rightBy : Cond.code mX10_rightBy.1 mX10_rightBy.2.1 mX10_rightBy.2.2.1 mX10_rightBy.2.2.2 ∈ twl := twl_of 515 rfl rfl
set_option maxRecDepth 20000 in
theorem kcX10_readOff : Cond.code mX10_readOff.1 mX10_readOff.2.1 mX10_readOff.2.2.1 mX10_readOff.2.2.2 ∈ twl := twl_of 519 rfl rfl
set_option maxRecDepth 20000 in
theorem kcX10_readWith : Cond.code mX10_readWith.1 mX10_readWith.2.1 mX10_readWith.2.2.1 mX10_readWith.2.2.2 ∈ twl := twl_of 523 rfl rfl
set_option maxRecDepth 20000 in
theorem kcX10_wrong : Cond.code mX10_wrong.1 mX10_wrong.2.1 mX10_wrong.2.2.1 mX10_wrong.2.2.2 ∈ twl := twl_of 527 rfl rfl
set_option maxRecDepth 20000 in
theorem kcX10_carries : Cond.code mX10_carries.1 mX10_carries.2.1 mX10_carries.2.2.1 mX10_carries.2.2.2 ∈ twl := twl_of 531 rfl rfl
set_option maxRecDepth 20000 in
theorem kcX10_makes : Cond.code mX10_makes.1 mX10_makes.2.1 mX10_makes.2.2.1 mX10_makes.2.2.2 ∈ twl := twl_of 538 rfl rfl
set_option maxRecDepth 20000 in
theorem kcX10_lookAt : Cond.code mX10_lookAt.1 mX10_lookAt.2.1 mX10_lookAt.2.2.1 mX10_lookAt.2.2.2 ∈ twl := twl_of 543 rfl rfl
set_option maxRecDepth 20000 in
theorem kcX5_nearest : Cond.code mX5_nearest.1 mX5_nearest.2.1 mX5_nearest.2.2.1 mX5_nearest.2.2.2 ∈ twl := twl_of 547 rfl rfl
set_option maxRecDepth 20000 in
theorem kcX5_extend : Cond.code mX5_extend.1 mX5_extend.2.1 mX5_extend.2.2.1 mX5_extend.2.2.2 ∈ twl := twl_of 554 rfl rfl
set_option maxRecDepth 20000 in
theorem kcX5_leastGap : Cond.code mX5_leastGap.1 mX5_leastGap.2.1 mX5_leastGap.2.2.1 mX5_leastGap.2.2.2 ∈ twl := twl_of 558 rfl rfl
set_option maxRecDepth 20000 in
theorem kcX7_take : Cond.code mX7_take.1 mX7_take.2.1 mX7_take.2.2.1 mX7_take.2.2.2 ∈ twl := twl_of 566 rfl rfl
set_option maxRecDepth 20000 in
theorem kcX10_most : Cond.code mX10_most.1 mX10_most.2.1 mX10_most.2.2.1 mX10_most.2.2.2 ∈ twl := twl_of 571 rfl rfl
set_option maxRecDepth 20000 in
theorem kcX10_near : Cond.code mX10_near.1 mX10_near.2.1 mX10_near.2.2.1 mX10_near.2.2.2 ∈ twl := twl_of 576 rfl rfl
set_option maxRecDepth 20000 in
theorem kcX10_digits : Cond.code mX10_digits.1 mX10_digits.2.1 mX10_digits.2.2.1 mX10_digits.2.2.2 ∈ twl := twl_of 581 rfl rfl
set_option maxRecDepth 20000 in
theorem kcX10_unfitPairs : Cond.code mX10_unfitPairs.1 mX10_unfitPairs.2.1 mX10_unfitPairs.2.2.1 mX10_unfitPairs.2.2.2 ∈ twl := twl_of 584 rfl rfl
set_option maxRecDepth 20000 in
theorem kcX10_fits : Cond.code mX10_fits.1 mX10_fits.2.1 mX10_fits.2.2.1 mX10_fits.2.2.2 ∈ twl := twl_of 588 rfl rfl
set_option maxRecDepth 20000 in
theorem kcX10_kinds : Cond.code mX10_kinds.1 mX10_kinds.2.1 mX10_kinds.2.2.1 mX10_kinds.2.2.2 ∈ twl := twl_of 592 rfl rfl
set_option maxRecDepth 20000 in
theorem kcX10_fittingKinds : Cond.code mX10_fittingKinds.1 mX10_fittingKinds.2.1 mX10_fittingKinds.2.2.1 mX10_fittingKinds.2.2.2 ∈ twl := twl_of 596 rfl rfl
set_option maxRecDepth 20000 in
theorem kcX10_test : Cond.code mX10_test.1 mX10_test.2.1 mX10_test.2.2.1 mX10_test.2.2.2 ∈ twl := twl_of 600 rfl rfl
set_option maxRecDepth 20000 in
theorem kcX10_greatestPart : Cond.code mX10_greatestPart.1 mX10_greatestPart.2.1 mX10_greatestPart.2.2.1 mX10_greatestPart.2.2.2 ∈ twl := twl_of 604 rfl rfl
set_option maxRecDepth 20000 in
theorem kcX10_other : Cond.code mX10_other.1 mX10_other.2.1 mX10_other.2.2.1 mX10_other.2.2.2 ∈ twl := twl_of 608 rfl rfl
set_option maxRecDepth 20000 in
theorem kcX10_wasReadWith : Cond.code mX10_wasReadWith.1 mX10_wasReadWith.2.1 mX10_wasReadWith.2.2.1 mX10_wasReadWith.2.2.2 ∈ twl := twl_of 612 rfl rfl
set_option maxRecDepth 20000 in
theorem kcX10_duel : Cond.code mX10_duel.1 mX10_duel.2.1 mX10_duel.2.2.1 mX10_duel.2.2.2 ∈ twl := twl_of 616 rfl rfl
set_option maxRecDepth 20000 in
theorem kcX0_bits : Cond.code mX0_bits.1 mX0_bits.2.1 mX0_bits.2.2.1 mX0_bits.2.2.2 ∈ twl := twl_of 620 rfl rfl
set_option maxRecDepth 20000 in
theorem kcX5_playedOut : Cond.code mX5_playedOut.1 mX5_playedOut.2.1 mX5_playedOut.2.2.1 mX5_playedOut.2.2.2 ∈ twl := twl_of 624 rfl rfl
set_option maxRecDepth 20000 in
theorem kcX10_odds : Cond.code mX10_odds.1 mX10_odds.2.1 mX10_odds.2.2.1 mX10_odds.2.2.2 ∈ twl := twl_of 629 rfl rfl
set_option maxRecDepth 20000 in
theorem kcX10_isTwelfths : Cond.code mX10_isTwelfths.1 mX10_isTwelfths.2.1 mX10_isTwelfths.2.2.1 mX10_isTwelfths.2.2.2 ∈ twl := twl_of 632 rfl rfl
set_option maxRecDepth 20000 in
theorem kcX10_readOfLeft : Cond.code mX10_readOfLeft.1 mX10_readOfLeft.2.1 mX10_readOfLeft.2.2.1 mX10_readOfLeft.2.2.2 ∈ twl := twl_of 636 rfl rfl
set_option maxRecDepth 20000 in
theorem kcX10_weightOfLeft : Cond.code mX10_weightOfLeft.1 mX10_weightOfLeft.2.1 mX10_weightOfLeft.2.2.1 mX10_weightOfLeft.2.2.2 ∈ twl := twl_of 640 rfl rfl
set_option maxRecDepth 20000 in
theorem kcX10_tell : Cond.code mX10_tell.1 mX10_tell.2.1 mX10_tell.2.2.1 mX10_tell.2.2.2 ∈ twl := twl_of 645 rfl rfl
set_option maxRecDepth 20000 in
theorem kcX10_greatestShared : Cond.code mX10_greatestShared.1 mX10_greatestShared.2.1 mX10_greatestShared.2.2.1 mX10_greatestShared.2.2.2 ∈ twl := twl_of 648 rfl rfl
set_option maxRecDepth 20000 in
theorem kcX10_mid : Cond.code mX10_mid.1 mX10_mid.2.1 mX10_mid.2.2.1 mX10_mid.2.2.2 ∈ twl := twl_of 652 rfl rfl
set_option maxRecDepth 20000 in
theorem kcX10_lots : Cond.code mX10_lots.1 mX10_lots.2.1 mX10_lots.2.2.1 mX10_lots.2.2.2 ∈ twl := twl_of 656 rfl rfl
set_option maxRecDepth 20000 in
theorem kcX10_deedByLot : Cond.code mX10_deedByLot.1 mX10_deedByLot.2.1 mX10_deedByLot.2.2.1 mX10_deedByLot.2.2.2 ∈ twl := twl_of 662 rfl rfl
set_option maxRecDepth 20000 in
theorem kcX10_asked : Cond.code mX10_asked.1 mX10_asked.2.1 mX10_asked.2.2.1 mX10_asked.2.2.2 ∈ twl := twl_of 668 rfl rfl
set_option maxRecDepth 20000 in
theorem kcX10_upper : Cond.code mX10_upper.1 mX10_upper.2.1 mX10_upper.2.2.1 mX10_upper.2.2.2 ∈ twl := twl_of 672 rfl rfl
set_option maxRecDepth 20000 in
theorem kcX10_lower : Cond.code mX10_lower.1 mX10_lower.2.1 mX10_lower.2.2.1 mX10_lower.2.2.2 ∈ twl := twl_of 676 rfl rfl
set_option maxRecDepth 20000 in
theorem kcX10_count : Cond.code mX10_count.1 mX10_count.2.1 mX10_count.2.2.1 mX10_count.2.2.2 ∈ twl := twl_of 680 rfl rfl
set_option maxRecDepth 20000 in
theorem kcX10_howManyThere : Cond.code mX10_howManyThere.1 mX10_howManyThere.2.1 mX10_howManyThere.2.2.1 mX10_howManyThere.2.2.2 ∈ twl := twl_of 683 rfl rfl
set_option maxRecDepth 20000 in
theorem kcX10_howManyKept : Cond.code mX10_howManyKept.1 mX10_howManyKept.2.1 mX10_howManyKept.2.2.1 mX10_howManyKept.2.2.2 ∈ twl := twl_of 687 rfl rfl
set_option maxRecDepth 20000 in
theorem kcX10_howManyOf : Cond.code mX10_howManyOf.1 mX10_howManyOf.2.1 mX10_howManyOf.2.2.1 mX10_howManyOf.2.2.2 ∈ twl := twl_of 691 rfl rfl
set_option maxRecDepth 20000 in
theorem kcX10_finding : Cond.code mX10_finding.1 mX10_finding.2.1 mX10_finding.2.2.1 mX10_finding.2.2.2 ∈ twl := twl_of 695 rfl rfl
set_option maxRecDepth 20000 in
theorem kcX10_findings : Cond.code mX10_findings.1 mX10_findings.2.1 mX10_findings.2.2.1 mX10_findings.2.2.2 ∈ twl := twl_of 699 rfl rfl
set_option maxRecDepth 20000 in
theorem kcX10_digest : Cond.code mX10_digest.1 mX10_digest.2.1 mX10_digest.2.2.1 mX10_digest.2.2.2 ∈ twl := twl_of 703 rfl rfl
set_option maxRecDepth 20000 in
theorem kcX10_withStrips : Cond.code mX10_withStrips.1 mX10_withStrips.2.1 mX10_withStrips.2.2.1 mX10_withStrips.2.2.2 ∈ twl := twl_of 709 rfl rfl
set_option maxRecDepth 20000 in
theorem kcX11_init : Cond.code mX11_init.1 mX11_init.2.1 mX11_init.2.2.1 mX11_init.2.2.2 ∈ twl := twl_of 714 rfl rfl
set_option maxRecDepth 20000 in
theorem kcX11_row : Cond.code mX11_row.1 mX11_row.2.1 mX11_row.2.2.1 mX11_row.2.2.2 ∈ twl := twl_of 792 rfl rfl
set_option maxRecDepth 20000 in
theorem kcX11_isRow : Cond.code mX11_isRow.1 mX11_isRow.2.1 mX11_isRow.2.2.1 mX11_isRow.2.2.2 ∈ twl := twl_of 795 rfl rfl
set_option maxRecDepth 20000 in
theorem kcX11_in : Cond.code mX11_in.1 mX11_in.2.1 mX11_in.2.2.1 mX11_in.2.2.2 ∈ twl := twl_of 799 rfl rfl
set_option maxRecDepth 20000 in
theorem kcX11_finds : Cond.code mX11_finds.1 mX11_finds.2.1 mX11_finds.2.2.1 mX11_finds.2.2.2 ∈ twl := twl_of 803 rfl rfl
set_option maxRecDepth 20000 in
theorem kcX11_lay : Cond.code mX11_lay.1 mX11_lay.2.1 mX11_lay.2.2.1 mX11_lay.2.2.2 ∈ twl := twl_of 807 rfl rfl
set_option maxRecDepth 20000 in
theorem kcX11_tells : Cond.code mX11_tells.1 mX11_tells.2.1 mX11_tells.2.2.1 mX11_tells.2.2.2 ∈ twl := twl_of 811 rfl rfl
set_option maxRecDepth 20000 in
theorem kcX11_at : Cond.code mX11_at.1 mX11_at.2.1 mX11_at.2.2.1 mX11_at.2.2.2 ∈ twl := twl_of 815 rfl rfl
set_option maxRecDepth 20000 in
theorem kcX11_tear : Cond.code mX11_tear.1 mX11_tear.2.1 mX11_tear.2.2.1 mX11_tear.2.2.2 ∈ twl := twl_of 819 rfl rfl
set_option maxRecDepth 20000 in
theorem kcX11_copy : Cond.code mX11_copy.1 mX11_copy.2.1 mX11_copy.2.2.1 mX11_copy.2.2.2 ∈ twl := twl_of 823 rfl rfl
set_option maxRecDepth 20000 in
theorem kcX11_mean : Cond.code mX11_mean.1 mX11_mean.2.1 mX11_mean.2.2.1 mX11_mean.2.2.2 ∈ twl := twl_of 827 rfl rfl
set_option maxRecDepth 20000 in
theorem kcX11_text : Cond.code mX11_text.1 mX11_text.2.1 mX11_text.2.2.1 mX11_text.2.2.2 ∈ twl := twl_of 831 rfl rfl
set_option maxRecDepth 20000 in
theorem kcX11_isText : Cond.code mX11_isText.1 mX11_isText.2.1 mX11_isText.2.2.1 mX11_isText.2.2.2 ∈ twl := twl_of 834 rfl rfl
set_option maxRecDepth 20000 in
theorem kcX11_put : Cond.code mX11_put.1 mX11_put.2.1 mX11_put.2.2.1 mX11_put.2.2.2 ∈ twl := twl_of 839 rfl rfl
set_option maxRecDepth 20000 in
theorem kcX11_fault : Cond.code mX11_fault.1 mX11_fault.2.1 mX11_fault.2.2.1 mX11_fault.2.2.2 ∈ twl := twl_of 843 rfl rfl
set_option maxRecDepth 20000 in
theorem kcX11_faultOf : Cond.code mX11_faultOf.1 mX11_faultOf.2.1 mX11_faultOf.2.2.1 mX11_faultOf.2.2.2 ∈ twl := twl_of 847 rfl rfl
set_option maxRecDepth 20000 in
theorem kcX11_here : Cond.code mX11_here.1 mX11_here.2.1 mX11_here.2.2.1 mX11_here.2.2.2 ∈ twl := twl_of 851 rfl rfl
set_option maxRecDepth 20000 in
theorem kcX11_takesRod : Cond.code mX11_takesRod.1 mX11_takesRod.2.1 mX11_takesRod.2.2.1 mX11_takesRod.2.2.2 ∈ twl := twl_of 855 rfl rfl
set_option maxRecDepth 20000 in
theorem kcX11_kindOf : Cond.code mX11_kindOf.1 mX11_kindOf.2.1 mX11_kindOf.2.2.1 mX11_kindOf.2.2.2 ∈ twl := twl_of 858 rfl rfl
set_option maxRecDepth 20000 in
theorem kcX11_box : Cond.code mX11_box.1 mX11_box.2.1 mX11_box.2.2.1 mX11_box.2.2.2 ∈ twl := twl_of 863 rfl rfl
set_option maxRecDepth 20000 in
theorem kcX11_rod : Cond.code mX11_rod.1 mX11_rod.2.1 mX11_rod.2.2.1 mX11_rod.2.2.2 ∈ twl := twl_of 867 rfl rfl
set_option maxRecDepth 20000 in
theorem kcX11_isRod : Cond.code mX11_isRod.1 mX11_isRod.2.1 mX11_isRod.2.2.1 mX11_isRod.2.2.2 ∈ twl := twl_of 871 rfl rfl
set_option maxRecDepth 20000 in
theorem kcX11_rodOf : Cond.code mX11_rodOf.1 mX11_rodOf.2.1 mX11_rodOf.2.2.1 mX11_rodOf.2.2.2 ∈ twl := twl_of 876 rfl rfl
set_option maxRecDepth 20000 in
theorem kcX11_digitOf : Cond.code mX11_digitOf.1 mX11_digitOf.2.1 mX11_digitOf.2.2.1 mX11_digitOf.2.2.2 ∈ twl := twl_of 880 rfl rfl
set_option maxRecDepth 20000 in
theorem kcX11_has : Cond.code mX11_has.1 mX11_has.2.1 mX11_has.2.2.1 mX11_has.2.2.2 ∈ twl := twl_of 883 rfl rfl
set_option maxRecDepth 20000 in
theorem kcX11_placeOf : Cond.code mX11_placeOf.1 mX11_placeOf.2.1 mX11_placeOf.2.2.1 mX11_placeOf.2.2.2 ∈ twl := twl_of 887 rfl rfl
set_option maxRecDepth 20000 in
theorem kcX11_mark : Cond.code mX11_mark.1 mX11_mark.2.1 mX11_mark.2.2.1 mX11_mark.2.2.2 ∈ twl := twl_of 891 rfl rfl
set_option maxRecDepth 20000 in
theorem kcX11_isA : Cond.code mX11_isA.1 mX11_isA.2.1 mX11_isA.2.2.1 mX11_isA.2.2.2 ∈ twl := twl_of 894 rfl rfl
set_option maxRecDepth 20000 in
theorem kcX11_linesAgainst : Cond.code mX11_linesAgainst.1 mX11_linesAgainst.2.1 mX11_linesAgainst.2.2.1 mX11_linesAgainst.2.2.2 ∈ twl := twl_of 898 rfl rfl
set_option maxRecDepth 20000 in
theorem kcX11_showsOf : Cond.code mX11_showsOf.1 mX11_showsOf.2.1 mX11_showsOf.2.2.1 mX11_showsOf.2.2.2 ∈ twl := twl_of 902 rfl rfl
set_option maxRecDepth 20000 in
theorem kcX11_showsBy : Cond.code mX11_showsBy.1 mX11_showsBy.2.1 mX11_showsBy.2.2.1 mX11_showsBy.2.2.2 ∈ twl := twl_of 905 rfl rfl
set_option maxRecDepth 20000 in
theorem kcX11_worn : Cond.code mX11_worn.1 mX11_worn.2.1 mX11_worn.2.2.1 mX11_worn.2.2.2 ∈ twl := twl_of 908 rfl rfl
set_option maxRecDepth 20000 in
theorem kcX11_shows : Cond.code mX11_shows.1 mX11_shows.2.1 mX11_shows.2.2.1 mX11_shows.2.2.2 ∈ twl := twl_of 912 rfl rfl
set_option maxRecDepth 20000 in
theorem kcX11_isLine : Cond.code mX11_isLine.1 mX11_isLine.2.1 mX11_isLine.2.2.1 mX11_isLine.2.2.2 ∈ twl := twl_of 915 rfl rfl
set_option maxRecDepth 20000 in
theorem kcX11_laid : Cond.code mX11_laid.1 mX11_laid.2.1 mX11_laid.2.2.1 mX11_laid.2.2.2 ∈ twl := twl_of 919 rfl rfl
set_option maxRecDepth 20000 in
theorem kcX11_minds : Cond.code mX11_minds.1 mX11_minds.2.1 mX11_minds.2.2.1 mX11_minds.2.2.2 ∈ twl := twl_of 923 rfl rfl
set_option maxRecDepth 20000 in
theorem kcX11_lays : Cond.code mX11_lays.1 mX11_lays.2.1 mX11_lays.2.2.1 mX11_lays.2.2.2 ∈ twl := twl_of 927 rfl rfl
set_option maxRecDepth 20000 in
theorem kcX11_lift : Cond.code mX11_lift.1 mX11_lift.2.1 mX11_lift.2.2.1 mX11_lift.2.2.2 ∈ twl := twl_of 931 rfl rfl
set_option maxRecDepth 20000 in
theorem kcX11_lifts : Cond.code mX11_lifts.1 mX11_lifts.2.1 mX11_lifts.2.2.1 mX11_lifts.2.2.2 ∈ twl := twl_of 935 rfl rfl
set_option maxRecDepth 20000 in
theorem kcX11_change : Cond.code mX11_change.1 mX11_change.2.1 mX11_change.2.2.1 mX11_change.2.2.2 ∈ twl := twl_of 939 rfl rfl
set_option maxRecDepth 20000 in
theorem kcX11_over : Cond.code mX11_over.1 mX11_over.2.1 mX11_over.2.2.1 mX11_over.2.2.2 ∈ twl := twl_of 943 rfl rfl
set_option maxRecDepth 20000 in
theorem kcX11_undo : Cond.code mX11_undo.1 mX11_undo.2.1 mX11_undo.2.2.1 mX11_undo.2.2.2 ∈ twl := twl_of 947 rfl rfl
set_option maxRecDepth 20000 in
theorem kcX11_keep : Cond.code mX11_keep.1 mX11_keep.2.1 mX11_keep.2.2.1 mX11_keep.2.2.2 ∈ twl := twl_of 951 rfl rfl
set_option maxRecDepth 20000 in
theorem kcX11_bring : Cond.code mX11_bring.1 mX11_bring.2.1 mX11_bring.2.2.1 mX11_bring.2.2.2 ∈ twl := twl_of 956 rfl rfl
set_option maxRecDepth 20000 in
theorem kcX11_on : Cond.code mX11_on.1 mX11_on.2.1 mX11_on.2.2.1 mX11_on.2.2.2 ∈ twl := twl_of 960 rfl rfl
set_option maxRecDepth 20000 in
theorem kcX11_reads : Cond.code mX11_reads.1 mX11_reads.2.1 mX11_reads.2.2.1 mX11_reads.2.2.2 ∈ twl := twl_of 964 rfl rfl
set_option maxRecDepth 20000 in
theorem kcX11_rightBy : Cond.code mX11_rightBy.1 mX11_rightBy.2.1 mX11_rightBy.2.2.1 mX11_rightBy.2.2.2 ∈ twl := twl_of 968 rfl rfl
set_option maxRecDepth 20000 in
theorem kcX11_readBy : Cond.code mX11_readBy.1 mX11_readBy.2.1 mX11_readBy.2.2.1 mX11_readBy.2.2.2 ∈ twl := twl_of 972 rfl rfl
set_option maxRecDepth 20000 in
theorem kcX11_wrong : Cond.code mX11_wrong.1 mX11_wrong.2.1 mX11_wrong.2.2.1 mX11_wrong.2.2.2 ∈ twl := twl_of 976 rfl rfl
set_option maxRecDepth 20000 in
theorem kcX11_carries : Cond.code mX11_carries.1 mX11_carries.2.1 mX11_carries.2.2.1 mX11_carries.2.2.2 ∈ twl := twl_of 980 rfl rfl
set_option maxRecDepth 20000 in
theorem kcX11_makes : Cond.code mX11_makes.1 mX11_makes.2.1 mX11_makes.2.2.1 mX11_makes.2.2.2 ∈ twl := twl_of 984 rfl rfl
set_option maxRecDepth 20000 in
theorem kcX11_goesNext : Cond.code mX11_goesNext.1 mX11_goesNext.2.1 mX11_goesNext.2.2.1 mX11_goesNext.2.2.2 ∈ twl := twl_of 989 rfl rfl
set_option maxRecDepth 20000 in
theorem kcX11_keeps : Cond.code mX11_keeps.1 mX11_keeps.2.1 mX11_keeps.2.2.1 mX11_keeps.2.2.2 ∈ twl := twl_of 993 rfl rfl
set_option maxRecDepth 20000 in
theorem kcX11_laysBest : Cond.code mX11_laysBest.1 mX11_laysBest.2.1 mX11_laysBest.2.2.1 mX11_laysBest.2.2.2 ∈ twl := twl_of 997 rfl rfl
set_option maxRecDepth 20000 in
theorem kcX11_most : Cond.code mX11_most.1 mX11_most.2.1 mX11_most.2.2.1 mX11_most.2.2.2 ∈ twl := twl_of 1001 rfl rfl
set_option maxRecDepth 20000 in
theorem kcX11_near : Cond.code mX11_near.1 mX11_near.2.1 mX11_near.2.2.1 mX11_near.2.2.2 ∈ twl := twl_of 1005 rfl rfl
set_option maxRecDepth 20000 in
theorem kcX11_digits : Cond.code mX11_digits.1 mX11_digits.2.1 mX11_digits.2.2.1 mX11_digits.2.2.2 ∈ twl := twl_of 1011 rfl rfl
set_option maxRecDepth 20000 in
theorem kcX11_againstPairs : Cond.code mX11_againstPairs.1 mX11_againstPairs.2.1 mX11_againstPairs.2.2.1 mX11_againstPairs.2.2.2 ∈ twl := twl_of 1015 rfl rfl
set_option maxRecDepth 20000 in
theorem kcX11_showedSo : Cond.code mX11_showedSo.1 mX11_showedSo.2.1 mX11_showedSo.2.2.1 mX11_showedSo.2.2.2 ∈ twl := twl_of 1020 rfl rfl
set_option maxRecDepth 20000 in
theorem kcX11_kinds : Cond.code mX11_kinds.1 mX11_kinds.2.1 mX11_kinds.2.2.1 mX11_kinds.2.2.2 ∈ twl := twl_of 1024 rfl rfl
set_option maxRecDepth 20000 in
theorem kcX11_kindsOf : Cond.code mX11_kindsOf.1 mX11_kindsOf.2.1 mX11_kindsOf.2.2.1 mX11_kindsOf.2.2.2 ∈ twl := twl_of 1028 rfl rfl
set_option maxRecDepth 20000 in
theorem kcX11_test : Cond.code mX11_test.1 mX11_test.2.1 mX11_test.2.2.1 mX11_test.2.2.2 ∈ twl := twl_of 1032 rfl rfl
set_option maxRecDepth 20000 in
theorem kcX11_other : Cond.code mX11_other.1 mX11_other.2.1 mX11_other.2.2.1 mX11_other.2.2.2 ∈ twl := twl_of 1036 rfl rfl
set_option maxRecDepth 20000 in
theorem kcX11_readWith : Cond.code mX11_readWith.1 mX11_readWith.2.1 mX11_readWith.2.2.1 mX11_readWith.2.2.2 ∈ twl := twl_of 1040 rfl rfl
set_option maxRecDepth 20000 in
theorem kcX11_duel : Cond.code mX11_duel.1 mX11_duel.2.1 mX11_duel.2.2.1 mX11_duel.2.2.2 ∈ twl := twl_of 1044 rfl rfl
set_option maxRecDepth 20000 in
theorem kcX11_isLaidOr : Cond.code mX11_isLaidOr.1 mX11_isLaidOr.2.1 mX11_isLaidOr.2.2.1 mX11_isLaidOr.2.2.2 ∈ twl := twl_of 1048 rfl rfl
set_option maxRecDepth 20000 in
theorem kcX11_odds : Cond.code mX11_odds.1 mX11_odds.2.1 mX11_odds.2.2.1 mX11_odds.2.2.2 ∈ twl := twl_of 1052 rfl rfl
set_option maxRecDepth 20000 in
theorem kcX11_chance : Cond.code mX11_chance.1 mX11_chance.2.1 mX11_chance.2.2.1 mX11_chance.2.2.2 ∈ twl := twl_of 1056 rfl rfl
set_option maxRecDepth 20000 in
theorem kcX11_readWithout : Cond.code mX11_readWithout.1 mX11_readWithout.2.1 mX11_readWithout.2.2.1 mX11_readWithout.2.2.2 ∈ twl := twl_of 1061 rfl rfl
set_option maxRecDepth 20000 in
theorem kcX11_tellsPart : Cond.code mX11_tellsPart.1 mX11_tellsPart.2.1 mX11_tellsPart.2.2.1 mX11_tellsPart.2.2.2 ∈ twl := twl_of 1065 rfl rfl
set_option maxRecDepth 20000 in
theorem kcX11_mid : Cond.code mX11_mid.1 mX11_mid.2.1 mX11_mid.2.2.1 mX11_mid.2.2.2 ∈ twl := twl_of 1069 rfl rfl
set_option maxRecDepth 20000 in
theorem kcX11_lots : Cond.code mX11_lots.1 mX11_lots.2.1 mX11_lots.2.2.1 mX11_lots.2.2.2 ∈ twl := twl_of 1073 rfl rfl
set_option maxRecDepth 20000 in
theorem kcX11_asked : Cond.code mX11_asked.1 mX11_asked.2.1 mX11_asked.2.2.1 mX11_asked.2.2.2 ∈ twl := twl_of 1082 rfl rfl
set_option maxRecDepth 20000 in
theorem kcX11_upper : Cond.code mX11_upper.1 mX11_upper.2.1 mX11_upper.2.2.1 mX11_upper.2.2.2 ∈ twl := twl_of 1086 rfl rfl
set_option maxRecDepth 20000 in
theorem kcX11_lower : Cond.code mX11_lower.1 mX11_lower.2.1 mX11_lower.2.2.1 mX11_lower.2.2.2 ∈ twl := twl_of 1090 rfl rfl
set_option maxRecDepth 20000 in
theorem kcX11_count : Cond.code mX11_count.1 mX11_count.2.1 mX11_count.2.2.1 mX11_count.2.2.2 ∈ twl := twl_of 1094 rfl rfl
set_option maxRecDepth 20000 in
theorem kcX11_framed : Cond.code mX11_framed.1 mX11_framed.2.1 mX11_framed.2.2.1 mX11_framed.2.2.2 ∈ twl := twl_of 1098 rfl rfl
set_option maxRecDepth 20000 in
theorem kcX11_rowsThere : Cond.code mX11_rowsThere.1 mX11_rowsThere.2.1 mX11_rowsThere.2.2.1 mX11_rowsThere.2.2.2 ∈ twl := twl_of 1102 rfl rfl
set_option maxRecDepth 20000 in
theorem kcX11_textsThere : Cond.code mX11_textsThere.1 mX11_textsThere.2.1 mX11_textsThere.2.2.1 mX11_textsThere.2.2.2 ∈ twl := twl_of 1106 rfl rfl
set_option maxRecDepth 20000 in
theorem kcX11_boxesKept : Cond.code mX11_boxesKept.1 mX11_boxesKept.2.1 mX11_boxesKept.2.2.1 mX11_boxesKept.2.2.2 ∈ twl := twl_of 1110 rfl rfl
set_option maxRecDepth 20000 in
theorem kcX11_manyOf : Cond.code mX11_manyOf.1 mX11_manyOf.2.1 mX11_manyOf.2.2.1 mX11_manyOf.2.2.2 ∈ twl := twl_of 1114 rfl rfl
set_option maxRecDepth 20000 in
theorem kcX11_finding : Cond.code mX11_finding.1 mX11_finding.2.1 mX11_finding.2.2.1 mX11_finding.2.2.2 ∈ twl := twl_of 1118 rfl rfl
set_option maxRecDepth 20000 in
theorem kcX11_findings : Cond.code mX11_findings.1 mX11_findings.2.1 mX11_findings.2.2.1 mX11_findings.2.2.2 ∈ twl := twl_of 1122 rfl rfl
set_option maxRecDepth 20000 in
theorem kcX11_digest : Cond.code mX11_digest.1 mX11_digest.2.1 mX11_digest.2.2.1 mX11_digest.2.2.2 ∈ twl := twl_of 1126 rfl rfl
set_option maxRecDepth 20000 in
theorem kcX11_mix : Cond.code mX11_mix.1 mX11_mix.2.1 mX11_mix.2.2.1 mX11_mix.2.2.2 ∈ twl := twl_of 1132 rfl rfl
set_option maxRecDepth 20000 in
theorem izX0 : Cond.initialized RX0 ∈ twl := twl_of 70 rfl rfl
set_option maxRecDepth 20000 in
theorem izX1 : Cond.initialized RX1 ∈ twl := twl_of 67 rfl rfl
set_option maxRecDepth 20000 in
theorem izX2 : Cond.initialized RX2 ∈ twl := twl_of 68 rfl rfl
set_option maxRecDepth 20000 in
theorem izX3 : Cond.initialized RX3 ∈ twl := twl_of 63 rfl rfl
set_option maxRecDepth 20000 in
theorem izX4 : Cond.initialized RX4 ∈ twl := twl_of 69 rfl rfl
set_option maxRecDepth 20000 in
theorem izX5 : Cond.initialized RX5 ∈ twl := twl_of 71 rfl rfl
set_option maxRecDepth 20000 in
theorem izX6 : Cond.initialized RX6 ∈ twl := twl_of 66 rfl rfl
set_option maxRecDepth 20000 in
theorem izX7 : Cond.initialized RX7 ∈ twl := twl_of 62 rfl rfl
set_option maxRecDepth 20000 in
theorem izX8 : Cond.initialized RX8 ∈ twl := twl_of 65 rfl rfl
set_option maxRecDepth 20000 in
theorem izX9 : Cond.initialized RX9 ∈ twl := twl_of 64 rfl rfl
set_option maxRecDepth 20000 in
theorem izX10 : Cond.initialized RX10 ∈ twl := twl_of 61 rfl rfl
set_option maxRecDepth 20000 in
theorem izX11 : Cond.initialized RX11 ∈ twl := twl_of 72 rfl rfl
set_option maxRecDepth 20000 in
theorem izJ9 : Cond.initialized RJ9 ∈ twl := twl_of 74 rfl rfl
set_option maxRecDepth 20000 in
theorem izJ10 : Cond.initialized RJ10 ∈ twl := twl_of 73 rfl rfl
set_option maxRecDepth 20000 in
theorem izL : Cond.initialized RL ∈ twl := twl_of 60 rfl rfl
set_option maxRecDepth 20000 in
theorem imX10_init : Cond.instanceMethod yX10_init ∈ twl := twl_of 78 rfl rfl
set_option maxRecDepth 20000 in
theorem imX7_init : Cond.instanceMethod yX7_init ∈ twl := twl_of 87 rfl rfl
set_option maxRecDepth 20000 in
theorem imX3_init : Cond.instanceMethod yX3_init ∈ twl := twl_of 104 rfl rfl
set_option maxRecDepth 20000 in
theorem imX9_init : Cond.instanceMethod yX9_init ∈ twl := twl_of 111 rfl rfl
set_option maxRecDepth 20000 in
theorem imX8_init : Cond.instanceMethod yX8_init ∈ twl := twl_of 118 rfl rfl
set_option maxRecDepth 20000 in
theorem imX6_init : Cond.instanceMethod yX6_init ∈ twl := twl_of 125 rfl rfl
set_option maxRecDepth 20000 in
theorem imX1_init : Cond.instanceMethod yX1_init ∈ twl := twl_of 132 rfl rfl
set_option maxRecDepth 20000 in
theorem imX2_init : Cond.instanceMethod yX2_init ∈ twl := twl_of 139 rfl rfl
set_option maxRecDepth 20000 in
theorem imX4_init : Cond.instanceMethod yX4_init ∈ twl := twl_of 147 rfl rfl
set_option maxRecDepth 20000 in
theorem imX0_init : Cond.instanceMethod yX0_init ∈ twl := twl_of 167 rfl rfl
set_option maxRecDepth 20000 in
theorem imX5_init : Cond.instanceMethod yX5_init ∈ twl := twl_of 203 rfl rfl
set_option maxRecDepth 20000 in
theorem imX10_row : Cond.instanceMethod yX10_row ∈ twl := twl_of 272 rfl rfl
set_option maxRecDepth 20000 in
theorem slX10_row : Cond.selects RX10 yX10_row yX10_row ∈ twl := twl_of 273 rfl rfl
set_option maxRecDepth 20000 in
theorem stX10_isRow : Cond.static yX10_isRow ∈ twl := twl_of 276 rfl rfl
set_option maxRecDepth 20000 in
theorem imX10_found : Cond.instanceMethod yX10_found ∈ twl := twl_of 280 rfl rfl
set_option maxRecDepth 20000 in
theorem slX10_found : Cond.selects RX10 yX10_found yX10_found ∈ twl := twl_of 0 rfl rfl
set_option maxRecDepth 20000 in
theorem imX7_make : Cond.instanceMethod yX7_make ∈ twl := twl_of 283 rfl rfl
set_option maxRecDepth 20000 in
theorem slX7_make : Cond.selects RX7 yX7_make yX7_make ∈ twl := twl_of 284 rfl rfl
set_option maxRecDepth 20000 in
theorem imX10_lay : Cond.instanceMethod yX10_lay ∈ twl := twl_of 287 rfl rfl
set_option maxRecDepth 20000 in
theorem slX10_lay : Cond.selects RX10 yX10_lay yX10_lay ∈ twl := twl_of 288 rfl rfl
set_option maxRecDepth 20000 in
theorem stX10_unfitPlace : Cond.static yX10_unfitPlace ∈ twl := twl_of 291 rfl rfl
set_option maxRecDepth 20000 in
theorem imX7_isThere : Cond.instanceMethod yX7_isThere ∈ twl := twl_of 294 rfl rfl
set_option maxRecDepth 20000 in
theorem slX7_isThere : Cond.selects RX7 yX7_isThere yX7_isThere ∈ twl := twl_of 295 rfl rfl
set_option maxRecDepth 20000 in
theorem imX7_holds : Cond.instanceMethod yX7_holds ∈ twl := twl_of 298 rfl rfl
set_option maxRecDepth 20000 in
theorem slX7_holds : Cond.selects RX7 yX7_holds yX7_holds ∈ twl := twl_of 299 rfl rfl
set_option maxRecDepth 20000 in
theorem imX10_at : Cond.instanceMethod yX10_at ∈ twl := twl_of 302 rfl rfl
set_option maxRecDepth 20000 in
theorem slX10_at : Cond.selects RX10 yX10_at yX10_at ∈ twl := twl_of 303 rfl rfl
set_option maxRecDepth 20000 in
theorem imX10_tear : Cond.instanceMethod yX10_tear ∈ twl := twl_of 306 rfl rfl
set_option maxRecDepth 20000 in
theorem slX10_tear : Cond.selects RX10 yX10_tear yX10_tear ∈ twl := twl_of 307 rfl rfl
set_option maxRecDepth 20000 in
theorem imX10_copy : Cond.instanceMethod yX10_copy ∈ twl := twl_of 310 rfl rfl
set_option maxRecDepth 20000 in
theorem slX10_copy : Cond.selects RX10 yX10_copy yX10_copy ∈ twl := twl_of 311 rfl rfl
set_option maxRecDepth 20000 in
theorem imX10_mean : Cond.instanceMethod yX10_mean ∈ twl := twl_of 317 rfl rfl
set_option maxRecDepth 20000 in
theorem slX10_mean : Cond.selects RX10 yX10_mean yX10_mean ∈ twl := twl_of 318 rfl rfl
set_option maxRecDepth 20000 in
theorem imX10_text : Cond.instanceMethod yX10_text ∈ twl := twl_of 321 rfl rfl
set_option maxRecDepth 20000 in
theorem slX10_text : Cond.selects RX10 yX10_text yX10_text ∈ twl := twl_of 322 rfl rfl
set_option maxRecDepth 20000 in
theorem stX10_isText : Cond.static yX10_isText ∈ twl := twl_of 325 rfl rfl
set_option maxRecDepth 20000 in
theorem imX10_put : Cond.instanceMethod yX10_put ∈ twl := twl_of 328 rfl rfl
set_option maxRecDepth 20000 in
theorem slX10_put : Cond.selects RX10 yX10_put yX10_put ∈ twl := twl_of 329 rfl rfl
set_option maxRecDepth 20000 in
theorem imX10_fault : Cond.instanceMethod yX10_fault ∈ twl := twl_of 332 rfl rfl
set_option maxRecDepth 20000 in
theorem slX10_fault : Cond.selects RX10 yX10_fault yX10_fault ∈ twl := twl_of 333 rfl rfl
set_option maxRecDepth 20000 in
theorem stX10_firstFault : Cond.static yX10_firstFault ∈ twl := twl_of 336 rfl rfl
set_option maxRecDepth 20000 in
theorem stX10_isFigure : Cond.static yX10_isFigure ∈ twl := twl_of 339 rfl rfl
set_option maxRecDepth 20000 in
theorem stX10_kindByLetter : Cond.static yX10_kindByLetter ∈ twl := twl_of 342 rfl rfl
set_option maxRecDepth 20000 in
theorem imX10_box : Cond.instanceMethod yX10_box ∈ twl := twl_of 347 rfl rfl
set_option maxRecDepth 20000 in
theorem slX10_box : Cond.selects RX10 yX10_box yX10_box ∈ twl := twl_of 348 rfl rfl
set_option maxRecDepth 20000 in
theorem imX10_fillBox : Cond.instanceMethod yX10_fillBox ∈ twl := twl_of 352 rfl rfl
set_option maxRecDepth 20000 in
theorem slX10_fillBox : Cond.selects RX10 yX10_fillBox yX10_fillBox ∈ twl := twl_of 1 rfl rfl
set_option maxRecDepth 20000 in
theorem imX0_clear : Cond.instanceMethod yX0_clear ∈ twl := twl_of 355 rfl rfl
set_option maxRecDepth 20000 in
theorem slX0_clear : Cond.selects RX0 yX0_clear yX0_clear ∈ twl := twl_of 356 rfl rfl
set_option maxRecDepth 20000 in
theorem imX10_rod : Cond.instanceMethod yX10_rod ∈ twl := twl_of 359 rfl rfl
set_option maxRecDepth 20000 in
theorem slX10_rod : Cond.selects RX10 yX10_rod yX10_rod ∈ twl := twl_of 360 rfl rfl
set_option maxRecDepth 20000 in
theorem imX10_isRod : Cond.instanceMethod yX10_isRod ∈ twl := twl_of 364 rfl rfl
set_option maxRecDepth 20000 in
theorem slX10_isRod : Cond.selects RX10 yX10_isRod yX10_isRod ∈ twl := twl_of 2 rfl rfl
set_option maxRecDepth 20000 in
theorem imX10_ofRod : Cond.instanceMethod yX10_ofRod ∈ twl := twl_of 368 rfl rfl
set_option maxRecDepth 20000 in
theorem slX10_ofRod : Cond.selects RX10 yX10_ofRod yX10_ofRod ∈ twl := twl_of 3 rfl rfl
set_option maxRecDepth 20000 in
theorem imX10_digitNow : Cond.instanceMethod yX10_digitNow ∈ twl := twl_of 372 rfl rfl
set_option maxRecDepth 20000 in
theorem slX10_digitNow : Cond.selects RX10 yX10_digitNow yX10_digitNow ∈ twl := twl_of 4 rfl rfl
set_option maxRecDepth 20000 in
theorem imX0_isOver : Cond.instanceMethod yX0_isOver ∈ twl := twl_of 375 rfl rfl
set_option maxRecDepth 20000 in
theorem slX0_isOver : Cond.selects RX0 yX0_isOver yX0_isOver ∈ twl := twl_of 376 rfl rfl
set_option maxRecDepth 20000 in
theorem imX0_placeOf : Cond.instanceMethod yX0_placeOf ∈ twl := twl_of 379 rfl rfl
set_option maxRecDepth 20000 in
theorem slX0_placeOf : Cond.selects RX0 yX0_placeOf yX0_placeOf ∈ twl := twl_of 380 rfl rfl
set_option maxRecDepth 20000 in
theorem imX10_mark : Cond.instanceMethod yX10_mark ∈ twl := twl_of 383 rfl rfl
set_option maxRecDepth 20000 in
theorem slX10_mark : Cond.selects RX10 yX10_mark yX10_mark ∈ twl := twl_of 384 rfl rfl
set_option maxRecDepth 20000 in
theorem stX10_isOfKind : Cond.static yX10_isOfKind ∈ twl := twl_of 387 rfl rfl
set_option maxRecDepth 20000 in
theorem imX10_linesApart : Cond.instanceMethod yX10_linesApart ∈ twl := twl_of 391 rfl rfl
set_option maxRecDepth 20000 in
theorem slX10_linesApart : Cond.selects RX10 yX10_linesApart yX10_linesApart ∈ twl := twl_of 5 rfl rfl
set_option maxRecDepth 20000 in
theorem imX10_shownNow : Cond.instanceMethod yX10_shownNow ∈ twl := twl_of 395 rfl rfl
set_option maxRecDepth 20000 in
theorem slX10_shownNow : Cond.selects RX10 yX10_shownNow yX10_shownNow ∈ twl := twl_of 6 rfl rfl
set_option maxRecDepth 20000 in
theorem imX9_shown : Cond.instanceMethod yX9_shown ∈ twl := twl_of 402 rfl rfl
set_option maxRecDepth 20000 in
theorem imX1_isWithoutTens : Cond.instanceMethod yX1_isWithoutTens ∈ twl := twl_of 410 rfl rfl
set_option maxRecDepth 20000 in
theorem imX9_isWithoutTens : Cond.instanceMethod yX9_isWithoutTens ∈ twl := twl_of 406 rfl rfl
set_option maxRecDepth 20000 in
theorem slX9_isWithoutTens : Cond.selects RX9 yX9_isWithoutTens yX9_isWithoutTens ∈ twl := twl_of 407 rfl rfl
set_option maxRecDepth 20000 in
theorem imX2_shown : Cond.instanceMethod yX2_shown ∈ twl := twl_of 415 rfl rfl
set_option maxRecDepth 20000 in
theorem imX8_shown : Cond.instanceMethod yX8_shown ∈ twl := twl_of 418 rfl rfl
set_option maxRecDepth 20000 in
theorem imX6_shown : Cond.instanceMethod yX6_shown ∈ twl := twl_of 422 rfl rfl
set_option maxRecDepth 20000 in
theorem imX3_shown : Cond.instanceMethod yX3_shown ∈ twl := twl_of 398 rfl rfl
set_option maxRecDepth 20000 in
theorem slX3_shown : Cond.selects RX3 yX3_shown yX3_shown ∈ twl := twl_of 399 rfl rfl
set_option maxRecDepth 20000 in
theorem imX10_shownAs : Cond.instanceMethod yX10_shownAs ∈ twl := twl_of 430 rfl rfl
set_option maxRecDepth 20000 in
theorem slX10_shownAs : Cond.selects RX10 yX10_shownAs yX10_shownAs ∈ twl := twl_of 7 rfl rfl
set_option maxRecDepth 20000 in
theorem imX10_slidBy : Cond.instanceMethod yX10_slidBy ∈ twl := twl_of 434 rfl rfl
set_option maxRecDepth 20000 in
theorem slX10_slidBy : Cond.selects RX10 yX10_slidBy yX10_slidBy ∈ twl := twl_of 8 rfl rfl
set_option maxRecDepth 20000 in
theorem stX10_isLine : Cond.static yX10_isLine ∈ twl := twl_of 437 rfl rfl
set_option maxRecDepth 20000 in
theorem imX10_shows : Cond.instanceMethod yX10_shows ∈ twl := twl_of 440 rfl rfl
set_option maxRecDepth 20000 in
theorem slX10_shows : Cond.selects RX10 yX10_shows yX10_shows ∈ twl := twl_of 441 rfl rfl
set_option maxRecDepth 20000 in
theorem imX10_laid : Cond.instanceMethod yX10_laid ∈ twl := twl_of 444 rfl rfl
set_option maxRecDepth 20000 in
theorem slX10_laid : Cond.selects RX10 yX10_laid yX10_laid ∈ twl := twl_of 445 rfl rfl
set_option maxRecDepth 20000 in
theorem imX0_isFull : Cond.instanceMethod yX0_isFull ∈ twl := twl_of 448 rfl rfl
set_option maxRecDepth 20000 in
theorem slX0_isFull : Cond.selects RX0 yX0_isFull yX0_isFull ∈ twl := twl_of 449 rfl rfl
set_option maxRecDepth 20000 in
theorem imX0_act : Cond.instanceMethod yX0_act ∈ twl := twl_of 452 rfl rfl
set_option maxRecDepth 20000 in
theorem slX0_act : Cond.selects RX0 yX0_act yX0_act ∈ twl := twl_of 453 rfl rfl
set_option maxRecDepth 20000 in
theorem imX0_perform : Cond.instanceMethod yX0_perform ∈ twl := twl_of 458 rfl rfl
set_option maxRecDepth 20000 in
theorem slX0_perform : Cond.selects RX0 yX0_perform yX0_perform ∈ twl := twl_of 9 rfl rfl
set_option maxRecDepth 20000 in
theorem imX0_isTaken : Cond.instanceMethod yX0_isTaken ∈ twl := twl_of 461 rfl rfl
set_option maxRecDepth 20000 in
theorem slX0_isTaken : Cond.selects RX0 yX0_isTaken yX0_isTaken ∈ twl := twl_of 462 rfl rfl
set_option maxRecDepth 20000 in
theorem imX10_lift : Cond.instanceMethod yX10_lift ∈ twl := twl_of 465 rfl rfl
set_option maxRecDepth 20000 in
theorem slX10_lift : Cond.selects RX10 yX10_lift yX10_lift ∈ twl := twl_of 466 rfl rfl
set_option maxRecDepth 20000 in
theorem imX0_lastRod : Cond.instanceMethod yX0_lastRod ∈ twl := twl_of 469 rfl rfl
set_option maxRecDepth 20000 in
theorem slX0_lastRod : Cond.selects RX0 yX0_lastRod yX0_lastRod ∈ twl := twl_of 470 rfl rfl
set_option maxRecDepth 20000 in
theorem imX10_change : Cond.instanceMethod yX10_change ∈ twl := twl_of 473 rfl rfl
set_option maxRecDepth 20000 in
theorem slX10_change : Cond.selects RX10 yX10_change yX10_change ∈ twl := twl_of 474 rfl rfl
set_option maxRecDepth 20000 in
theorem imX10_over : Cond.instanceMethod yX10_over ∈ twl := twl_of 478 rfl rfl
set_option maxRecDepth 20000 in
theorem slX10_over : Cond.selects RX10 yX10_over yX10_over ∈ twl := twl_of 479 rfl rfl
set_option maxRecDepth 20000 in
theorem imX10_undo : Cond.instanceMethod yX10_undo ∈ twl := twl_of 482 rfl rfl
set_option maxRecDepth 20000 in
theorem slX10_undo : Cond.selects RX10 yX10_undo yX10_undo ∈ twl := twl_of 483 rfl rfl
set_option maxRecDepth 20000 in
theorem imX0_takeBack : Cond.instanceMethod yX0_takeBack ∈ twl := twl_of 486 rfl rfl
set_option maxRecDepth 20000 in
theorem slX0_takeBack : Cond.selects RX0 yX0_takeBack yX0_takeBack ∈ twl := twl_of 487 rfl rfl
set_option maxRecDepth 20000 in
theorem stX0_backOf : Cond.static yX0_backOf ∈ twl := twl_of 490 rfl rfl
set_option maxRecDepth 20000 in
theorem imX10_keep : Cond.instanceMethod yX10_keep ∈ twl := twl_of 493 rfl rfl
set_option maxRecDepth 20000 in
theorem slX10_keep : Cond.selects RX10 yX10_keep yX10_keep ∈ twl := twl_of 494 rfl rfl
set_option maxRecDepth 20000 in
theorem stX10_isKeepingPlace : Cond.static yX10_isKeepingPlace ∈ twl := twl_of 497 rfl rfl
set_option maxRecDepth 20000 in
theorem imX0_become : Cond.instanceMethod yX0_become ∈ twl := twl_of 500 rfl rfl
set_option maxRecDepth 20000 in
theorem slX0_become : Cond.selects RX0 yX0_become yX0_become ∈ twl := twl_of 501 rfl rfl
set_option maxRecDepth 20000 in
theorem imX10_on : Cond.instanceMethod yX10_on ∈ twl := twl_of 505 rfl rfl
set_option maxRecDepth 20000 in
theorem slX10_on : Cond.selects RX10 yX10_on yX10_on ∈ twl := twl_of 506 rfl rfl
set_option maxRecDepth 20000 in
theorem imX10_reads : Cond.instanceMethod yX10_reads ∈ twl := twl_of 509 rfl rfl
set_option maxRecDepth 20000 in
theorem slX10_reads : Cond.selects RX10 yX10_reads yX10_reads ∈ twl := twl_of 510 rfl rfl
set_option maxRecDepth 20000 in
theorem imX10_rightBy : Cond.instanceMethod yX10_rightBy ∈ twl := twl_of 514 rfl rfl
set_option maxRecDepth 20000 in
theorem slX10_rightBy : Cond.selects RX10 yX10_rightBy yX10_rightBy ∈ twl := twl_of 10 rfl rfl
set_option maxRecDepth 20000 in
theorem imX10_readOff : Cond.instanceMethod yX10_readOff ∈ twl := twl_of 518 rfl rfl
set_option maxRecDepth 20000 in
theorem slX10_readOff : Cond.selects RX10 yX10_readOff yX10_readOff ∈ twl := twl_of 11 rfl rfl
set_option maxRecDepth 20000 in
theorem imX10_readWith : Cond.instanceMethod yX10_readWith ∈ twl := twl_of 522 rfl rfl
set_option maxRecDepth 20000 in
theorem slX10_readWith : Cond.selects RX10 yX10_readWith yX10_readWith ∈ twl := twl_of 12 rfl rfl
set_option maxRecDepth 20000 in
theorem imX10_wrong : Cond.instanceMethod yX10_wrong ∈ twl := twl_of 525 rfl rfl
set_option maxRecDepth 20000 in
theorem slX10_wrong : Cond.selects RX10 yX10_wrong yX10_wrong ∈ twl := twl_of 526 rfl rfl
set_option maxRecDepth 20000 in
theorem imX10_carries : Cond.instanceMethod yX10_carries ∈ twl := twl_of 529 rfl rfl
set_option maxRecDepth 20000 in
theorem slX10_carries : Cond.selects RX10 yX10_carries yX10_carries ∈ twl := twl_of 530 rfl rfl
set_option maxRecDepth 20000 in
theorem imX10_makes : Cond.instanceMethod yX10_makes ∈ twl := twl_of 536 rfl rfl
set_option maxRecDepth 20000 in
theorem slX10_makes : Cond.selects RX10 yX10_makes yX10_makes ∈ twl := twl_of 537 rfl rfl
set_option maxRecDepth 20000 in
theorem imX10_lookAt : Cond.instanceMethod yX10_lookAt ∈ twl := twl_of 542 rfl rfl
set_option maxRecDepth 20000 in
theorem slX10_lookAt : Cond.selects RX10 yX10_lookAt yX10_lookAt ∈ twl := twl_of 13 rfl rfl
set_option maxRecDepth 20000 in
theorem imX5_nearest : Cond.instanceMethod yX5_nearest ∈ twl := twl_of 545 rfl rfl
set_option maxRecDepth 20000 in
theorem slX5_nearest : Cond.selects RX5 yX5_nearest yX5_nearest ∈ twl := twl_of 546 rfl rfl
set_option maxRecDepth 20000 in
theorem imX5_extend : Cond.instanceMethod yX5_extend ∈ twl := twl_of 553 rfl rfl
set_option maxRecDepth 20000 in
theorem slX5_extend : Cond.selects RX5 yX5_extend yX5_extend ∈ twl := twl_of 14 rfl rfl
set_option maxRecDepth 20000 in
theorem imX5_leastGap : Cond.instanceMethod yX5_leastGap ∈ twl := twl_of 557 rfl rfl
set_option maxRecDepth 20000 in
theorem slX5_leastGap : Cond.selects RX5 yX5_leastGap yX5_leastGap ∈ twl := twl_of 15 rfl rfl
set_option maxRecDepth 20000 in
theorem imX7_take : Cond.instanceMethod yX7_take ∈ twl := twl_of 564 rfl rfl
set_option maxRecDepth 20000 in
theorem slX7_take : Cond.selects RX7 yX7_take yX7_take ∈ twl := twl_of 565 rfl rfl
set_option maxRecDepth 20000 in
theorem imX10_most : Cond.instanceMethod yX10_most ∈ twl := twl_of 569 rfl rfl
set_option maxRecDepth 20000 in
theorem slX10_most : Cond.selects RX10 yX10_most yX10_most ∈ twl := twl_of 570 rfl rfl
set_option maxRecDepth 20000 in
theorem imX10_near : Cond.instanceMethod yX10_near ∈ twl := twl_of 574 rfl rfl
set_option maxRecDepth 20000 in
theorem slX10_near : Cond.selects RX10 yX10_near yX10_near ∈ twl := twl_of 575 rfl rfl
set_option maxRecDepth 20000 in
theorem imX10_digits : Cond.instanceMethod yX10_digits ∈ twl := twl_of 579 rfl rfl
set_option maxRecDepth 20000 in
theorem slX10_digits : Cond.selects RX10 yX10_digits yX10_digits ∈ twl := twl_of 580 rfl rfl
set_option maxRecDepth 20000 in
theorem stX10_unfitPairs : Cond.static yX10_unfitPairs ∈ twl := twl_of 583 rfl rfl
set_option maxRecDepth 20000 in
theorem stX10_fits : Cond.static yX10_fits ∈ twl := twl_of 587 rfl rfl
set_option maxRecDepth 20000 in
theorem imX10_kinds : Cond.instanceMethod yX10_kinds ∈ twl := twl_of 590 rfl rfl
set_option maxRecDepth 20000 in
theorem slX10_kinds : Cond.selects RX10 yX10_kinds yX10_kinds ∈ twl := twl_of 591 rfl rfl
set_option maxRecDepth 20000 in
theorem imX10_fittingKinds : Cond.instanceMethod yX10_fittingKinds ∈ twl := twl_of 595 rfl rfl
set_option maxRecDepth 20000 in
theorem slX10_fittingKinds : Cond.selects RX10 yX10_fittingKinds yX10_fittingKinds ∈ twl := twl_of 16 rfl rfl
set_option maxRecDepth 20000 in
theorem imX10_test : Cond.instanceMethod yX10_test ∈ twl := twl_of 598 rfl rfl
set_option maxRecDepth 20000 in
theorem slX10_test : Cond.selects RX10 yX10_test yX10_test ∈ twl := twl_of 599 rfl rfl
set_option maxRecDepth 20000 in
theorem imX10_greatestPart : Cond.instanceMethod yX10_greatestPart ∈ twl := twl_of 603 rfl rfl
set_option maxRecDepth 20000 in
theorem slX10_greatestPart : Cond.selects RX10 yX10_greatestPart yX10_greatestPart ∈ twl := twl_of 17 rfl rfl
set_option maxRecDepth 20000 in
theorem imX10_other : Cond.instanceMethod yX10_other ∈ twl := twl_of 606 rfl rfl
set_option maxRecDepth 20000 in
theorem slX10_other : Cond.selects RX10 yX10_other yX10_other ∈ twl := twl_of 607 rfl rfl
set_option maxRecDepth 20000 in
theorem imX10_wasReadWith : Cond.instanceMethod yX10_wasReadWith ∈ twl := twl_of 611 rfl rfl
set_option maxRecDepth 20000 in
theorem slX10_wasReadWith : Cond.selects RX10 yX10_wasReadWith yX10_wasReadWith ∈ twl := twl_of 18 rfl rfl
set_option maxRecDepth 20000 in
theorem imX10_duel : Cond.instanceMethod yX10_duel ∈ twl := twl_of 614 rfl rfl
set_option maxRecDepth 20000 in
theorem slX10_duel : Cond.selects RX10 yX10_duel yX10_duel ∈ twl := twl_of 615 rfl rfl
set_option maxRecDepth 20000 in
theorem imX0_bits : Cond.instanceMethod yX0_bits ∈ twl := twl_of 618 rfl rfl
set_option maxRecDepth 20000 in
theorem slX0_bits : Cond.selects RX0 yX0_bits yX0_bits ∈ twl := twl_of 619 rfl rfl
set_option maxRecDepth 20000 in
theorem imX5_playedOut : Cond.instanceMethod yX5_playedOut ∈ twl := twl_of 623 rfl rfl
set_option maxRecDepth 20000 in
theorem slX5_playedOut : Cond.selects RX5 yX5_playedOut yX5_playedOut ∈ twl := twl_of 19 rfl rfl
set_option maxRecDepth 20000 in
theorem imX10_odds : Cond.instanceMethod yX10_odds ∈ twl := twl_of 627 rfl rfl
set_option maxRecDepth 20000 in
theorem slX10_odds : Cond.selects RX10 yX10_odds yX10_odds ∈ twl := twl_of 628 rfl rfl
set_option maxRecDepth 20000 in
theorem stX10_isTwelfths : Cond.static yX10_isTwelfths ∈ twl := twl_of 631 rfl rfl
set_option maxRecDepth 20000 in
theorem imX10_readOfLeft : Cond.instanceMethod yX10_readOfLeft ∈ twl := twl_of 635 rfl rfl
set_option maxRecDepth 20000 in
theorem slX10_readOfLeft : Cond.selects RX10 yX10_readOfLeft yX10_readOfLeft ∈ twl := twl_of 20 rfl rfl
set_option maxRecDepth 20000 in
theorem imX10_weightOfLeft : Cond.instanceMethod yX10_weightOfLeft ∈ twl := twl_of 639 rfl rfl
set_option maxRecDepth 20000 in
theorem slX10_weightOfLeft : Cond.selects RX10 yX10_weightOfLeft yX10_weightOfLeft ∈ twl := twl_of 21 rfl rfl
set_option maxRecDepth 20000 in
theorem imX10_tell : Cond.instanceMethod yX10_tell ∈ twl := twl_of 644 rfl rfl
set_option maxRecDepth 20000 in
theorem slX10_tell : Cond.selects RX10 yX10_tell yX10_tell ∈ twl := twl_of 22 rfl rfl
set_option maxRecDepth 20000 in
theorem stX10_greatestShared : Cond.static yX10_greatestShared ∈ twl := twl_of 647 rfl rfl
set_option maxRecDepth 20000 in
theorem imX10_mid : Cond.instanceMethod yX10_mid ∈ twl := twl_of 650 rfl rfl
set_option maxRecDepth 20000 in
theorem slX10_mid : Cond.selects RX10 yX10_mid yX10_mid ∈ twl := twl_of 651 rfl rfl
set_option maxRecDepth 20000 in
theorem imX10_lots : Cond.instanceMethod yX10_lots ∈ twl := twl_of 654 rfl rfl
set_option maxRecDepth 20000 in
theorem slX10_lots : Cond.selects RX10 yX10_lots yX10_lots ∈ twl := twl_of 655 rfl rfl
set_option maxRecDepth 20000 in
theorem imX10_deedByLot : Cond.instanceMethod yX10_deedByLot ∈ twl := twl_of 661 rfl rfl
set_option maxRecDepth 20000 in
theorem slX10_deedByLot : Cond.selects RX10 yX10_deedByLot yX10_deedByLot ∈ twl := twl_of 23 rfl rfl
set_option maxRecDepth 20000 in
theorem imX10_asked : Cond.instanceMethod yX10_asked ∈ twl := twl_of 666 rfl rfl
set_option maxRecDepth 20000 in
theorem slX10_asked : Cond.selects RX10 yX10_asked yX10_asked ∈ twl := twl_of 667 rfl rfl
set_option maxRecDepth 20000 in
theorem imX10_upper : Cond.instanceMethod yX10_upper ∈ twl := twl_of 670 rfl rfl
set_option maxRecDepth 20000 in
theorem slX10_upper : Cond.selects RX10 yX10_upper yX10_upper ∈ twl := twl_of 671 rfl rfl
set_option maxRecDepth 20000 in
theorem imX10_lower : Cond.instanceMethod yX10_lower ∈ twl := twl_of 674 rfl rfl
set_option maxRecDepth 20000 in
theorem slX10_lower : Cond.selects RX10 yX10_lower yX10_lower ∈ twl := twl_of 675 rfl rfl
set_option maxRecDepth 20000 in
theorem imX10_count : Cond.instanceMethod yX10_count ∈ twl := twl_of 678 rfl rfl
set_option maxRecDepth 20000 in
theorem slX10_count : Cond.selects RX10 yX10_count yX10_count ∈ twl := twl_of 679 rfl rfl
set_option maxRecDepth 20000 in
theorem stX10_howManyThere : Cond.static yX10_howManyThere ∈ twl := twl_of 682 rfl rfl
set_option maxRecDepth 20000 in
theorem imX10_howManyKept : Cond.instanceMethod yX10_howManyKept ∈ twl := twl_of 686 rfl rfl
set_option maxRecDepth 20000 in
theorem slX10_howManyKept : Cond.selects RX10 yX10_howManyKept yX10_howManyKept ∈ twl := twl_of 24 rfl rfl
set_option maxRecDepth 20000 in
theorem imX10_howManyOf : Cond.instanceMethod yX10_howManyOf ∈ twl := twl_of 690 rfl rfl
set_option maxRecDepth 20000 in
theorem slX10_howManyOf : Cond.selects RX10 yX10_howManyOf yX10_howManyOf ∈ twl := twl_of 25 rfl rfl
set_option maxRecDepth 20000 in
theorem imX10_finding : Cond.instanceMethod yX10_finding ∈ twl := twl_of 693 rfl rfl
set_option maxRecDepth 20000 in
theorem slX10_finding : Cond.selects RX10 yX10_finding yX10_finding ∈ twl := twl_of 694 rfl rfl
set_option maxRecDepth 20000 in
theorem imX10_findings : Cond.instanceMethod yX10_findings ∈ twl := twl_of 697 rfl rfl
set_option maxRecDepth 20000 in
theorem slX10_findings : Cond.selects RX10 yX10_findings yX10_findings ∈ twl := twl_of 698 rfl rfl
set_option maxRecDepth 20000 in
theorem imX10_digest : Cond.instanceMethod yX10_digest ∈ twl := twl_of 701 rfl rfl
set_option maxRecDepth 20000 in
theorem slX10_digest : Cond.selects RX10 yX10_digest yX10_digest ∈ twl := twl_of 702 rfl rfl
set_option maxRecDepth 20000 in
theorem stX10_withStrips : Cond.static yX10_withStrips ∈ twl := twl_of 708 rfl rfl
set_option maxRecDepth 20000 in
theorem imX11_init : Cond.instanceMethod yX11_init ∈ twl := twl_of 713 rfl rfl
set_option maxRecDepth 20000 in
theorem imX11_row : Cond.instanceMethod yX11_row ∈ twl := twl_of 790 rfl rfl
set_option maxRecDepth 20000 in
theorem slX11_row : Cond.selects RX11 yX11_row yX11_row ∈ twl := twl_of 791 rfl rfl
set_option maxRecDepth 20000 in
theorem stX11_isRow : Cond.static yX11_isRow ∈ twl := twl_of 794 rfl rfl
set_option maxRecDepth 20000 in
theorem stX11_in : Cond.static yX11_in ∈ twl := twl_of 798 rfl rfl
set_option maxRecDepth 20000 in
theorem imX11_finds : Cond.instanceMethod yX11_finds ∈ twl := twl_of 802 rfl rfl
set_option maxRecDepth 20000 in
theorem slX11_finds : Cond.selects RX11 yX11_finds yX11_finds ∈ twl := twl_of 26 rfl rfl
set_option maxRecDepth 20000 in
theorem imX11_lay : Cond.instanceMethod yX11_lay ∈ twl := twl_of 805 rfl rfl
set_option maxRecDepth 20000 in
theorem slX11_lay : Cond.selects RX11 yX11_lay yX11_lay ∈ twl := twl_of 806 rfl rfl
set_option maxRecDepth 20000 in
theorem imX11_tells : Cond.instanceMethod yX11_tells ∈ twl := twl_of 810 rfl rfl
set_option maxRecDepth 20000 in
theorem slX11_tells : Cond.selects RX11 yX11_tells yX11_tells ∈ twl := twl_of 27 rfl rfl
set_option maxRecDepth 20000 in
theorem imX11_at : Cond.instanceMethod yX11_at ∈ twl := twl_of 813 rfl rfl
set_option maxRecDepth 20000 in
theorem slX11_at : Cond.selects RX11 yX11_at yX11_at ∈ twl := twl_of 814 rfl rfl
set_option maxRecDepth 20000 in
theorem imX11_tear : Cond.instanceMethod yX11_tear ∈ twl := twl_of 817 rfl rfl
set_option maxRecDepth 20000 in
theorem slX11_tear : Cond.selects RX11 yX11_tear yX11_tear ∈ twl := twl_of 818 rfl rfl
set_option maxRecDepth 20000 in
theorem imX11_copy : Cond.instanceMethod yX11_copy ∈ twl := twl_of 821 rfl rfl
set_option maxRecDepth 20000 in
theorem slX11_copy : Cond.selects RX11 yX11_copy yX11_copy ∈ twl := twl_of 822 rfl rfl
set_option maxRecDepth 20000 in
theorem imX11_mean : Cond.instanceMethod yX11_mean ∈ twl := twl_of 825 rfl rfl
set_option maxRecDepth 20000 in
theorem slX11_mean : Cond.selects RX11 yX11_mean yX11_mean ∈ twl := twl_of 826 rfl rfl
set_option maxRecDepth 20000 in
theorem imX11_text : Cond.instanceMethod yX11_text ∈ twl := twl_of 829 rfl rfl
set_option maxRecDepth 20000 in
theorem slX11_text : Cond.selects RX11 yX11_text yX11_text ∈ twl := twl_of 830 rfl rfl
set_option maxRecDepth 20000 in
theorem stX11_isText : Cond.static yX11_isText ∈ twl := twl_of 833 rfl rfl
set_option maxRecDepth 20000 in
theorem imX11_put : Cond.instanceMethod yX11_put ∈ twl := twl_of 837 rfl rfl
set_option maxRecDepth 20000 in
theorem slX11_put : Cond.selects RX11 yX11_put yX11_put ∈ twl := twl_of 838 rfl rfl
set_option maxRecDepth 20000 in
theorem imX11_fault : Cond.instanceMethod yX11_fault ∈ twl := twl_of 841 rfl rfl
set_option maxRecDepth 20000 in
theorem slX11_fault : Cond.selects RX11 yX11_fault yX11_fault ∈ twl := twl_of 842 rfl rfl
set_option maxRecDepth 20000 in
theorem imX11_faultOf : Cond.instanceMethod yX11_faultOf ∈ twl := twl_of 846 rfl rfl
set_option maxRecDepth 20000 in
theorem slX11_faultOf : Cond.selects RX11 yX11_faultOf yX11_faultOf ∈ twl := twl_of 28 rfl rfl
set_option maxRecDepth 20000 in
theorem imX11_here : Cond.instanceMethod yX11_here ∈ twl := twl_of 850 rfl rfl
set_option maxRecDepth 20000 in
theorem slX11_here : Cond.selects RX11 yX11_here yX11_here ∈ twl := twl_of 29 rfl rfl
set_option maxRecDepth 20000 in
theorem imX11_takesRod : Cond.instanceMethod yX11_takesRod ∈ twl := twl_of 854 rfl rfl
set_option maxRecDepth 20000 in
theorem slX11_takesRod : Cond.selects RX11 yX11_takesRod yX11_takesRod ∈ twl := twl_of 30 rfl rfl
set_option maxRecDepth 20000 in
theorem stX11_kindOf : Cond.static yX11_kindOf ∈ twl := twl_of 857 rfl rfl
set_option maxRecDepth 20000 in
theorem imX11_box : Cond.instanceMethod yX11_box ∈ twl := twl_of 861 rfl rfl
set_option maxRecDepth 20000 in
theorem slX11_box : Cond.selects RX11 yX11_box yX11_box ∈ twl := twl_of 862 rfl rfl
set_option maxRecDepth 20000 in
theorem imX11_rod : Cond.instanceMethod yX11_rod ∈ twl := twl_of 865 rfl rfl
set_option maxRecDepth 20000 in
theorem slX11_rod : Cond.selects RX11 yX11_rod yX11_rod ∈ twl := twl_of 866 rfl rfl
set_option maxRecDepth 20000 in
theorem imX11_isRod : Cond.instanceMethod yX11_isRod ∈ twl := twl_of 870 rfl rfl
set_option maxRecDepth 20000 in
theorem slX11_isRod : Cond.selects RX11 yX11_isRod yX11_isRod ∈ twl := twl_of 31 rfl rfl
set_option maxRecDepth 20000 in
theorem imX11_rodOf : Cond.instanceMethod yX11_rodOf ∈ twl := twl_of 875 rfl rfl
set_option maxRecDepth 20000 in
theorem slX11_rodOf : Cond.selects RX11 yX11_rodOf yX11_rodOf ∈ twl := twl_of 32 rfl rfl
set_option maxRecDepth 20000 in
theorem imX11_digitOf : Cond.instanceMethod yX11_digitOf ∈ twl := twl_of 879 rfl rfl
set_option maxRecDepth 20000 in
theorem slX11_digitOf : Cond.selects RX11 yX11_digitOf yX11_digitOf ∈ twl := twl_of 33 rfl rfl
set_option maxRecDepth 20000 in
theorem stX11_has : Cond.static yX11_has ∈ twl := twl_of 882 rfl rfl
set_option maxRecDepth 20000 in
theorem imX11_placeOf : Cond.instanceMethod yX11_placeOf ∈ twl := twl_of 886 rfl rfl
set_option maxRecDepth 20000 in
theorem slX11_placeOf : Cond.selects RX11 yX11_placeOf yX11_placeOf ∈ twl := twl_of 34 rfl rfl
set_option maxRecDepth 20000 in
theorem imX11_mark : Cond.instanceMethod yX11_mark ∈ twl := twl_of 889 rfl rfl
set_option maxRecDepth 20000 in
theorem slX11_mark : Cond.selects RX11 yX11_mark yX11_mark ∈ twl := twl_of 890 rfl rfl
set_option maxRecDepth 20000 in
theorem stX11_isA : Cond.static yX11_isA ∈ twl := twl_of 893 rfl rfl
set_option maxRecDepth 20000 in
theorem imX11_linesAgainst : Cond.instanceMethod yX11_linesAgainst ∈ twl := twl_of 897 rfl rfl
set_option maxRecDepth 20000 in
theorem slX11_linesAgainst : Cond.selects RX11 yX11_linesAgainst yX11_linesAgainst ∈ twl := twl_of 35 rfl rfl
set_option maxRecDepth 20000 in
theorem imX11_showsOf : Cond.instanceMethod yX11_showsOf ∈ twl := twl_of 901 rfl rfl
set_option maxRecDepth 20000 in
theorem slX11_showsOf : Cond.selects RX11 yX11_showsOf yX11_showsOf ∈ twl := twl_of 36 rfl rfl
set_option maxRecDepth 20000 in
theorem stX11_showsBy : Cond.static yX11_showsBy ∈ twl := twl_of 904 rfl rfl
set_option maxRecDepth 20000 in
theorem stX11_worn : Cond.static yX11_worn ∈ twl := twl_of 907 rfl rfl
set_option maxRecDepth 20000 in
theorem imX11_shows : Cond.instanceMethod yX11_shows ∈ twl := twl_of 910 rfl rfl
set_option maxRecDepth 20000 in
theorem slX11_shows : Cond.selects RX11 yX11_shows yX11_shows ∈ twl := twl_of 911 rfl rfl
set_option maxRecDepth 20000 in
theorem stX11_isLine : Cond.static yX11_isLine ∈ twl := twl_of 914 rfl rfl
set_option maxRecDepth 20000 in
theorem imX11_laid : Cond.instanceMethod yX11_laid ∈ twl := twl_of 917 rfl rfl
set_option maxRecDepth 20000 in
theorem slX11_laid : Cond.selects RX11 yX11_laid yX11_laid ∈ twl := twl_of 918 rfl rfl
set_option maxRecDepth 20000 in
theorem imX11_minds : Cond.instanceMethod yX11_minds ∈ twl := twl_of 922 rfl rfl
set_option maxRecDepth 20000 in
theorem slX11_minds : Cond.selects RX11 yX11_minds yX11_minds ∈ twl := twl_of 37 rfl rfl
set_option maxRecDepth 20000 in
theorem imX11_lays : Cond.instanceMethod yX11_lays ∈ twl := twl_of 926 rfl rfl
set_option maxRecDepth 20000 in
theorem slX11_lays : Cond.selects RX11 yX11_lays yX11_lays ∈ twl := twl_of 38 rfl rfl
set_option maxRecDepth 20000 in
theorem imX11_lift : Cond.instanceMethod yX11_lift ∈ twl := twl_of 929 rfl rfl
set_option maxRecDepth 20000 in
theorem slX11_lift : Cond.selects RX11 yX11_lift yX11_lift ∈ twl := twl_of 930 rfl rfl
set_option maxRecDepth 20000 in
theorem imX11_lifts : Cond.instanceMethod yX11_lifts ∈ twl := twl_of 934 rfl rfl
set_option maxRecDepth 20000 in
theorem slX11_lifts : Cond.selects RX11 yX11_lifts yX11_lifts ∈ twl := twl_of 39 rfl rfl
set_option maxRecDepth 20000 in
theorem imX11_change : Cond.instanceMethod yX11_change ∈ twl := twl_of 937 rfl rfl
set_option maxRecDepth 20000 in
theorem slX11_change : Cond.selects RX11 yX11_change yX11_change ∈ twl := twl_of 938 rfl rfl
set_option maxRecDepth 20000 in
theorem imX11_over : Cond.instanceMethod yX11_over ∈ twl := twl_of 941 rfl rfl
set_option maxRecDepth 20000 in
theorem slX11_over : Cond.selects RX11 yX11_over yX11_over ∈ twl := twl_of 942 rfl rfl
set_option maxRecDepth 20000 in
theorem imX11_undo : Cond.instanceMethod yX11_undo ∈ twl := twl_of 945 rfl rfl
set_option maxRecDepth 20000 in
theorem slX11_undo : Cond.selects RX11 yX11_undo yX11_undo ∈ twl := twl_of 946 rfl rfl
set_option maxRecDepth 20000 in
theorem imX11_keep : Cond.instanceMethod yX11_keep ∈ twl := twl_of 949 rfl rfl
set_option maxRecDepth 20000 in
theorem slX11_keep : Cond.selects RX11 yX11_keep yX11_keep ∈ twl := twl_of 950 rfl rfl
set_option maxRecDepth 20000 in
theorem imX11_bring : Cond.instanceMethod yX11_bring ∈ twl := twl_of 955 rfl rfl
set_option maxRecDepth 20000 in
theorem slX11_bring : Cond.selects RX11 yX11_bring yX11_bring ∈ twl := twl_of 40 rfl rfl
set_option maxRecDepth 20000 in
theorem imX11_on : Cond.instanceMethod yX11_on ∈ twl := twl_of 958 rfl rfl
set_option maxRecDepth 20000 in
theorem slX11_on : Cond.selects RX11 yX11_on yX11_on ∈ twl := twl_of 959 rfl rfl
set_option maxRecDepth 20000 in
theorem imX11_reads : Cond.instanceMethod yX11_reads ∈ twl := twl_of 962 rfl rfl
set_option maxRecDepth 20000 in
theorem slX11_reads : Cond.selects RX11 yX11_reads yX11_reads ∈ twl := twl_of 963 rfl rfl
set_option maxRecDepth 20000 in
theorem imX11_rightBy : Cond.instanceMethod yX11_rightBy ∈ twl := twl_of 967 rfl rfl
set_option maxRecDepth 20000 in
theorem slX11_rightBy : Cond.selects RX11 yX11_rightBy yX11_rightBy ∈ twl := twl_of 41 rfl rfl
set_option maxRecDepth 20000 in
theorem imX11_readBy : Cond.instanceMethod yX11_readBy ∈ twl := twl_of 971 rfl rfl
set_option maxRecDepth 20000 in
theorem slX11_readBy : Cond.selects RX11 yX11_readBy yX11_readBy ∈ twl := twl_of 42 rfl rfl
set_option maxRecDepth 20000 in
theorem imX11_wrong : Cond.instanceMethod yX11_wrong ∈ twl := twl_of 974 rfl rfl
set_option maxRecDepth 20000 in
theorem slX11_wrong : Cond.selects RX11 yX11_wrong yX11_wrong ∈ twl := twl_of 975 rfl rfl
set_option maxRecDepth 20000 in
theorem imX11_carries : Cond.instanceMethod yX11_carries ∈ twl := twl_of 978 rfl rfl
set_option maxRecDepth 20000 in
theorem slX11_carries : Cond.selects RX11 yX11_carries yX11_carries ∈ twl := twl_of 979 rfl rfl
set_option maxRecDepth 20000 in
theorem imX11_makes : Cond.instanceMethod yX11_makes ∈ twl := twl_of 982 rfl rfl
set_option maxRecDepth 20000 in
theorem slX11_makes : Cond.selects RX11 yX11_makes yX11_makes ∈ twl := twl_of 983 rfl rfl
set_option maxRecDepth 20000 in
theorem imX11_goesNext : Cond.instanceMethod yX11_goesNext ∈ twl := twl_of 988 rfl rfl
set_option maxRecDepth 20000 in
theorem slX11_goesNext : Cond.selects RX11 yX11_goesNext yX11_goesNext ∈ twl := twl_of 43 rfl rfl
set_option maxRecDepth 20000 in
theorem imX11_keeps : Cond.instanceMethod yX11_keeps ∈ twl := twl_of 992 rfl rfl
set_option maxRecDepth 20000 in
theorem slX11_keeps : Cond.selects RX11 yX11_keeps yX11_keeps ∈ twl := twl_of 44 rfl rfl
set_option maxRecDepth 20000 in
theorem imX11_laysBest : Cond.instanceMethod yX11_laysBest ∈ twl := twl_of 996 rfl rfl
set_option maxRecDepth 20000 in
theorem slX11_laysBest : Cond.selects RX11 yX11_laysBest yX11_laysBest ∈ twl := twl_of 45 rfl rfl
set_option maxRecDepth 20000 in
theorem imX11_most : Cond.instanceMethod yX11_most ∈ twl := twl_of 999 rfl rfl
set_option maxRecDepth 20000 in
theorem slX11_most : Cond.selects RX11 yX11_most yX11_most ∈ twl := twl_of 1000 rfl rfl
set_option maxRecDepth 20000 in
theorem imX11_near : Cond.instanceMethod yX11_near ∈ twl := twl_of 1003 rfl rfl
set_option maxRecDepth 20000 in
theorem slX11_near : Cond.selects RX11 yX11_near yX11_near ∈ twl := twl_of 1004 rfl rfl
set_option maxRecDepth 20000 in
theorem imX11_digits : Cond.instanceMethod yX11_digits ∈ twl := twl_of 1009 rfl rfl
set_option maxRecDepth 20000 in
theorem slX11_digits : Cond.selects RX11 yX11_digits yX11_digits ∈ twl := twl_of 1010 rfl rfl
set_option maxRecDepth 20000 in
theorem imX11_againstPairs : Cond.instanceMethod yX11_againstPairs ∈ twl := twl_of 1014 rfl rfl
set_option maxRecDepth 20000 in
theorem slX11_againstPairs : Cond.selects RX11 yX11_againstPairs yX11_againstPairs ∈ twl := twl_of 46 rfl rfl
set_option maxRecDepth 20000 in
theorem imX11_showedSo : Cond.instanceMethod yX11_showedSo ∈ twl := twl_of 1019 rfl rfl
set_option maxRecDepth 20000 in
theorem slX11_showedSo : Cond.selects RX11 yX11_showedSo yX11_showedSo ∈ twl := twl_of 47 rfl rfl
set_option maxRecDepth 20000 in
theorem imX11_kinds : Cond.instanceMethod yX11_kinds ∈ twl := twl_of 1022 rfl rfl
set_option maxRecDepth 20000 in
theorem slX11_kinds : Cond.selects RX11 yX11_kinds yX11_kinds ∈ twl := twl_of 1023 rfl rfl
set_option maxRecDepth 20000 in
theorem imX11_kindsOf : Cond.instanceMethod yX11_kindsOf ∈ twl := twl_of 1027 rfl rfl
set_option maxRecDepth 20000 in
theorem slX11_kindsOf : Cond.selects RX11 yX11_kindsOf yX11_kindsOf ∈ twl := twl_of 48 rfl rfl
set_option maxRecDepth 20000 in
theorem imX11_test : Cond.instanceMethod yX11_test ∈ twl := twl_of 1030 rfl rfl
set_option maxRecDepth 20000 in
theorem slX11_test : Cond.selects RX11 yX11_test yX11_test ∈ twl := twl_of 1031 rfl rfl
set_option maxRecDepth 20000 in
theorem imX11_other : Cond.instanceMethod yX11_other ∈ twl := twl_of 1034 rfl rfl
set_option maxRecDepth 20000 in
theorem slX11_other : Cond.selects RX11 yX11_other yX11_other ∈ twl := twl_of 1035 rfl rfl
set_option maxRecDepth 20000 in
theorem imX11_readWith : Cond.instanceMethod yX11_readWith ∈ twl := twl_of 1039 rfl rfl
set_option maxRecDepth 20000 in
theorem slX11_readWith : Cond.selects RX11 yX11_readWith yX11_readWith ∈ twl := twl_of 49 rfl rfl
set_option maxRecDepth 20000 in
theorem imX11_duel : Cond.instanceMethod yX11_duel ∈ twl := twl_of 1042 rfl rfl
set_option maxRecDepth 20000 in
theorem slX11_duel : Cond.selects RX11 yX11_duel yX11_duel ∈ twl := twl_of 1043 rfl rfl
set_option maxRecDepth 20000 in
theorem imX11_isLaidOr : Cond.instanceMethod yX11_isLaidOr ∈ twl := twl_of 1047 rfl rfl
set_option maxRecDepth 20000 in
theorem slX11_isLaidOr : Cond.selects RX11 yX11_isLaidOr yX11_isLaidOr ∈ twl := twl_of 50 rfl rfl
set_option maxRecDepth 20000 in
theorem imX11_odds : Cond.instanceMethod yX11_odds ∈ twl := twl_of 1050 rfl rfl
set_option maxRecDepth 20000 in
theorem slX11_odds : Cond.selects RX11 yX11_odds yX11_odds ∈ twl := twl_of 1051 rfl rfl
set_option maxRecDepth 20000 in
theorem imX11_chance : Cond.instanceMethod yX11_chance ∈ twl := twl_of 1055 rfl rfl
set_option maxRecDepth 20000 in
theorem slX11_chance : Cond.selects RX11 yX11_chance yX11_chance ∈ twl := twl_of 51 rfl rfl
set_option maxRecDepth 20000 in
theorem imX11_readWithout : Cond.instanceMethod yX11_readWithout ∈ twl := twl_of 1060 rfl rfl
set_option maxRecDepth 20000 in
theorem slX11_readWithout : Cond.selects RX11 yX11_readWithout yX11_readWithout ∈ twl := twl_of 52 rfl rfl
set_option maxRecDepth 20000 in
theorem imX11_tellsPart : Cond.instanceMethod yX11_tellsPart ∈ twl := twl_of 1064 rfl rfl
set_option maxRecDepth 20000 in
theorem slX11_tellsPart : Cond.selects RX11 yX11_tellsPart yX11_tellsPart ∈ twl := twl_of 53 rfl rfl
set_option maxRecDepth 20000 in
theorem imX11_mid : Cond.instanceMethod yX11_mid ∈ twl := twl_of 1067 rfl rfl
set_option maxRecDepth 20000 in
theorem slX11_mid : Cond.selects RX11 yX11_mid yX11_mid ∈ twl := twl_of 1068 rfl rfl
set_option maxRecDepth 20000 in
theorem imX11_lots : Cond.instanceMethod yX11_lots ∈ twl := twl_of 1071 rfl rfl
set_option maxRecDepth 20000 in
theorem slX11_lots : Cond.selects RX11 yX11_lots yX11_lots ∈ twl := twl_of 1072 rfl rfl
set_option maxRecDepth 20000 in
theorem imX11_asked : Cond.instanceMethod yX11_asked ∈ twl := twl_of 1080 rfl rfl
set_option maxRecDepth 20000 in
theorem slX11_asked : Cond.selects RX11 yX11_asked yX11_asked ∈ twl := twl_of 1081 rfl rfl
set_option maxRecDepth 20000 in
theorem imX11_upper : Cond.instanceMethod yX11_upper ∈ twl := twl_of 1084 rfl rfl
set_option maxRecDepth 20000 in
theorem slX11_upper : Cond.selects RX11 yX11_upper yX11_upper ∈ twl := twl_of 1085 rfl rfl
set_option maxRecDepth 20000 in
theorem imX11_lower : Cond.instanceMethod yX11_lower ∈ twl := twl_of 1088 rfl rfl
set_option maxRecDepth 20000 in
theorem slX11_lower : Cond.selects RX11 yX11_lower yX11_lower ∈ twl := twl_of 1089 rfl rfl
set_option maxRecDepth 20000 in
theorem imX11_count : Cond.instanceMethod yX11_count ∈ twl := twl_of 1092 rfl rfl
set_option maxRecDepth 20000 in
theorem slX11_count : Cond.selects RX11 yX11_count yX11_count ∈ twl := twl_of 1093 rfl rfl
set_option maxRecDepth 20000 in
theorem imX11_framed : Cond.instanceMethod yX11_framed ∈ twl := twl_of 1097 rfl rfl
set_option maxRecDepth 20000 in
theorem slX11_framed : Cond.selects RX11 yX11_framed yX11_framed ∈ twl := twl_of 54 rfl rfl
set_option maxRecDepth 20000 in
theorem imX11_rowsThere : Cond.instanceMethod yX11_rowsThere ∈ twl := twl_of 1101 rfl rfl
set_option maxRecDepth 20000 in
theorem slX11_rowsThere : Cond.selects RX11 yX11_rowsThere yX11_rowsThere ∈ twl := twl_of 55 rfl rfl
set_option maxRecDepth 20000 in
theorem imX11_textsThere : Cond.instanceMethod yX11_textsThere ∈ twl := twl_of 1105 rfl rfl
set_option maxRecDepth 20000 in
theorem slX11_textsThere : Cond.selects RX11 yX11_textsThere yX11_textsThere ∈ twl := twl_of 56 rfl rfl
set_option maxRecDepth 20000 in
theorem imX11_boxesKept : Cond.instanceMethod yX11_boxesKept ∈ twl := twl_of 1109 rfl rfl
set_option maxRecDepth 20000 in
theorem slX11_boxesKept : Cond.selects RX11 yX11_boxesKept yX11_boxesKept ∈ twl := twl_of 57 rfl rfl
set_option maxRecDepth 20000 in
theorem imX11_manyOf : Cond.instanceMethod yX11_manyOf ∈ twl := twl_of 1113 rfl rfl
set_option maxRecDepth 20000 in
theorem slX11_manyOf : Cond.selects RX11 yX11_manyOf yX11_manyOf ∈ twl := twl_of 58 rfl rfl
set_option maxRecDepth 20000 in
theorem imX11_finding : Cond.instanceMethod yX11_finding ∈ twl := twl_of 1116 rfl rfl
set_option maxRecDepth 20000 in
theorem slX11_finding : Cond.selects RX11 yX11_finding yX11_finding ∈ twl := twl_of 1117 rfl rfl
set_option maxRecDepth 20000 in
theorem imX11_findings : Cond.instanceMethod yX11_findings ∈ twl := twl_of 1120 rfl rfl
set_option maxRecDepth 20000 in
theorem slX11_findings : Cond.selects RX11 yX11_findings yX11_findings ∈ twl := twl_of 1121 rfl rfl
set_option maxRecDepth 20000 in
theorem imX11_digest : Cond.instanceMethod yX11_digest ∈ twl := twl_of 1124 rfl rfl
set_option maxRecDepth 20000 in
theorem slX11_digest : Cond.selects RX11 yX11_digest yX11_digest ∈ twl := twl_of 1125 rfl rfl
set_option maxRecDepth 20000 in
theorem imX11_mix : Cond.instanceMethod yX11_mix ∈ twl := twl_of 1131 rfl rfl
set_option maxRecDepth 20000 in
theorem slX11_mix : Cond.selects RX11 yX11_mix yX11_mix ∈ twl := twl_of 59 rfl rfl
set_option maxRecDepth 20000 in
theorem wkL_13 : WV RL 13 mX10_row 2 := ⟨twl_of 271 rfl rfl, imX10_row, slX10_row, izX10, kcX10_row, ⟨by decide +kernel, by decide +kernel, by decide +kernel⟩, by decide⟩
set_option maxRecDepth 20000 in
theorem wkX10_76 : WS RX10 76 mX10_isRow 1 := ⟨twl_of 275 rfl rfl, stX10_isRow, izX10, kcX10_isRow, ⟨by decide +kernel, by decide +kernel, by decide +kernel⟩, by decide⟩
set_option maxRecDepth 20000 in
theorem wkX10_80 : WV RX10 80 mX10_found 1 := ⟨twl_of 278 rfl rfl, imX10_found, slX10_found, izX10, kcX10_found, ⟨by decide +kernel, by decide +kernel, by decide +kernel⟩, by decide⟩
set_option maxRecDepth 20000 in
theorem wkX10_84 : WV RX10 84 mX7_make 2 := ⟨twl_of 282 rfl rfl, imX7_make, slX7_make, izX7, kcX7_make, ⟨by decide +kernel, by decide +kernel, by decide +kernel⟩, by decide⟩
set_option maxRecDepth 20000 in
theorem wkL_18 : WV RL 18 mX10_lay 3 := ⟨twl_of 286 rfl rfl, imX10_lay, slX10_lay, izX10, kcX10_lay, ⟨by decide +kernel, by decide +kernel, by decide +kernel⟩, by decide⟩
set_option maxRecDepth 20000 in
theorem wkX10_88 : WS RX10 88 mX10_unfitPlace 2 := ⟨twl_of 290 rfl rfl, stX10_unfitPlace, izX10, kcX10_unfitPlace, ⟨by decide +kernel, by decide +kernel, by decide +kernel⟩, by decide⟩
set_option maxRecDepth 20000 in
theorem wkX10_99 : WV RX10 99 mX7_isThere 0 := ⟨twl_of 293 rfl rfl, imX7_isThere, slX7_isThere, izX7, kcX7_isThere, ⟨by decide +kernel, by decide +kernel, by decide +kernel⟩, by decide⟩
set_option maxRecDepth 20000 in
theorem wkX10_106 : WV RX10 106 mX7_holds 2 := ⟨twl_of 297 rfl rfl, imX7_holds, slX7_holds, izX7, kcX7_holds, ⟨by decide +kernel, by decide +kernel, by decide +kernel⟩, by decide⟩
set_option maxRecDepth 20000 in
theorem wkL_23 : WV RL 23 mX10_at 2 := ⟨twl_of 301 rfl rfl, imX10_at, slX10_at, izX10, kcX10_at, ⟨by decide +kernel, by decide +kernel, by decide +kernel⟩, by decide⟩
set_option maxRecDepth 20000 in
theorem wkL_27 : WV RL 27 mX10_tear 1 := ⟨twl_of 305 rfl rfl, imX10_tear, slX10_tear, izX10, kcX10_tear, ⟨by decide +kernel, by decide +kernel, by decide +kernel⟩, by decide⟩
set_option maxRecDepth 20000 in
theorem wkL_32 : WV RL 32 mX10_copy 5 := ⟨twl_of 309 rfl rfl, imX10_copy, slX10_copy, izX10, kcX10_copy, ⟨by decide +kernel, by decide +kernel, by decide +kernel⟩, by decide⟩
set_option maxRecDepth 20000 in
theorem wkX10_110 : WCopy RX10 110 := ⟨twl_of 313 rfl rfl, twl_of 315 rfl rfl, twl_of 314 rfl rfl, twl_of 73 rfl rfl⟩
set_option maxRecDepth 20000 in
theorem wkL_37 : WV RL 37 mX10_mean 1 := ⟨twl_of 316 rfl rfl, imX10_mean, slX10_mean, izX10, kcX10_mean, ⟨by decide +kernel, by decide +kernel, by decide +kernel⟩, by decide⟩
set_option maxRecDepth 20000 in
theorem wkL_41 : WV RL 41 mX10_text 2 := ⟨twl_of 320 rfl rfl, imX10_text, slX10_text, izX10, kcX10_text, ⟨by decide +kernel, by decide +kernel, by decide +kernel⟩, by decide⟩
set_option maxRecDepth 20000 in
theorem wkX10_116 : WS RX10 116 mX10_isText 1 := ⟨twl_of 324 rfl rfl, stX10_isText, izX10, kcX10_isText, ⟨by decide +kernel, by decide +kernel, by decide +kernel⟩, by decide⟩
set_option maxRecDepth 20000 in
theorem wkL_45 : WV RL 45 mX10_put 3 := ⟨twl_of 327 rfl rfl, imX10_put, slX10_put, izX10, kcX10_put, ⟨by decide +kernel, by decide +kernel, by decide +kernel⟩, by decide⟩
set_option maxRecDepth 20000 in
theorem wkL_49 : WV RL 49 mX10_fault 1 := ⟨twl_of 331 rfl rfl, imX10_fault, slX10_fault, izX10, kcX10_fault, ⟨by decide +kernel, by decide +kernel, by decide +kernel⟩, by decide⟩
set_option maxRecDepth 20000 in
theorem wkX10_119 : WS RX10 119 mX10_firstFault 1 := ⟨twl_of 335 rfl rfl, stX10_firstFault, izX10, kcX10_firstFault, ⟨by decide +kernel, by decide +kernel, by decide +kernel⟩, by decide⟩
set_option maxRecDepth 20000 in
theorem wkX10_321 : WS RX10 321 mX10_isFigure 1 := ⟨twl_of 338 rfl rfl, stX10_isFigure, izX10, kcX10_isFigure, ⟨by decide +kernel, by decide +kernel, by decide +kernel⟩, by decide⟩
set_option maxRecDepth 20000 in
theorem wkX10_324 : WS RX10 324 mX10_kindByLetter 1 := ⟨twl_of 341 rfl rfl, stX10_kindByLetter, izX10, kcX10_kindByLetter, ⟨by decide +kernel, by decide +kernel, by decide +kernel⟩, by decide⟩
set_option maxRecDepth 20000 in
theorem wkL_53 : WV RL 53 mX10_box 1 := ⟨twl_of 346 rfl rfl, imX10_box, slX10_box, izX10, kcX10_box, ⟨by decide +kernel, by decide +kernel, by decide +kernel⟩, by decide⟩
set_option maxRecDepth 20000 in
theorem wkX10_123 : WV RX10 123 mX10_fillBox 1 := ⟨twl_of 350 rfl rfl, imX10_fillBox, slX10_fillBox, izX10, kcX10_fillBox, ⟨by decide +kernel, by decide +kernel, by decide +kernel⟩, by decide⟩
set_option maxRecDepth 20000 in
theorem wkX10_127 : WV RX10 127 mX0_clear 0 := ⟨twl_of 354 rfl rfl, imX0_clear, slX0_clear, izX0, kcX0_clear, ⟨by decide +kernel, by decide +kernel, by decide +kernel⟩, by decide⟩
set_option maxRecDepth 20000 in
theorem wkL_57 : WV RL 57 mX10_rod 2 := ⟨twl_of 358 rfl rfl, imX10_rod, slX10_rod, izX10, kcX10_rod, ⟨by decide +kernel, by decide +kernel, by decide +kernel⟩, by decide⟩
set_option maxRecDepth 20000 in
theorem wkX10_137 : WV RX10 137 mX10_isRod 1 := ⟨twl_of 362 rfl rfl, imX10_isRod, slX10_isRod, izX10, kcX10_isRod, ⟨by decide +kernel, by decide +kernel, by decide +kernel⟩, by decide⟩
set_option maxRecDepth 20000 in
theorem wkX10_140 : WV RX10 140 mX10_ofRod 2 := ⟨twl_of 366 rfl rfl, imX10_ofRod, slX10_ofRod, izX10, kcX10_ofRod, ⟨by decide +kernel, by decide +kernel, by decide +kernel⟩, by decide⟩
set_option maxRecDepth 20000 in
theorem wkX10_188 : WV RX10 188 mX10_digitNow 1 := ⟨twl_of 370 rfl rfl, imX10_digitNow, slX10_digitNow, izX10, kcX10_digitNow, ⟨by decide +kernel, by decide +kernel, by decide +kernel⟩, by decide⟩
set_option maxRecDepth 20000 in
theorem wkX10_333 : WV RX10 333 mX0_isOver 1 := ⟨twl_of 374 rfl rfl, imX0_isOver, slX0_isOver, izX0, kcX0_isOver, ⟨by decide +kernel, by decide +kernel, by decide +kernel⟩, by decide⟩
set_option maxRecDepth 20000 in
theorem wkX10_165 : WV RX10 165 mX0_placeOf 1 := ⟨twl_of 378 rfl rfl, imX0_placeOf, slX0_placeOf, izX0, kcX0_placeOf, ⟨by decide +kernel, by decide +kernel, by decide +kernel⟩, by decide⟩
set_option maxRecDepth 20000 in
theorem wkL_61 : WV RL 61 mX10_mark 2 := ⟨twl_of 382 rfl rfl, imX10_mark, slX10_mark, izX10, kcX10_mark, ⟨by decide +kernel, by decide +kernel, by decide +kernel⟩, by decide⟩
set_option maxRecDepth 20000 in
theorem wkX10_148 : WS RX10 148 mX10_isOfKind 2 := ⟨twl_of 386 rfl rfl, stX10_isOfKind, izX10, kcX10_isOfKind, ⟨by decide +kernel, by decide +kernel, by decide +kernel⟩, by decide⟩
set_option maxRecDepth 20000 in
theorem wkX10_152 : WV RX10 152 mX10_linesApart 4 := ⟨twl_of 389 rfl rfl, imX10_linesApart, slX10_linesApart, izX10, kcX10_linesApart, ⟨by decide +kernel, by decide +kernel, by decide +kernel⟩, by decide⟩
set_option maxRecDepth 20000 in
theorem wkX10_162 : WV RX10 162 mX10_shownNow 2 := ⟨twl_of 393 rfl rfl, imX10_shownNow, slX10_shownNow, izX10, kcX10_shownNow, ⟨by decide +kernel, by decide +kernel, by decide +kernel⟩, by decide⟩
set_option maxRecDepth 20000 in
theorem wkX10_336_X3 : WO RX10 RX3 336 yX3_shown mX3_shown 3 := ⟨twl_of 397 rfl rfl, twl_of 400 rfl rfl, imX3_shown, ⟨_, _, _, kcX3_shown⟩, twl_of 399 rfl rfl, imX3_shown, izX3, kcX3_shown, ⟨by decide +kernel, by decide +kernel, by decide +kernel⟩, by decide⟩
set_option maxRecDepth 20000 in
theorem wkX10_336_X1 : WO RX10 RX1 336 yX3_shown mX9_shown 3 := ⟨twl_of 397 rfl rfl, twl_of 400 rfl rfl, imX3_shown, ⟨_, _, _, kcX3_shown⟩, twl_of 401 rfl rfl, imX9_shown, izX9, kcX9_shown, ⟨by decide +kernel, by decide +kernel, by decide +kernel⟩, by decide⟩
set_option maxRecDepth 20000 in
theorem wkX10_336_X2 : WO RX10 RX2 336 yX3_shown mX2_shown 3 := ⟨twl_of 397 rfl rfl, twl_of 400 rfl rfl, imX3_shown, ⟨_, _, _, kcX3_shown⟩, twl_of 414 rfl rfl, imX2_shown, izX2, kcX2_shown, ⟨by decide +kernel, by decide +kernel, by decide +kernel⟩, by decide⟩
set_option maxRecDepth 20000 in
theorem wkX10_336_X6 : WO RX10 RX6 336 yX3_shown mX6_shown 3 := ⟨twl_of 397 rfl rfl, twl_of 400 rfl rfl, imX3_shown, ⟨_, _, _, kcX3_shown⟩, twl_of 421 rfl rfl, imX6_shown, izX6, kcX6_shown, ⟨by decide +kernel, by decide +kernel, by decide +kernel⟩, by decide⟩
set_option maxRecDepth 20000 in
theorem wkX10_336_X8 : WO RX10 RX8 336 yX3_shown mX8_shown 3 := ⟨twl_of 397 rfl rfl, twl_of 400 rfl rfl, imX3_shown, ⟨_, _, _, kcX3_shown⟩, twl_of 425 rfl rfl, imX8_shown, izX8, kcX8_shown, ⟨by decide +kernel, by decide +kernel, by decide +kernel⟩, by decide⟩
set_option maxRecDepth 20000 in
theorem wkX10_336_X9 : WO RX10 RX9 336 yX3_shown mX9_shown 3 := ⟨twl_of 397 rfl rfl, twl_of 400 rfl rfl, imX3_shown, ⟨_, _, _, kcX3_shown⟩, twl_of 426 rfl rfl, imX9_shown, izX9, kcX9_shown, ⟨by decide +kernel, by decide +kernel, by decide +kernel⟩, by decide⟩
set_option maxRecDepth 20000 in
theorem wkX9_7 : WU RX9 7 mX3_shown 3 := ⟨twl_of 404 rfl rfl, twl_of 400 rfl rfl, twl_of 114 rfl rfl, imX3_shown, izX3, kcX3_shown, ⟨by decide +kernel, by decide +kernel⟩, by decide⟩
set_option maxRecDepth 20000 in
theorem wkX9_11_X9 : WO RX9 RX9 11 yX9_isWithoutTens mX9_isWithoutTens 2 := ⟨twl_of 405 rfl rfl, twl_of 408 rfl rfl, imX9_isWithoutTens, ⟨_, _, _, kcX9_isWithoutTens⟩, twl_of 407 rfl rfl, imX9_isWithoutTens, izX9, kcX9_isWithoutTens, ⟨by decide +kernel, by decide +kernel, by decide +kernel⟩, by decide⟩
set_option maxRecDepth 20000 in
theorem wkX9_11_X1 : WO RX9 RX1 11 yX9_isWithoutTens mX1_isWithoutTens 2 := ⟨twl_of 405 rfl rfl, twl_of 408 rfl rfl, imX9_isWithoutTens, ⟨_, _, _, kcX9_isWithoutTens⟩, twl_of 409 rfl rfl, imX1_isWithoutTens, izX1, kcX1_isWithoutTens, ⟨by decide +kernel, by decide +kernel, by decide +kernel⟩, by decide⟩
set_option maxRecDepth 20000 in
theorem wkX1_7 : WU RX1 7 mX9_isWithoutTens 2 := ⟨twl_of 412 rfl rfl, twl_of 408 rfl rfl, twl_of 135 rfl rfl, imX9_isWithoutTens, izX9, kcX9_isWithoutTens, ⟨by decide +kernel, by decide +kernel⟩, by decide⟩
set_option maxRecDepth 20000 in
theorem wkX2_7 : WU RX2 7 mX8_shown 3 := ⟨twl_of 417 rfl rfl, twl_of 1135 rfl rfl, twl_of 142 rfl rfl, imX8_shown, izX8, kcX8_shown, ⟨by decide +kernel, by decide +kernel⟩, by decide⟩
set_option maxRecDepth 20000 in
theorem wkX8_7 : WU RX8 7 mX3_shown 3 := ⟨twl_of 420 rfl rfl, twl_of 400 rfl rfl, twl_of 121 rfl rfl, imX3_shown, izX3, kcX3_shown, ⟨by decide +kernel, by decide +kernel⟩, by decide⟩
set_option maxRecDepth 20000 in
theorem wkX6_9 : WU RX6 9 mX3_shown 3 := ⟨twl_of 424 rfl rfl, twl_of 400 rfl rfl, twl_of 128 rfl rfl, imX3_shown, izX3, kcX3_shown, ⟨by decide +kernel, by decide +kernel⟩, by decide⟩
set_option maxRecDepth 20000 in
theorem wkX10_339 : WV RX10 339 mX10_shownAs 3 := ⟨twl_of 428 rfl rfl, imX10_shownAs, slX10_shownAs, izX10, kcX10_shownAs, ⟨by decide +kernel, by decide +kernel, by decide +kernel⟩, by decide⟩
set_option maxRecDepth 20000 in
theorem wkX10_156 : WV RX10 156 mX10_slidBy 1 := ⟨twl_of 432 rfl rfl, imX10_slidBy, slX10_slidBy, izX10, kcX10_slidBy, ⟨by decide +kernel, by decide +kernel, by decide +kernel⟩, by decide⟩
set_option maxRecDepth 20000 in
theorem wkX10_159 : WS RX10 159 mX10_isLine 1 := ⟨twl_of 436 rfl rfl, stX10_isLine, izX10, kcX10_isLine, ⟨by decide +kernel, by decide +kernel, by decide +kernel⟩, by decide⟩
set_option maxRecDepth 20000 in
theorem wkL_65 : WV RL 65 mX10_shows 2 := ⟨twl_of 439 rfl rfl, imX10_shows, slX10_shows, izX10, kcX10_shows, ⟨by decide +kernel, by decide +kernel, by decide +kernel⟩, by decide⟩
set_option maxRecDepth 20000 in
theorem wkL_69 : WV RL 69 mX10_laid 1 := ⟨twl_of 443 rfl rfl, imX10_laid, slX10_laid, izX10, kcX10_laid, ⟨by decide +kernel, by decide +kernel, by decide +kernel⟩, by decide⟩
set_option maxRecDepth 20000 in
theorem wkX10_168 : WV RX10 168 mX0_isFull 0 := ⟨twl_of 447 rfl rfl, imX0_isFull, slX0_isFull, izX0, kcX0_isFull, ⟨by decide +kernel, by decide +kernel, by decide +kernel⟩, by decide⟩
set_option maxRecDepth 20000 in
theorem wkX10_171 : WV RX10 171 mX0_act 3 := ⟨twl_of 451 rfl rfl, imX0_act, slX0_act, izX0, kcX0_act, ⟨by decide +kernel, by decide +kernel, by decide +kernel⟩, by decide⟩
set_option maxRecDepth 20000 in
theorem wkX0_40 : WV RX0 40 mX0_isFull 0 := ⟨twl_of 455 rfl rfl, imX0_isFull, slX0_isFull, izX0, kcX0_isFull, ⟨by decide +kernel, by decide +kernel, by decide +kernel⟩, by decide⟩
set_option maxRecDepth 20000 in
theorem wkX0_44 : WV RX0 44 mX0_perform 3 := ⟨twl_of 456 rfl rfl, imX0_perform, slX0_perform, izX0, kcX0_perform, ⟨by decide +kernel, by decide +kernel, by decide +kernel⟩, by decide⟩
set_option maxRecDepth 20000 in
theorem wkX0_52 : WV RX0 52 mX0_isTaken 1 := ⟨twl_of 460 rfl rfl, imX0_isTaken, slX0_isTaken, izX0, kcX0_isTaken, ⟨by decide +kernel, by decide +kernel, by decide +kernel⟩, by decide⟩
set_option maxRecDepth 20000 in
theorem wkL_73 : WV RL 73 mX10_lift 0 := ⟨twl_of 464 rfl rfl, imX10_lift, slX10_lift, izX10, kcX10_lift, ⟨by decide +kernel, by decide +kernel, by decide +kernel⟩, by decide⟩
set_option maxRecDepth 20000 in
theorem wkX10_178 : WV RX10 178 mX0_lastRod 0 := ⟨twl_of 468 rfl rfl, imX0_lastRod, slX0_lastRod, izX0, kcX0_lastRod, ⟨by decide +kernel, by decide +kernel, by decide +kernel⟩, by decide⟩
set_option maxRecDepth 20000 in
theorem wkL_78 : WV RL 78 mX10_change 2 := ⟨twl_of 472 rfl rfl, imX10_change, slX10_change, izX10, kcX10_change, ⟨by decide +kernel, by decide +kernel, by decide +kernel⟩, by decide⟩
set_option maxRecDepth 20000 in
theorem wkX10_182 : WV RX10 182 mX0_isTaken 1 := ⟨twl_of 476 rfl rfl, imX0_isTaken, slX0_isTaken, izX0, kcX0_isTaken, ⟨by decide +kernel, by decide +kernel, by decide +kernel⟩, by decide⟩
set_option maxRecDepth 20000 in
theorem wkL_82 : WV RL 82 mX10_over 1 := ⟨twl_of 477 rfl rfl, imX10_over, slX10_over, izX10, kcX10_over, ⟨by decide +kernel, by decide +kernel, by decide +kernel⟩, by decide⟩
set_option maxRecDepth 20000 in
theorem wkL_86 : WV RL 86 mX10_undo 1 := ⟨twl_of 481 rfl rfl, imX10_undo, slX10_undo, izX10, kcX10_undo, ⟨by decide +kernel, by decide +kernel, by decide +kernel⟩, by decide⟩
set_option maxRecDepth 20000 in
theorem wkX10_194 : WV RX10 194 mX0_takeBack 0 := ⟨twl_of 485 rfl rfl, imX0_takeBack, slX0_takeBack, izX0, kcX0_takeBack, ⟨by decide +kernel, by decide +kernel, by decide +kernel⟩, by decide⟩
set_option maxRecDepth 20000 in
theorem wkX0_48 : WS RX0 48 mX0_backOf 1 := ⟨twl_of 489 rfl rfl, stX0_backOf, izX0, kcX0_backOf, ⟨by decide +kernel, by decide +kernel, by decide +kernel⟩, by decide⟩
set_option maxRecDepth 20000 in
theorem wkL_90 : WV RL 90 mX10_keep 1 := ⟨twl_of 492 rfl rfl, imX10_keep, slX10_keep, izX10, kcX10_keep, ⟨by decide +kernel, by decide +kernel, by decide +kernel⟩, by decide⟩
set_option maxRecDepth 20000 in
theorem wkX10_197 : WS RX10 197 mX10_isKeepingPlace 1 := ⟨twl_of 496 rfl rfl, stX10_isKeepingPlace, izX10, kcX10_isKeepingPlace, ⟨by decide +kernel, by decide +kernel, by decide +kernel⟩, by decide⟩
set_option maxRecDepth 20000 in
theorem wkX10_200 : WV RX10 200 mX0_become 1 := ⟨twl_of 499 rfl rfl, imX0_become, slX0_become, izX0, kcX0_become, ⟨by decide +kernel, by decide +kernel, by decide +kernel⟩, by decide⟩
set_option maxRecDepth 20000 in
theorem wkX0_34 : WCopy RX0 34 := ⟨twl_of 503 rfl rfl, twl_of 315 rfl rfl, twl_of 314 rfl rfl, twl_of 73 rfl rfl⟩
set_option maxRecDepth 20000 in
theorem wkL_94 : WV RL 94 mX10_on 1 := ⟨twl_of 504 rfl rfl, imX10_on, slX10_on, izX10, kcX10_on, ⟨by decide +kernel, by decide +kernel, by decide +kernel⟩, by decide⟩
set_option maxRecDepth 20000 in
theorem wkL_98 : WV RL 98 mX10_reads 1 := ⟨twl_of 508 rfl rfl, imX10_reads, slX10_reads, izX10, kcX10_reads, ⟨by decide +kernel, by decide +kernel, by decide +kernel⟩, by decide⟩
set_option maxRecDepth 20000 in
theorem wkX10_204 : WV RX10 204 mX10_rightBy 1 := ⟨twl_of 512 rfl rfl, imX10_rightBy, slX10_rightBy, izX10, kcX10_rightBy, ⟨by decide +kernel, by decide +kernel, by decide +kernel⟩, by decide⟩
set_option maxRecDepth 20000 in
theorem wkX10_207 : WV RX10 207 mX10_readOff 1 := ⟨twl_of 516 rfl rfl, imX10_readOff, slX10_readOff, izX10, kcX10_readOff, ⟨by decide +kernel, by decide +kernel, by decide +kernel⟩, by decide⟩
set_option maxRecDepth 20000 in
theorem wkX10_342 : WV RX10 342 mX10_readWith 3 := ⟨twl_of 520 rfl rfl, imX10_readWith, slX10_readWith, izX10, kcX10_readWith, ⟨by decide +kernel, by decide +kernel, by decide +kernel⟩, by decide⟩
set_option maxRecDepth 20000 in
theorem wkL_102 : WV RL 102 mX10_wrong 0 := ⟨twl_of 524 rfl rfl, imX10_wrong, slX10_wrong, izX10, kcX10_wrong, ⟨by decide +kernel, by decide +kernel, by decide +kernel⟩, by decide⟩
set_option maxRecDepth 20000 in
theorem wkL_106 : WV RL 106 mX10_carries 1 := ⟨twl_of 528 rfl rfl, imX10_carries, slX10_carries, izX10, kcX10_carries, ⟨by decide +kernel, by decide +kernel, by decide +kernel⟩, by decide⟩
set_option maxRecDepth 20000 in
theorem wkX10_210 : WMax RX10 210 Lib.Math.max.name Lib.Math.max.code := ⟨twl_of 532 rfl rfl, twl_of 533 rfl rfl, twl_of 74 rfl rfl, twl_of 534 rfl rfl⟩
set_option maxRecDepth 20000 in
theorem wkL_110 : WV RL 110 mX10_makes 3 := ⟨twl_of 535 rfl rfl, imX10_makes, slX10_makes, izX10, kcX10_makes, ⟨by decide +kernel, by decide +kernel, by decide +kernel⟩, by decide⟩
set_option maxRecDepth 20000 in
theorem wkX10_216 : WV RX10 216 mX10_lookAt 1 := ⟨twl_of 540 rfl rfl, imX10_lookAt, slX10_lookAt, izX10, kcX10_lookAt, ⟨by decide +kernel, by decide +kernel, by decide +kernel⟩, by decide⟩
set_option maxRecDepth 20000 in
theorem wkX10_220 : WV RX10 220 mX5_nearest 3 := ⟨twl_of 544 rfl rfl, imX5_nearest, slX5_nearest, izX5, kcX5_nearest, ⟨by decide +kernel, by decide +kernel, by decide +kernel⟩, by decide⟩
set_option maxRecDepth 20000 in
theorem wkX5_28 : WMax RX5 28 Lib.Math.min.name Lib.Math.min.code := ⟨twl_of 548 rfl rfl, twl_of 549 rfl rfl, twl_of 74 rfl rfl, twl_of 550 rfl rfl⟩
set_option maxRecDepth 20000 in
theorem wkX5_40 : WV RX5 40 mX5_extend 3 := ⟨twl_of 551 rfl rfl, imX5_extend, slX5_extend, izX5, kcX5_extend, ⟨by decide +kernel, by decide +kernel, by decide +kernel⟩, by decide⟩
set_option maxRecDepth 20000 in
theorem wkX5_44 : WV RX5 44 mX5_leastGap 2 := ⟨twl_of 555 rfl rfl, imX5_leastGap, slX5_leastGap, izX5, kcX5_leastGap, ⟨by decide +kernel, by decide +kernel, by decide +kernel⟩, by decide⟩
set_option maxRecDepth 20000 in
theorem wkX5_56 : WMax RX5 56 Lib.Math.max.name Lib.Math.max.code := ⟨twl_of 561 rfl rfl, twl_of 533 rfl rfl, twl_of 74 rfl rfl, twl_of 534 rfl rfl⟩
set_option maxRecDepth 20000 in
theorem wkX5_47 : WCopy RX5 47 := ⟨twl_of 562 rfl rfl, twl_of 315 rfl rfl, twl_of 314 rfl rfl, twl_of 73 rfl rfl⟩
set_option maxRecDepth 20000 in
theorem wkX10_227 : WV RX10 227 mX7_take 2 := ⟨twl_of 563 rfl rfl, imX7_take, slX7_take, izX7, kcX7_take, ⟨by decide +kernel, by decide +kernel, by decide +kernel⟩, by decide⟩
set_option maxRecDepth 20000 in
theorem wkX7_19 : WMax RX7 19 Lib.Math.min.name Lib.Math.min.code := ⟨twl_of 567 rfl rfl, twl_of 549 rfl rfl, twl_of 74 rfl rfl, twl_of 550 rfl rfl⟩
set_option maxRecDepth 20000 in
theorem wkL_114 : WV RL 114 mX10_most 3 := ⟨twl_of 568 rfl rfl, imX10_most, slX10_most, izX10, kcX10_most, ⟨by decide +kernel, by decide +kernel, by decide +kernel⟩, by decide⟩
set_option maxRecDepth 20000 in
theorem wkL_118 : WV RL 118 mX10_near 2 := ⟨twl_of 573 rfl rfl, imX10_near, slX10_near, izX10, kcX10_near, ⟨by decide +kernel, by decide +kernel, by decide +kernel⟩, by decide⟩
set_option maxRecDepth 20000 in
theorem wkX10_232 : WMax RX10 232 Lib.Math.min.name Lib.Math.min.code := ⟨twl_of 577 rfl rfl, twl_of 549 rfl rfl, twl_of 74 rfl rfl, twl_of 550 rfl rfl⟩
set_option maxRecDepth 20000 in
theorem wkL_122 : WV RL 122 mX10_digits 2 := ⟨twl_of 578 rfl rfl, imX10_digits, slX10_digits, izX10, kcX10_digits, ⟨by decide +kernel, by decide +kernel, by decide +kernel⟩, by decide⟩
set_option maxRecDepth 20000 in
theorem wkX10_235 : WS RX10 235 mX10_unfitPairs 1 := ⟨twl_of 582 rfl rfl, stX10_unfitPairs, izX10, kcX10_unfitPairs, ⟨by decide +kernel, by decide +kernel, by decide +kernel⟩, by decide⟩
set_option maxRecDepth 20000 in
theorem wkX10_241 : WS RX10 241 mX10_fits 4 := ⟨twl_of 586 rfl rfl, stX10_fits, izX10, kcX10_fits, ⟨by decide +kernel, by decide +kernel, by decide +kernel⟩, by decide⟩
set_option maxRecDepth 20000 in
theorem wkL_126 : WV RL 126 mX10_kinds 2 := ⟨twl_of 589 rfl rfl, imX10_kinds, slX10_kinds, izX10, kcX10_kinds, ⟨by decide +kernel, by decide +kernel, by decide +kernel⟩, by decide⟩
set_option maxRecDepth 20000 in
theorem wkX10_245 : WV RX10 245 mX10_fittingKinds 2 := ⟨twl_of 593 rfl rfl, imX10_fittingKinds, slX10_fittingKinds, izX10, kcX10_fittingKinds, ⟨by decide +kernel, by decide +kernel, by decide +kernel⟩, by decide⟩
set_option maxRecDepth 20000 in
theorem wkL_130 : WV RL 130 mX10_test 2 := ⟨twl_of 597 rfl rfl, imX10_test, slX10_test, izX10, kcX10_test, ⟨by decide +kernel, by decide +kernel, by decide +kernel⟩, by decide⟩
set_option maxRecDepth 20000 in
theorem wkX10_249 : WV RX10 249 mX10_greatestPart 3 := ⟨twl_of 601 rfl rfl, imX10_greatestPart, slX10_greatestPart, izX10, kcX10_greatestPart, ⟨by decide +kernel, by decide +kernel, by decide +kernel⟩, by decide⟩
set_option maxRecDepth 20000 in
theorem wkL_134 : WV RL 134 mX10_other 1 := ⟨twl_of 605 rfl rfl, imX10_other, slX10_other, izX10, kcX10_other, ⟨by decide +kernel, by decide +kernel, by decide +kernel⟩, by decide⟩
set_option maxRecDepth 20000 in
theorem wkX10_252 : WV RX10 252 mX10_wasReadWith 3 := ⟨twl_of 609 rfl rfl, imX10_wasReadWith, slX10_wasReadWith, izX10, kcX10_wasReadWith, ⟨by decide +kernel, by decide +kernel, by decide +kernel⟩, by decide⟩
set_option maxRecDepth 20000 in
theorem wkL_138 : WV RL 138 mX10_duel 2 := ⟨twl_of 613 rfl rfl, imX10_duel, slX10_duel, izX10, kcX10_duel, ⟨by decide +kernel, by decide +kernel, by decide +kernel⟩, by decide⟩
set_option maxRecDepth 20000 in
theorem wkX10_256 : WV RX10 256 mX0_bits 0 := ⟨twl_of 617 rfl rfl, imX0_bits, slX0_bits, izX0, kcX0_bits, ⟨by decide +kernel, by decide +kernel, by decide +kernel⟩, by decide⟩
set_option maxRecDepth 20000 in
theorem wkX10_259 : WN RX10 "BoneRods" 259 mX5_playedOut 4 := ⟨nwl_of 621 rfl rfl, imX5_playedOut, slX5_playedOut, izX5, kcX5_playedOut, ⟨by decide +kernel, by decide +kernel, by decide +kernel⟩, by decide⟩
set_option maxRecDepth 20000 in
theorem wkX5_59 : WV RX5 59 mX5_playedOut 4 := ⟨twl_of 625 rfl rfl, imX5_playedOut, slX5_playedOut, izX5, kcX5_playedOut, ⟨by decide +kernel, by decide +kernel, by decide +kernel⟩, by decide⟩
set_option maxRecDepth 20000 in
theorem wkL_142 : WV RL 142 mX10_odds 2 := ⟨twl_of 626 rfl rfl, imX10_odds, slX10_odds, izX10, kcX10_odds, ⟨by decide +kernel, by decide +kernel, by decide +kernel⟩, by decide⟩
set_option maxRecDepth 20000 in
theorem wkX10_263 : WS RX10 263 mX10_isTwelfths 1 := ⟨twl_of 630 rfl rfl, stX10_isTwelfths, izX10, kcX10_isTwelfths, ⟨by decide +kernel, by decide +kernel, by decide +kernel⟩, by decide⟩
set_option maxRecDepth 20000 in
theorem wkX10_266 : WV RX10 266 mX10_readOfLeft 2 := ⟨twl_of 633 rfl rfl, imX10_readOfLeft, slX10_readOfLeft, izX10, kcX10_readOfLeft, ⟨by decide +kernel, by decide +kernel, by decide +kernel⟩, by decide⟩
set_option maxRecDepth 20000 in
theorem wkX10_269 : WV RX10 269 mX10_weightOfLeft 2 := ⟨twl_of 637 rfl rfl, imX10_weightOfLeft, slX10_weightOfLeft, izX10, kcX10_weightOfLeft, ⟨by decide +kernel, by decide +kernel, by decide +kernel⟩, by decide⟩
set_option maxRecDepth 20000 in
theorem wkX10_275 : WV RX10 275 mX10_tell 2 := ⟨twl_of 642 rfl rfl, imX10_tell, slX10_tell, izX10, kcX10_tell, ⟨by decide +kernel, by decide +kernel, by decide +kernel⟩, by decide⟩
set_option maxRecDepth 20000 in
theorem wkX10_353 : WS RX10 353 mX10_greatestShared 2 := ⟨twl_of 646 rfl rfl, stX10_greatestShared, izX10, kcX10_greatestShared, ⟨by decide +kernel, by decide +kernel, by decide +kernel⟩, by decide⟩
set_option maxRecDepth 20000 in
theorem wkL_146 : WV RL 146 mX10_mid 2 := ⟨twl_of 649 rfl rfl, imX10_mid, slX10_mid, izX10, kcX10_mid, ⟨by decide +kernel, by decide +kernel, by decide +kernel⟩, by decide⟩
set_option maxRecDepth 20000 in
theorem wkL_150 : WV RL 150 mX10_lots 2 := ⟨twl_of 653 rfl rfl, imX10_lots, slX10_lots, izX10, kcX10_lots, ⟨by decide +kernel, by decide +kernel, by decide +kernel⟩, by decide⟩
set_option maxRecDepth 20000 in
theorem wkX10_283 : WV RX10 283 mX10_deedByLot 1 := ⟨twl_of 659 rfl rfl, imX10_deedByLot, slX10_deedByLot, izX10, kcX10_deedByLot, ⟨by decide +kernel, by decide +kernel, by decide +kernel⟩, by decide⟩
set_option maxRecDepth 20000 in
theorem wkL_154 : WV RL 154 mX10_asked 0 := ⟨twl_of 665 rfl rfl, imX10_asked, slX10_asked, izX10, kcX10_asked, ⟨by decide +kernel, by decide +kernel, by decide +kernel⟩, by decide⟩
set_option maxRecDepth 20000 in
theorem wkL_158 : WV RL 158 mX10_upper 0 := ⟨twl_of 669 rfl rfl, imX10_upper, slX10_upper, izX10, kcX10_upper, ⟨by decide +kernel, by decide +kernel, by decide +kernel⟩, by decide⟩
set_option maxRecDepth 20000 in
theorem wkL_163 : WV RL 163 mX10_lower 0 := ⟨twl_of 673 rfl rfl, imX10_lower, slX10_lower, izX10, kcX10_lower, ⟨by decide +kernel, by decide +kernel, by decide +kernel⟩, by decide⟩
set_option maxRecDepth 20000 in
theorem wkL_167 : WV RL 167 mX10_count 1 := ⟨twl_of 677 rfl rfl, imX10_count, slX10_count, izX10, kcX10_count, ⟨by decide +kernel, by decide +kernel, by decide +kernel⟩, by decide⟩
set_option maxRecDepth 20000 in
theorem wkX10_293 : WS RX10 293 mX10_howManyThere 1 := ⟨twl_of 681 rfl rfl, stX10_howManyThere, izX10, kcX10_howManyThere, ⟨by decide +kernel, by decide +kernel, by decide +kernel⟩, by decide⟩
set_option maxRecDepth 20000 in
theorem wkX10_297 : WV RX10 297 mX10_howManyKept 0 := ⟨twl_of 684 rfl rfl, imX10_howManyKept, slX10_howManyKept, izX10, kcX10_howManyKept, ⟨by decide +kernel, by decide +kernel, by decide +kernel⟩, by decide⟩
set_option maxRecDepth 20000 in
theorem wkX10_300 : WV RX10 300 mX10_howManyOf 1 := ⟨twl_of 688 rfl rfl, imX10_howManyOf, slX10_howManyOf, izX10, kcX10_howManyOf, ⟨by decide +kernel, by decide +kernel, by decide +kernel⟩, by decide⟩
set_option maxRecDepth 20000 in
theorem wkL_171 : WV RL 171 mX10_finding 0 := ⟨twl_of 692 rfl rfl, imX10_finding, slX10_finding, izX10, kcX10_finding, ⟨by decide +kernel, by decide +kernel, by decide +kernel⟩, by decide⟩
set_option maxRecDepth 20000 in
theorem wkL_175 : WV RL 175 mX10_findings 1 := ⟨twl_of 696 rfl rfl, imX10_findings, slX10_findings, izX10, kcX10_findings, ⟨by decide +kernel, by decide +kernel, by decide +kernel⟩, by decide⟩
set_option maxRecDepth 20000 in
theorem wkL_179 : WV RL 179 mX10_digest 0 := ⟨twl_of 700 rfl rfl, imX10_digest, slX10_digest, izX10, kcX10_digest, ⟨by decide +kernel, by decide +kernel, by decide +kernel⟩, by decide⟩
set_option maxRecDepth 20000 in
theorem wkX10_310 : WV RX10 310 mX10_count 1 := ⟨twl_of 706 rfl rfl, imX10_count, slX10_count, izX10, kcX10_count, ⟨by decide +kernel, by decide +kernel, by decide +kernel⟩, by decide⟩
set_option maxRecDepth 20000 in
theorem wkX10_313 : WS RX10 313 mX10_withStrips 2 := ⟨twl_of 707 rfl rfl, stX10_withStrips, izX10, kcX10_withStrips, ⟨by decide +kernel, by decide +kernel, by decide +kernel⟩, by decide⟩
set_option maxRecDepth 20000 in
theorem wkL_17 : WV RL 17 mX11_row 2 := ⟨twl_of 789 rfl rfl, imX11_row, slX11_row, izX11, kcX11_row, ⟨by decide +kernel, by decide +kernel, by decide +kernel⟩, by decide⟩
set_option maxRecDepth 20000 in
theorem wkX11_76 : WS RX11 76 mX11_isRow 1 := ⟨twl_of 793 rfl rfl, stX11_isRow, izX11, kcX11_isRow, ⟨by decide +kernel, by decide +kernel, by decide +kernel⟩, by decide⟩
set_option maxRecDepth 20000 in
theorem wkX11_68 : WS RX11 68 mX11_in 3 := ⟨twl_of 797 rfl rfl, stX11_in, izX11, kcX11_in, ⟨by decide +kernel, by decide +kernel, by decide +kernel⟩, by decide⟩
set_option maxRecDepth 20000 in
theorem wkX11_80 : WV RX11 80 mX11_finds 1 := ⟨twl_of 800 rfl rfl, imX11_finds, slX11_finds, izX11, kcX11_finds, ⟨by decide +kernel, by decide +kernel, by decide +kernel⟩, by decide⟩
set_option maxRecDepth 20000 in
theorem wkL_22 : WV RL 22 mX11_lay 3 := ⟨twl_of 804 rfl rfl, imX11_lay, slX11_lay, izX11, kcX11_lay, ⟨by decide +kernel, by decide +kernel, by decide +kernel⟩, by decide⟩
set_option maxRecDepth 20000 in
theorem wkX11_83 : WV RX11 83 mX11_tells 1 := ⟨twl_of 808 rfl rfl, imX11_tells, slX11_tells, izX11, kcX11_tells, ⟨by decide +kernel, by decide +kernel, by decide +kernel⟩, by decide⟩
set_option maxRecDepth 20000 in
theorem wkL_26 : WV RL 26 mX11_at 2 := ⟨twl_of 812 rfl rfl, imX11_at, slX11_at, izX11, kcX11_at, ⟨by decide +kernel, by decide +kernel, by decide +kernel⟩, by decide⟩
set_option maxRecDepth 20000 in
theorem wkL_31 : WV RL 31 mX11_tear 1 := ⟨twl_of 816 rfl rfl, imX11_tear, slX11_tear, izX11, kcX11_tear, ⟨by decide +kernel, by decide +kernel, by decide +kernel⟩, by decide⟩
set_option maxRecDepth 20000 in
theorem wkL_36 : WV RL 36 mX11_copy 5 := ⟨twl_of 820 rfl rfl, imX11_copy, slX11_copy, izX11, kcX11_copy, ⟨by decide +kernel, by decide +kernel, by decide +kernel⟩, by decide⟩
set_option maxRecDepth 20000 in
theorem wkL_40 : WV RL 40 mX11_mean 1 := ⟨twl_of 824 rfl rfl, imX11_mean, slX11_mean, izX11, kcX11_mean, ⟨by decide +kernel, by decide +kernel, by decide +kernel⟩, by decide⟩
set_option maxRecDepth 20000 in
theorem wkL_44 : WV RL 44 mX11_text 2 := ⟨twl_of 828 rfl rfl, imX11_text, slX11_text, izX11, kcX11_text, ⟨by decide +kernel, by decide +kernel, by decide +kernel⟩, by decide⟩
set_option maxRecDepth 20000 in
theorem wkX11_86 : WS RX11 86 mX11_isText 1 := ⟨twl_of 832 rfl rfl, stX11_isText, izX11, kcX11_isText, ⟨by decide +kernel, by decide +kernel, by decide +kernel⟩, by decide⟩
set_option maxRecDepth 20000 in
theorem wkL_48 : WV RL 48 mX11_put 3 := ⟨twl_of 836 rfl rfl, imX11_put, slX11_put, izX11, kcX11_put, ⟨by decide +kernel, by decide +kernel, by decide +kernel⟩, by decide⟩
set_option maxRecDepth 20000 in
theorem wkL_52 : WV RL 52 mX11_fault 1 := ⟨twl_of 840 rfl rfl, imX11_fault, slX11_fault, izX11, kcX11_fault, ⟨by decide +kernel, by decide +kernel, by decide +kernel⟩, by decide⟩
set_option maxRecDepth 20000 in
theorem wkX11_112 : WV RX11 112 mX11_faultOf 1 := ⟨twl_of 844 rfl rfl, imX11_faultOf, slX11_faultOf, izX11, kcX11_faultOf, ⟨by decide +kernel, by decide +kernel, by decide +kernel⟩, by decide⟩
set_option maxRecDepth 20000 in
theorem wkX11_98 : WV RX11 98 mX11_here 0 := ⟨twl_of 848 rfl rfl, imX11_here, slX11_here, izX11, kcX11_here, ⟨by decide +kernel, by decide +kernel, by decide +kernel⟩, by decide⟩
set_option maxRecDepth 20000 in
theorem wkX11_108 : WV RX11 108 mX11_takesRod 0 := ⟨twl_of 852 rfl rfl, imX11_takesRod, slX11_takesRod, izX11, kcX11_takesRod, ⟨by decide +kernel, by decide +kernel, by decide +kernel⟩, by decide⟩
set_option maxRecDepth 20000 in
theorem wkX11_102 : WS RX11 102 mX11_kindOf 1 := ⟨twl_of 856 rfl rfl, stX11_kindOf, izX11, kcX11_kindOf, ⟨by decide +kernel, by decide +kernel, by decide +kernel⟩, by decide⟩
set_option maxRecDepth 20000 in
theorem wkL_56 : WV RL 56 mX11_box 1 := ⟨twl_of 860 rfl rfl, imX11_box, slX11_box, izX11, kcX11_box, ⟨by decide +kernel, by decide +kernel, by decide +kernel⟩, by decide⟩
set_option maxRecDepth 20000 in
theorem wkL_60 : WV RL 60 mX11_rod 2 := ⟨twl_of 864 rfl rfl, imX11_rod, slX11_rod, izX11, kcX11_rod, ⟨by decide +kernel, by decide +kernel, by decide +kernel⟩, by decide⟩
set_option maxRecDepth 20000 in
theorem wkX11_133 : WV RX11 133 mX11_isRod 1 := ⟨twl_of 868 rfl rfl, imX11_isRod, slX11_isRod, izX11, kcX11_isRod, ⟨by decide +kernel, by decide +kernel, by decide +kernel⟩, by decide⟩
set_option maxRecDepth 20000 in
theorem wkX11_138 : WV RX11 138 mX11_rodOf 2 := ⟨twl_of 873 rfl rfl, imX11_rodOf, slX11_rodOf, izX11, kcX11_rodOf, ⟨by decide +kernel, by decide +kernel, by decide +kernel⟩, by decide⟩
set_option maxRecDepth 20000 in
theorem wkX11_123 : WV RX11 123 mX11_digitOf 1 := ⟨twl_of 877 rfl rfl, imX11_digitOf, slX11_digitOf, izX11, kcX11_digitOf, ⟨by decide +kernel, by decide +kernel, by decide +kernel⟩, by decide⟩
set_option maxRecDepth 20000 in
theorem wkX11_119 : WS RX11 119 mX11_has 2 := ⟨twl_of 881 rfl rfl, stX11_has, izX11, kcX11_has, ⟨by decide +kernel, by decide +kernel, by decide +kernel⟩, by decide⟩
set_option maxRecDepth 20000 in
theorem wkX11_130 : WV RX11 130 mX11_placeOf 1 := ⟨twl_of 884 rfl rfl, imX11_placeOf, slX11_placeOf, izX11, kcX11_placeOf, ⟨by decide +kernel, by decide +kernel, by decide +kernel⟩, by decide⟩
set_option maxRecDepth 20000 in
theorem wkL_64 : WV RL 64 mX11_mark 2 := ⟨twl_of 888 rfl rfl, imX11_mark, slX11_mark, izX11, kcX11_mark, ⟨by decide +kernel, by decide +kernel, by decide +kernel⟩, by decide⟩
set_option maxRecDepth 20000 in
theorem wkX11_145 : WS RX11 145 mX11_isA 2 := ⟨twl_of 892 rfl rfl, stX11_isA, izX11, kcX11_isA, ⟨by decide +kernel, by decide +kernel, by decide +kernel⟩, by decide⟩
set_option maxRecDepth 20000 in
theorem wkX11_148 : WV RX11 148 mX11_linesAgainst 3 := ⟨twl_of 895 rfl rfl, imX11_linesAgainst, slX11_linesAgainst, izX11, kcX11_linesAgainst, ⟨by decide +kernel, by decide +kernel, by decide +kernel⟩, by decide⟩
set_option maxRecDepth 20000 in
theorem wkX11_142 : WV RX11 142 mX11_showsOf 2 := ⟨twl_of 899 rfl rfl, imX11_showsOf, slX11_showsOf, izX11, kcX11_showsOf, ⟨by decide +kernel, by decide +kernel, by decide +kernel⟩, by decide⟩
set_option maxRecDepth 20000 in
theorem wkX11_126 : WS RX11 126 mX11_showsBy 4 := ⟨twl_of 903 rfl rfl, stX11_showsBy, izX11, kcX11_showsBy, ⟨by decide +kernel, by decide +kernel, by decide +kernel⟩, by decide⟩
set_option maxRecDepth 20000 in
theorem wkX11_115 : WS RX11 115 mX11_worn 3 := ⟨twl_of 906 rfl rfl, stX11_worn, izX11, kcX11_worn, ⟨by decide +kernel, by decide +kernel, by decide +kernel⟩, by decide⟩
set_option maxRecDepth 20000 in
theorem wkL_68 : WV RL 68 mX11_shows 2 := ⟨twl_of 909 rfl rfl, imX11_shows, slX11_shows, izX11, kcX11_shows, ⟨by decide +kernel, by decide +kernel, by decide +kernel⟩, by decide⟩
set_option maxRecDepth 20000 in
theorem wkX11_151 : WS RX11 151 mX11_isLine 1 := ⟨twl_of 913 rfl rfl, stX11_isLine, izX11, kcX11_isLine, ⟨by decide +kernel, by decide +kernel, by decide +kernel⟩, by decide⟩
set_option maxRecDepth 20000 in
theorem wkL_72 : WV RL 72 mX11_laid 1 := ⟨twl_of 916 rfl rfl, imX11_laid, slX11_laid, izX11, kcX11_laid, ⟨by decide +kernel, by decide +kernel, by decide +kernel⟩, by decide⟩
set_option maxRecDepth 20000 in
theorem wkX11_154 : WV RX11 154 mX11_minds 0 := ⟨twl_of 920 rfl rfl, imX11_minds, slX11_minds, izX11, kcX11_minds, ⟨by decide +kernel, by decide +kernel, by decide +kernel⟩, by decide⟩
set_option maxRecDepth 20000 in
theorem wkX11_157 : WV RX11 157 mX11_lays 1 := ⟨twl_of 924 rfl rfl, imX11_lays, slX11_lays, izX11, kcX11_lays, ⟨by decide +kernel, by decide +kernel, by decide +kernel⟩, by decide⟩
set_option maxRecDepth 20000 in
theorem wkL_77 : WV RL 77 mX11_lift 0 := ⟨twl_of 928 rfl rfl, imX11_lift, slX11_lift, izX11, kcX11_lift, ⟨by decide +kernel, by decide +kernel, by decide +kernel⟩, by decide⟩
set_option maxRecDepth 20000 in
theorem wkX11_161 : WV RX11 161 mX11_lifts 0 := ⟨twl_of 932 rfl rfl, imX11_lifts, slX11_lifts, izX11, kcX11_lifts, ⟨by decide +kernel, by decide +kernel, by decide +kernel⟩, by decide⟩
set_option maxRecDepth 20000 in
theorem wkL_81 : WV RL 81 mX11_change 2 := ⟨twl_of 936 rfl rfl, imX11_change, slX11_change, izX11, kcX11_change, ⟨by decide +kernel, by decide +kernel, by decide +kernel⟩, by decide⟩
set_option maxRecDepth 20000 in
theorem wkL_85 : WV RL 85 mX11_over 1 := ⟨twl_of 940 rfl rfl, imX11_over, slX11_over, izX11, kcX11_over, ⟨by decide +kernel, by decide +kernel, by decide +kernel⟩, by decide⟩
set_option maxRecDepth 20000 in
theorem wkL_89 : WV RL 89 mX11_undo 1 := ⟨twl_of 944 rfl rfl, imX11_undo, slX11_undo, izX11, kcX11_undo, ⟨by decide +kernel, by decide +kernel, by decide +kernel⟩, by decide⟩
set_option maxRecDepth 20000 in
theorem wkL_93 : WV RL 93 mX11_keep 1 := ⟨twl_of 948 rfl rfl, imX11_keep, slX11_keep, izX11, kcX11_keep, ⟨by decide +kernel, by decide +kernel, by decide +kernel⟩, by decide⟩
set_option maxRecDepth 20000 in
theorem wkX11_166 : WV RX11 166 mX11_bring 2 := ⟨twl_of 953 rfl rfl, imX11_bring, slX11_bring, izX11, kcX11_bring, ⟨by decide +kernel, by decide +kernel, by decide +kernel⟩, by decide⟩
set_option maxRecDepth 20000 in
theorem wkL_97 : WV RL 97 mX11_on 1 := ⟨twl_of 957 rfl rfl, imX11_on, slX11_on, izX11, kcX11_on, ⟨by decide +kernel, by decide +kernel, by decide +kernel⟩, by decide⟩
set_option maxRecDepth 20000 in
theorem wkL_101 : WV RL 101 mX11_reads 1 := ⟨twl_of 961 rfl rfl, imX11_reads, slX11_reads, izX11, kcX11_reads, ⟨by decide +kernel, by decide +kernel, by decide +kernel⟩, by decide⟩
set_option maxRecDepth 20000 in
theorem wkX11_170 : WV RX11 170 mX11_rightBy 1 := ⟨twl_of 965 rfl rfl, imX11_rightBy, slX11_rightBy, izX11, kcX11_rightBy, ⟨by decide +kernel, by decide +kernel, by decide +kernel⟩, by decide⟩
set_option maxRecDepth 20000 in
theorem wkX11_173 : WV RX11 173 mX11_readBy 1 := ⟨twl_of 969 rfl rfl, imX11_readBy, slX11_readBy, izX11, kcX11_readBy, ⟨by decide +kernel, by decide +kernel, by decide +kernel⟩, by decide⟩
set_option maxRecDepth 20000 in
theorem wkL_105 : WV RL 105 mX11_wrong 0 := ⟨twl_of 973 rfl rfl, imX11_wrong, slX11_wrong, izX11, kcX11_wrong, ⟨by decide +kernel, by decide +kernel, by decide +kernel⟩, by decide⟩
set_option maxRecDepth 20000 in
theorem wkL_109 : WV RL 109 mX11_carries 1 := ⟨twl_of 977 rfl rfl, imX11_carries, slX11_carries, izX11, kcX11_carries, ⟨by decide +kernel, by decide +kernel, by decide +kernel⟩, by decide⟩
set_option maxRecDepth 20000 in
theorem wkL_113 : WV RL 113 mX11_makes 3 := ⟨twl_of 981 rfl rfl, imX11_makes, slX11_makes, izX11, kcX11_makes, ⟨by decide +kernel, by decide +kernel, by decide +kernel⟩, by decide⟩
set_option maxRecDepth 20000 in
theorem wkX11_181 : WV RX11 181 mX11_goesNext 3 := ⟨twl_of 986 rfl rfl, imX11_goesNext, slX11_goesNext, izX11, kcX11_goesNext, ⟨by decide +kernel, by decide +kernel, by decide +kernel⟩, by decide⟩
set_option maxRecDepth 20000 in
theorem wkX11_185 : WV RX11 185 mX11_keeps 1 := ⟨twl_of 990 rfl rfl, imX11_keeps, slX11_keeps, izX11, kcX11_keeps, ⟨by decide +kernel, by decide +kernel, by decide +kernel⟩, by decide⟩
set_option maxRecDepth 20000 in
theorem wkX11_188 : WV RX11 188 mX11_laysBest 2 := ⟨twl_of 994 rfl rfl, imX11_laysBest, slX11_laysBest, izX11, kcX11_laysBest, ⟨by decide +kernel, by decide +kernel, by decide +kernel⟩, by decide⟩
set_option maxRecDepth 20000 in
theorem wkL_117 : WV RL 117 mX11_most 3 := ⟨twl_of 998 rfl rfl, imX11_most, slX11_most, izX11, kcX11_most, ⟨by decide +kernel, by decide +kernel, by decide +kernel⟩, by decide⟩
set_option maxRecDepth 20000 in
theorem wkL_121 : WV RL 121 mX11_near 2 := ⟨twl_of 1002 rfl rfl, imX11_near, slX11_near, izX11, kcX11_near, ⟨by decide +kernel, by decide +kernel, by decide +kernel⟩, by decide⟩
set_option maxRecDepth 20000 in
theorem wkL_125 : WV RL 125 mX11_digits 2 := ⟨twl_of 1008 rfl rfl, imX11_digits, slX11_digits, izX11, kcX11_digits, ⟨by decide +kernel, by decide +kernel, by decide +kernel⟩, by decide⟩
set_option maxRecDepth 20000 in
theorem wkX11_196 : WV RX11 196 mX11_againstPairs 1 := ⟨twl_of 1012 rfl rfl, imX11_againstPairs, slX11_againstPairs, izX11, kcX11_againstPairs, ⟨by decide +kernel, by decide +kernel, by decide +kernel⟩, by decide⟩
set_option maxRecDepth 20000 in
theorem wkX11_199 : WV RX11 199 mX11_showedSo 4 := ⟨twl_of 1017 rfl rfl, imX11_showedSo, slX11_showedSo, izX11, kcX11_showedSo, ⟨by decide +kernel, by decide +kernel, by decide +kernel⟩, by decide⟩
set_option maxRecDepth 20000 in
theorem wkL_129 : WV RL 129 mX11_kinds 2 := ⟨twl_of 1021 rfl rfl, imX11_kinds, slX11_kinds, izX11, kcX11_kinds, ⟨by decide +kernel, by decide +kernel, by decide +kernel⟩, by decide⟩
set_option maxRecDepth 20000 in
theorem wkX11_203 : WV RX11 203 mX11_kindsOf 2 := ⟨twl_of 1025 rfl rfl, imX11_kindsOf, slX11_kindsOf, izX11, kcX11_kindsOf, ⟨by decide +kernel, by decide +kernel, by decide +kernel⟩, by decide⟩
set_option maxRecDepth 20000 in
theorem wkL_133 : WV RL 133 mX11_test 2 := ⟨twl_of 1029 rfl rfl, imX11_test, slX11_test, izX11, kcX11_test, ⟨by decide +kernel, by decide +kernel, by decide +kernel⟩, by decide⟩
set_option maxRecDepth 20000 in
theorem wkL_137 : WV RL 137 mX11_other 1 := ⟨twl_of 1033 rfl rfl, imX11_other, slX11_other, izX11, kcX11_other, ⟨by decide +kernel, by decide +kernel, by decide +kernel⟩, by decide⟩
set_option maxRecDepth 20000 in
theorem wkX11_206 : WV RX11 206 mX11_readWith 3 := ⟨twl_of 1037 rfl rfl, imX11_readWith, slX11_readWith, izX11, kcX11_readWith, ⟨by decide +kernel, by decide +kernel, by decide +kernel⟩, by decide⟩
set_option maxRecDepth 20000 in
theorem wkL_141 : WV RL 141 mX11_duel 2 := ⟨twl_of 1041 rfl rfl, imX11_duel, slX11_duel, izX11, kcX11_duel, ⟨by decide +kernel, by decide +kernel, by decide +kernel⟩, by decide⟩
set_option maxRecDepth 20000 in
theorem wkX11_209 : WV RX11 209 mX11_isLaidOr 2 := ⟨twl_of 1045 rfl rfl, imX11_isLaidOr, slX11_isLaidOr, izX11, kcX11_isLaidOr, ⟨by decide +kernel, by decide +kernel, by decide +kernel⟩, by decide⟩
set_option maxRecDepth 20000 in
theorem wkL_145 : WV RL 145 mX11_odds 2 := ⟨twl_of 1049 rfl rfl, imX11_odds, slX11_odds, izX11, kcX11_odds, ⟨by decide +kernel, by decide +kernel, by decide +kernel⟩, by decide⟩
set_option maxRecDepth 20000 in
theorem wkX11_221 : WV RX11 221 mX11_chance 3 := ⟨twl_of 1053 rfl rfl, imX11_chance, slX11_chance, izX11, kcX11_chance, ⟨by decide +kernel, by decide +kernel, by decide +kernel⟩, by decide⟩
set_option maxRecDepth 20000 in
theorem wkX11_214 : WV RX11 214 mX11_readWithout 2 := ⟨twl_of 1058 rfl rfl, imX11_readWithout, slX11_readWithout, izX11, kcX11_readWithout, ⟨by decide +kernel, by decide +kernel, by decide +kernel⟩, by decide⟩
set_option maxRecDepth 20000 in
theorem wkX11_217 : WV RX11 217 mX11_tellsPart 2 := ⟨twl_of 1062 rfl rfl, imX11_tellsPart, slX11_tellsPart, izX11, kcX11_tellsPart, ⟨by decide +kernel, by decide +kernel, by decide +kernel⟩, by decide⟩
set_option maxRecDepth 20000 in
theorem wkL_149 : WV RL 149 mX11_mid 2 := ⟨twl_of 1066 rfl rfl, imX11_mid, slX11_mid, izX11, kcX11_mid, ⟨by decide +kernel, by decide +kernel, by decide +kernel⟩, by decide⟩
set_option maxRecDepth 20000 in
theorem wkL_153 : WV RL 153 mX11_lots 2 := ⟨twl_of 1070 rfl rfl, imX11_lots, slX11_lots, izX11, kcX11_lots, ⟨by decide +kernel, by decide +kernel, by decide +kernel⟩, by decide⟩
set_option maxRecDepth 20000 in
theorem wkL_157 : WV RL 157 mX11_asked 0 := ⟨twl_of 1079 rfl rfl, imX11_asked, slX11_asked, izX11, kcX11_asked, ⟨by decide +kernel, by decide +kernel, by decide +kernel⟩, by decide⟩
set_option maxRecDepth 20000 in
theorem wkL_162 : WV RL 162 mX11_upper 0 := ⟨twl_of 1083 rfl rfl, imX11_upper, slX11_upper, izX11, kcX11_upper, ⟨by decide +kernel, by decide +kernel, by decide +kernel⟩, by decide⟩
set_option maxRecDepth 20000 in
theorem wkL_166 : WV RL 166 mX11_lower 0 := ⟨twl_of 1087 rfl rfl, imX11_lower, slX11_lower, izX11, kcX11_lower, ⟨by decide +kernel, by decide +kernel, by decide +kernel⟩, by decide⟩
set_option maxRecDepth 20000 in
theorem wkL_170 : WV RL 170 mX11_count 1 := ⟨twl_of 1091 rfl rfl, imX11_count, slX11_count, izX11, kcX11_count, ⟨by decide +kernel, by decide +kernel, by decide +kernel⟩, by decide⟩
set_option maxRecDepth 20000 in
theorem wkX11_235 : WV RX11 235 mX11_framed 0 := ⟨twl_of 1095 rfl rfl, imX11_framed, slX11_framed, izX11, kcX11_framed, ⟨by decide +kernel, by decide +kernel, by decide +kernel⟩, by decide⟩
set_option maxRecDepth 20000 in
theorem wkX11_238 : WV RX11 238 mX11_rowsThere 0 := ⟨twl_of 1099 rfl rfl, imX11_rowsThere, slX11_rowsThere, izX11, kcX11_rowsThere, ⟨by decide +kernel, by decide +kernel, by decide +kernel⟩, by decide⟩
set_option maxRecDepth 20000 in
theorem wkX11_241 : WV RX11 241 mX11_textsThere 0 := ⟨twl_of 1103 rfl rfl, imX11_textsThere, slX11_textsThere, izX11, kcX11_textsThere, ⟨by decide +kernel, by decide +kernel, by decide +kernel⟩, by decide⟩
set_option maxRecDepth 20000 in
theorem wkX11_244 : WV RX11 244 mX11_boxesKept 0 := ⟨twl_of 1107 rfl rfl, imX11_boxesKept, slX11_boxesKept, izX11, kcX11_boxesKept, ⟨by decide +kernel, by decide +kernel, by decide +kernel⟩, by decide⟩
set_option maxRecDepth 20000 in
theorem wkX11_247 : WV RX11 247 mX11_manyOf 1 := ⟨twl_of 1111 rfl rfl, imX11_manyOf, slX11_manyOf, izX11, kcX11_manyOf, ⟨by decide +kernel, by decide +kernel, by decide +kernel⟩, by decide⟩
set_option maxRecDepth 20000 in
theorem wkL_174 : WV RL 174 mX11_finding 0 := ⟨twl_of 1115 rfl rfl, imX11_finding, slX11_finding, izX11, kcX11_finding, ⟨by decide +kernel, by decide +kernel, by decide +kernel⟩, by decide⟩
set_option maxRecDepth 20000 in
theorem wkL_178 : WV RL 178 mX11_findings 1 := ⟨twl_of 1119 rfl rfl, imX11_findings, slX11_findings, izX11, kcX11_findings, ⟨by decide +kernel, by decide +kernel, by decide +kernel⟩, by decide⟩
set_option maxRecDepth 20000 in
theorem wkL_182 : WV RL 182 mX11_digest 0 := ⟨twl_of 1123 rfl rfl, imX11_digest, slX11_digest, izX11, kcX11_digest, ⟨by decide +kernel, by decide +kernel, by decide +kernel⟩, by decide⟩
set_option maxRecDepth 20000 in
theorem wkX11_257 : WV RX11 257 mX11_count 1 := ⟨twl_of 1128 rfl rfl, imX11_count, slX11_count, izX11, kcX11_count, ⟨by decide +kernel, by decide +kernel, by decide +kernel⟩, by decide⟩
set_option maxRecDepth 20000 in
theorem wkX11_260 : WV RX11 260 mX11_mix 1 := ⟨twl_of 1129 rfl rfl, imX11_mix, slX11_mix, izX11, kcX11_mix, ⟨by decide +kernel, by decide +kernel, by decide +kernel⟩, by decide⟩
set_option maxRecDepth 20000 in
theorem wlL_7 : Cond.classLink RL 7 RX10 ∈ twl := twl_of 75 rfl rfl
set_option maxRecDepth 20000 in
theorem wlX10_9 : Cond.classLink RX10 9 RX7 ∈ twl := twl_of 83 rfl rfl
set_option maxRecDepth 20000 in
theorem wfX7_9 : Cond.fieldLink RX7 9 RX7 "places" "[I" ∈ twl := twl_of 90 rfl rfl
set_option maxRecDepth 20000 in
theorem wfX10_92 : Cond.fieldLinkNest RX10 92 RX7 "places" "[I" "BoneRods" ∈ nwl := nwl_of 91 rfl rfl
set_option maxRecDepth 20000 in
theorem wfX7_15 : Cond.fieldLink RX7 15 RX7 "size" "I" ∈ twl := twl_of 92 rfl rfl
set_option maxRecDepth 20000 in
theorem wfX10_103 : Cond.fieldLinkNest RX10 103 RX7 "size" "I" "BoneRods" ∈ nwl := nwl_of 93 rfl rfl
set_option maxRecDepth 20000 in
theorem wlX10_19 : Cond.classLink RX10 19 RX3 ∈ twl := twl_of 100 rfl rfl
set_option maxRecDepth 20000 in
theorem wlX10_26 : Cond.classLink RX10 26 RX9 ∈ twl := twl_of 108 rfl rfl
set_option maxRecDepth 20000 in
theorem wlX10_29 : Cond.classLink RX10 29 RX8 ∈ twl := twl_of 115 rfl rfl
set_option maxRecDepth 20000 in
theorem wlX10_32 : Cond.classLink RX10 32 RX6 ∈ twl := twl_of 122 rfl rfl
set_option maxRecDepth 20000 in
theorem wlX10_35 : Cond.classLink RX10 35 RX1 ∈ twl := twl_of 129 rfl rfl
set_option maxRecDepth 20000 in
theorem wlX10_38 : Cond.classLink RX10 38 RX2 ∈ twl := twl_of 136 rfl rfl
set_option maxRecDepth 20000 in
theorem wlX10_41 : Cond.classLink RX10 41 RX4 ∈ twl := twl_of 143 rfl rfl
set_option maxRecDepth 20000 in
theorem wfX4_7 : Cond.fieldLink RX4 7 RX4 "kind" "LBoneRods$Kind;" ∈ twl := twl_of 150 rfl rfl
set_option maxRecDepth 20000 in
theorem wfX10_144 : Cond.fieldLinkNest RX10 144 RX4 "kind" "LBoneRods$Kind;" "BoneRods" ∈ nwl := nwl_of 151 rfl rfl
set_option maxRecDepth 20000 in
theorem wfX10_327 : Cond.fieldLinkNest RX10 327 RX4 "kindNumber" "I" "BoneRods" ∈ nwl := nwl_of 152 rfl rfl
set_option maxRecDepth 20000 in
theorem wfX10_330 : Cond.fieldLinkNest RX10 330 RX4 "digit" "I" "BoneRods" ∈ nwl := nwl_of 153 rfl rfl
set_option maxRecDepth 20000 in
theorem wfX10_238 : Cond.fieldLinkNest RX10 238 RX4 "mark" "I" "BoneRods" ∈ nwl := nwl_of 154 rfl rfl
set_option maxRecDepth 20000 in
theorem wlX10_50 : Cond.classLink RX10 50 RX0 ∈ twl := twl_of 164 rfl rfl
set_option maxRecDepth 20000 in
theorem wfX0_9 : Cond.fieldLink RX0 9 RX0 "frame" "[I" ∈ twl := twl_of 170 rfl rfl
set_option maxRecDepth 20000 in
theorem wfX10_185 : Cond.fieldLinkNest RX10 185 RX0 "frame" "[I" "BoneRods" ∈ nwl := nwl_of 171 rfl rfl
set_option maxRecDepth 20000 in
theorem wfX0_24 : Cond.fieldLink RX0 24 RX0 "held" "I" ∈ twl := twl_of 172 rfl rfl
set_option maxRecDepth 20000 in
theorem wfX10_175 : Cond.fieldLinkNest RX10 175 RX0 "held" "I" "BoneRods" ∈ nwl := nwl_of 173 rfl rfl
set_option maxRecDepth 20000 in
theorem wfX0_28 : Cond.fieldLink RX0 28 RX0 "overs" "I" ∈ twl := twl_of 174 rfl rfl
set_option maxRecDepth 20000 in
theorem wfX10_290 : Cond.fieldLinkNest RX10 290 RX0 "overs" "I" "BoneRods" ∈ nwl := nwl_of 175 rfl rfl
set_option maxRecDepth 20000 in
theorem wfX0_15 : Cond.fieldLink RX0 15 RX0 "deeds" "[I" ∈ twl := twl_of 176 rfl rfl
set_option maxRecDepth 20000 in
theorem wfX0_18 : Cond.fieldLink RX0 18 RX0 "firsts" "[I" ∈ twl := twl_of 177 rfl rfl
set_option maxRecDepth 20000 in
theorem wfX0_21 : Cond.fieldLink RX0 21 RX0 "seconds" "[I" ∈ twl := twl_of 178 rfl rfl
set_option maxRecDepth 20000 in
theorem wfX0_31 : Cond.fieldLink RX0 31 RX0 "done" "I" ∈ twl := twl_of 179 rfl rfl
set_option maxRecDepth 20000 in
theorem wfX10_191 : Cond.fieldLinkNest RX10 191 RX0 "done" "I" "BoneRods" ∈ nwl := nwl_of 180 rfl rfl
set_option maxRecDepth 20000 in
theorem wfX10_130 : Cond.fieldLinkNest RX10 130 RX0 "there" "Z" "BoneRods" ∈ nwl := nwl_of 181 rfl rfl
set_option maxRecDepth 20000 in
theorem wlX10_61 : Cond.classLink RX10 61 RX5 ∈ twl := twl_of 200 rfl rfl
set_option maxRecDepth 20000 in
theorem wfX5_9 : Cond.fieldLink RX5 9 RX5 "shown" "[I" ∈ twl := twl_of 206 rfl rfl
set_option maxRecDepth 20000 in
theorem wfX10_347 : Cond.fieldLinkNest RX10 347 RX5 "shown" "[I" "BoneRods" ∈ nwl := nwl_of 207 rfl rfl
set_option maxRecDepth 20000 in
theorem wfX5_25 : Cond.fieldLink RX5 25 RX5 "rods" "I" ∈ twl := twl_of 208 rfl rfl
set_option maxRecDepth 20000 in
theorem wfX10_345 : Cond.fieldLinkNest RX10 345 RX5 "rods" "I" "BoneRods" ∈ nwl := nwl_of 209 rfl rfl
set_option maxRecDepth 20000 in
theorem wfX5_15 : Cond.fieldLink RX5 15 RX5 "chosen" "[I" ∈ twl := twl_of 210 rfl rfl
set_option maxRecDepth 20000 in
theorem wfX5_18 : Cond.fieldLink RX5 18 RX5 "best" "[I" ∈ twl := twl_of 211 rfl rfl
set_option maxRecDepth 20000 in
theorem wfX10_224 : Cond.fieldLinkNest RX10 224 RX5 "best" "[I" "BoneRods" ∈ nwl := nwl_of 212 rfl rfl
set_option maxRecDepth 20000 in
theorem wfX5_21 : Cond.fieldLink RX5 21 RX5 "goal" "I" ∈ twl := twl_of 213 rfl rfl
set_option maxRecDepth 20000 in
theorem wfX5_34 : Cond.fieldLink RX5 34 RX5 "length" "I" ∈ twl := twl_of 214 rfl rfl
set_option maxRecDepth 20000 in
theorem wfX5_37 : Cond.fieldLink RX5 37 RX5 "gap" "I" ∈ twl := twl_of 215 rfl rfl
set_option maxRecDepth 20000 in
theorem wfX10_11 : Cond.fieldLink RX10 11 RX10 "rows" "[LBoneRods$Strip;" ∈ twl := twl_of 231 rfl rfl
set_option maxRecDepth 20000 in
theorem wfX10_16 : Cond.fieldLink RX10 16 RX10 "texts" "[LBoneRods$Strip;" ∈ twl := twl_of 232 rfl rfl
set_option maxRecDepth 20000 in
theorem wfX10_21 : Cond.fieldLink RX10 21 RX10 "kindOf" "[LBoneRods$Kind;" ∈ twl := twl_of 233 rfl rfl
set_option maxRecDepth 20000 in
theorem wfX10_43 : Cond.fieldLink RX10 43 RX10 "rods" "[LBoneRods$Rod;" ∈ twl := twl_of 234 rfl rfl
set_option maxRecDepth 20000 in
theorem wfX10_134 : Cond.fieldLink RX10 134 RX10 "rodCount" "I" ∈ twl := twl_of 235 rfl rfl
set_option maxRecDepth 20000 in
theorem wfX10_53 : Cond.fieldLink RX10 53 RX10 "bench" "LBoneRods$Bench;" ∈ twl := twl_of 236 rfl rfl
set_option maxRecDepth 20000 in
theorem wfX10_57 : Cond.fieldLink RX10 57 RX10 "kept" "[LBoneRods$Bench;" ∈ twl := twl_of 237 rfl rfl
set_option maxRecDepth 20000 in
theorem wfX10_64 : Cond.fieldLink RX10 64 RX10 "search" "LBoneRods$Search;" ∈ twl := twl_of 238 rfl rfl
set_option maxRecDepth 20000 in
theorem wfX10_95 : Cond.fieldLink RX10 95 RX10 "told" "I" ∈ twl := twl_of 239 rfl rfl
set_option maxRecDepth 20000 in
theorem wfX10_287 : Cond.fieldLink RX10 287 RX10 "upperTold" "J" ∈ twl := twl_of 240 rfl rfl
set_option maxRecDepth 20000 in
theorem wfX10_68 : Cond.fieldLink RX10 68 RX10 "lowerTold" "J" ∈ twl := twl_of 241 rfl rfl
set_option maxRecDepth 20000 in
theorem wfX10_303 : Cond.fieldLink RX10 303 RX10 "latestFinding" "I" ∈ twl := twl_of 242 rfl rfl
set_option maxRecDepth 20000 in
theorem wfX10_72 : Cond.fieldLink RX10 72 RX10 "findingTimes" "[I" ∈ twl := twl_of 243 rfl rfl
set_option maxRecDepth 20000 in
theorem wfX10_318 : Cond.fieldLink RX10 318 RX10 "LETTERS" "[I" ∈ twl := twl_of 344 rfl rfl
set_option maxRecDepth 20000 in
theorem wcX10_215 : Cond.constant RX10 215 99999999 ∈ twl := twl_of 539 rfl rfl
set_option maxRecDepth 20000 in
theorem wfX5_53 : Cond.fieldLinkNest RX5 53 RX10 "TENS" "[I" "BoneRods" ∈ nwl := nwl_of 559 rfl rfl
set_option maxRecDepth 20000 in
theorem wcX10_231 : Cond.constant RX10 231 100000000 ∈ twl := twl_of 572 rfl rfl
set_option maxRecDepth 20000 in
theorem wcX10_317 : Cond.constant RX10 317 999999999 ∈ twl := twl_of 585 rfl rfl
set_option maxRecDepth 20000 in
theorem wcX10_273 : Cond.constantLong RX10 273 12 ∈ twl := twl_of 641 rfl rfl
set_option maxRecDepth 20000 in
theorem wcX10_279 : Cond.constantLong RX10 279 2147483647 ∈ twl := twl_of 657 rfl rfl
set_option maxRecDepth 20000 in
theorem wcX10_281 : Cond.constantLong RX10 281 48271 ∈ twl := twl_of 658 rfl rfl
set_option maxRecDepth 20000 in
theorem wcX10_349 : Cond.constantLong RX10 349 8 ∈ twl := twl_of 663 rfl rfl
set_option maxRecDepth 20000 in
theorem wcX10_351 : Cond.constantLong RX10 351 4 ∈ twl := twl_of 664 rfl rfl
set_option maxRecDepth 20000 in
theorem wcX10_306 : Cond.constantLong RX10 306 17 ∈ twl := twl_of 704 rfl rfl
set_option maxRecDepth 20000 in
theorem wcX10_308 : Cond.constantLong RX10 308 31 ∈ twl := twl_of 705 rfl rfl
set_option maxRecDepth 20000 in
theorem wlL_10 : Cond.classLink RL 10 RX11 ∈ twl := twl_of 710 rfl rfl
set_option maxRecDepth 20000 in
theorem wfX11_7 : Cond.fieldLink RX11 7 RX11 "w" "[I" ∈ twl := twl_of 716 rfl rfl
set_option maxRecDepth 20000 in
theorem wfX11_13 : Cond.fieldLink RX11 13 RX11 "rowSize" "[I" ∈ twl := twl_of 717 rfl rfl
set_option maxRecDepth 20000 in
theorem wfX11_16 : Cond.fieldLink RX11 16 RX11 "ints" "[I" ∈ twl := twl_of 718 rfl rfl
set_option maxRecDepth 20000 in
theorem wfX11_19 : Cond.fieldLink RX11 19 RX11 "textSize" "[I" ∈ twl := twl_of 719 rfl rfl
set_option maxRecDepth 20000 in
theorem wfX11_22 : Cond.fieldLink RX11 22 RX11 "bytes" "[I" ∈ twl := twl_of 720 rfl rfl
set_option maxRecDepth 20000 in
theorem wfX11_56 : Cond.fieldLink RX11 56 RX11 "found" "I" ∈ twl := twl_of 721 rfl rfl
set_option maxRecDepth 20000 in
theorem wfX11_25 : Cond.fieldLink RX11 25 RX11 "finds" "[I" ∈ twl := twl_of 722 rfl rfl
set_option maxRecDepth 20000 in
theorem wfX11_60 : Cond.fieldLink RX11 60 RX11 "asked" "I" ∈ twl := twl_of 723 rfl rfl
set_option maxRecDepth 20000 in
theorem wfX11_63 : Cond.fieldLink RX11 63 RX11 "upper" "J" ∈ twl := twl_of 724 rfl rfl
set_option maxRecDepth 20000 in
theorem wfX11_28 : Cond.fieldLink RX11 28 RX11 "lower" "J" ∈ twl := twl_of 725 rfl rfl
set_option maxRecDepth 20000 in
theorem wfX11_32 : Cond.fieldLink RX11 32 RX11 "held" "[I" ∈ twl := twl_of 726 rfl rfl
set_option maxRecDepth 20000 in
theorem wfX11_95 : Cond.fieldLink RX11 95 RX11 "from" "I" ∈ twl := twl_of 727 rfl rfl
set_option maxRecDepth 20000 in
theorem wfX11_89 : Cond.fieldLink RX11 89 RX11 "place" "I" ∈ twl := twl_of 728 rfl rfl
set_option maxRecDepth 20000 in
theorem wfX11_92 : Cond.fieldLink RX11 92 RX11 "end" "I" ∈ twl := twl_of 729 rfl rfl
set_option maxRecDepth 20000 in
theorem wfX11_105 : Cond.fieldLink RX11 105 RX11 "readMany" "I" ∈ twl := twl_of 730 rfl rfl
set_option maxRecDepth 20000 in
theorem wfX11_35 : Cond.fieldLink RX11 35 RX11 "read" "[I" ∈ twl := twl_of 731 rfl rfl
set_option maxRecDepth 20000 in
theorem wfX11_38 : Cond.fieldLink RX11 38 RX11 "tried" "[I" ∈ twl := twl_of 732 rfl rfl
set_option maxRecDepth 20000 in
theorem wfX11_41 : Cond.fieldLink RX11 41 RX11 "soFar" "[I" ∈ twl := twl_of 733 rfl rfl
set_option maxRecDepth 20000 in
theorem wfX11_44 : Cond.fieldLink RX11 44 RX11 "best" "[I" ∈ twl := twl_of 734 rfl rfl
set_option maxRecDepth 20000 in
theorem wfX11_176 : Cond.fieldLink RX11 176 RX11 "depth" "I" ∈ twl := twl_of 735 rfl rfl
set_option maxRecDepth 20000 in
theorem wfX11_47 : Cond.fieldLink RX11 47 RX11 "turnRod" "[I" ∈ twl := twl_of 736 rfl rfl
set_option maxRecDepth 20000 in
theorem wfX11_50 : Cond.fieldLink RX11 50 RX11 "turnRead" "[I" ∈ twl := twl_of 737 rfl rfl
set_option maxRecDepth 20000 in
theorem wfX11_53 : Cond.fieldLink RX11 53 RX11 "turnBest" "[I" ∈ twl := twl_of 738 rfl rfl
set_option maxRecDepth 20000 in
theorem wfX11_252 : Cond.fieldLink RX11 252 RX11 "h" "J" ∈ twl := twl_of 739 rfl rfl
set_option maxRecDepth 20000 in
theorem wcX11_66 : Cond.constantLong RX11 66 5 ∈ twl := twl_of 796 rfl rfl
set_option maxRecDepth 20000 in
theorem wcX11_72 : Cond.constantLong RX11 72 3 ∈ twl := twl_of 835 rfl rfl
set_option maxRecDepth 20000 in
theorem wcX11_74 : Cond.constantLong RX11 74 9 ∈ twl := twl_of 859 rfl rfl
set_option maxRecDepth 20000 in
theorem wcX11_136 : Cond.constantLong RX11 136 4 ∈ twl := twl_of 872 rfl rfl
set_option maxRecDepth 20000 in
theorem wcX11_164 : Cond.constantLong RX11 164 2 ∈ twl := twl_of 952 rfl rfl
set_option maxRecDepth 20000 in
theorem wcX11_179 : Cond.constantLong RX11 179 99999999 ∈ twl := twl_of 985 rfl rfl
set_option maxRecDepth 20000 in
theorem wcX11_191 : Cond.constantLong RX11 191 9999 ∈ twl := twl_of 1006 rfl rfl
set_option maxRecDepth 20000 in
theorem wcX11_193 : Cond.constant RX11 193 1000000000 ∈ twl := twl_of 1007 rfl rfl
set_option maxRecDepth 20000 in
theorem wcX11_194 : Cond.constantLong RX11 194 999999999 ∈ twl := twl_of 1016 rfl rfl
set_option maxRecDepth 20000 in
theorem wcX11_212 : Cond.constantLong RX11 212 12 ∈ twl := twl_of 1057 rfl rfl
set_option maxRecDepth 20000 in
theorem wcX11_225 : Cond.constantLong RX11 225 20 ∈ twl := twl_of 1074 rfl rfl
set_option maxRecDepth 20000 in
theorem wcX11_227 : Cond.constantLong RX11 227 2147483646 ∈ twl := twl_of 1075 rfl rfl
set_option maxRecDepth 20000 in
theorem wcX11_229 : Cond.constantLong RX11 229 48271 ∈ twl := twl_of 1076 rfl rfl
set_option maxRecDepth 20000 in
theorem wcX11_231 : Cond.constantLong RX11 231 2147483647 ∈ twl := twl_of 1077 rfl rfl
set_option maxRecDepth 20000 in
theorem wcX11_233 : Cond.constantLong RX11 233 8 ∈ twl := twl_of 1078 rfl rfl
set_option maxRecDepth 20000 in
theorem wcX11_255 : Cond.constantLong RX11 255 17 ∈ twl := twl_of 1127 rfl rfl
set_option maxRecDepth 20000 in
theorem wcX11_250 : Cond.constantLong RX11 250 31 ∈ twl := twl_of 1133 rfl rfl
set_option maxRecDepth 20000 in
theorem wcX11_264 : Cond.constantLong RX11 264 (-1) ∈ twl := twl_of 1134 rfl rfl
set_option maxRecDepth 20000 in
theorem wyX1_X9 : Cond.castable RX1 RX9 ∈ nwl := nwl_of 1136 rfl rfl
set_option maxRecDepth 20000 in
theorem wyX2_X8 : Cond.castable RX2 RX8 ∈ nwl := nwl_of 1137 rfl rfl
set_option maxRecDepth 20000 in
theorem wyX9_X3 : Cond.castable RX9 RX3 ∈ nwl := nwl_of 1138 rfl rfl
set_option maxRecDepth 20000 in
theorem wyX8_X3 : Cond.castable RX8 RX3 ∈ nwl := nwl_of 1139 rfl rfl
set_option maxRecDepth 20000 in
theorem wyX6_X3 : Cond.castable RX6 RX3 ∈ nwl := nwl_of 1140 rfl rfl
set_option maxRecDepth 20000 in
theorem wyX1_X3 : Cond.castable RX1 RX3 ∈ nwl := nwl_of 1141 rfl rfl
set_option maxRecDepth 20000 in
theorem wyX2_X3 : Cond.castable RX2 RX3 ∈ nwl := nwl_of 1142 rfl rfl
set_option maxRecDepth 20000 in
theorem nuX0 : ∀ w ∈ wsX00, w ∈ twl := twl_mem ngX0 (by decide +kernel)
set_option maxRecDepth 20000 in
theorem nuX1 : ∀ w ∈ wsX10, w ∈ twl := twl_mem ngX1 (by decide +kernel)
set_option maxRecDepth 20000 in
theorem nuX2 : ∀ w ∈ wsX20, w ∈ twl := twl_mem ngX2 (by decide +kernel)
set_option maxRecDepth 20000 in
theorem nuX3 : ∀ w ∈ wsX30, w ∈ twl := twl_mem ngX3 (by decide +kernel)
set_option maxRecDepth 20000 in
theorem nuX4 : ∀ w ∈ wsX40, w ∈ twl := twl_mem ngX4 (by decide +kernel)
set_option maxRecDepth 20000 in
theorem nuX5 : ∀ w ∈ wsX50, w ∈ twl := twl_mem ngX5 (by decide +kernel)
set_option maxRecDepth 20000 in
theorem nuX6 : ∀ w ∈ wsX60, w ∈ twl := twl_mem ngX6 (by decide +kernel)
set_option maxRecDepth 20000 in
theorem nuX7 : ∀ w ∈ wsX70, w ∈ twl := twl_mem ngX7 (by decide +kernel)
set_option maxRecDepth 20000 in
theorem nuX8 : ∀ w ∈ wsX80, w ∈ twl := twl_mem ngX8 (by decide +kernel)
set_option maxRecDepth 20000 in
theorem nuX9 : ∀ w ∈ wsX90, w ∈ twl := twl_mem ngX9 (by decide +kernel)
set_option maxRecDepth 20000 in
theorem nuX10 : ∀ w ∈ wsX100, w ∈ twl := twl_mem ngX10 (by decide +kernel)
set_option maxRecDepth 20000 in
theorem nuX11 : ∀ w ∈ wsX110, w ∈ twl := twl_mem ngX11 (by decide +kernel)
end
