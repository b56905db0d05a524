section
-- ===== PART A: goes FIRST, ahead of the names: the tables' words, and 'selects' of the private methods out of them =====
/-- a private method of a class that the tables say can be made, by its rows of tables_1 -/
def lw_okq (q : MethodName × Nat) : Prop := (q.1.cls ≠ "java/lang/invoke/MethodHandle" ∧ q.1.cls ≠ "java/lang/invoke/VarHandle") ∧ Cond.instantiable q.1.cls q.2 ∈ tables_1 ∧ Cond.privateMethod q.1 ∈ tables_1 ∧ Cond.instanceMethod q.1 ∈ tables_1
theorem lw_p0 : lw_okq (⟨"ScorePress", "barsBegun", "()I"⟩, 8) := ⟨⟨by decide +kernel, by decide +kernel⟩, List.mem_of_getElem? (i := 14) (by decide +kernel), List.mem_of_getElem? (i := 120) (by decide +kernel), List.mem_of_getElem? (i := 121) (by decide +kernel)⟩
theorem lw_p1 : lw_okq (⟨"ScorePress", "countEvents", "()I"⟩, 8) := ⟨⟨by decide +kernel, by decide +kernel⟩, List.mem_of_getElem? (i := 14) (by decide +kernel), List.mem_of_getElem? (i := 159) (by decide +kernel), List.mem_of_getElem? (i := 160) (by decide +kernel)⟩
theorem lw_p2 : lw_okq (⟨"java/lang/Throwable", "fillInStackTrace", "(I)Ljava/lang/Throwable;"⟩, 6) := ⟨⟨by decide +kernel, by decide +kernel⟩, List.mem_of_getElem? (i := 215) (by decide +kernel), List.mem_of_getElem? (i := 213) (by decide +kernel), List.mem_of_getElem? (i := 214) (by decide +kernel)⟩
theorem lw_p3 : lw_okq (⟨"ScorePress", "greatestEnd", "()I"⟩, 8) := ⟨⟨by decide +kernel, by decide +kernel⟩, List.mem_of_getElem? (i := 14) (by decide +kernel), List.mem_of_getElem? (i := 245) (by decide +kernel), List.mem_of_getElem? (i := 246) (by decide +kernel)⟩
theorem lw_p4 : lw_okq (⟨"ScorePress", "digestEvents", "(J)J"⟩, 8) := ⟨⟨by decide +kernel, by decide +kernel⟩, List.mem_of_getElem? (i := 14) (by decide +kernel), List.mem_of_getElem? (i := 257) (by decide +kernel), List.mem_of_getElem? (i := 258) (by decide +kernel)⟩
theorem lw_p5 : lw_okq (⟨"ScorePress", "refreshEvents", "()V"⟩, 8) := ⟨⟨by decide +kernel, by decide +kernel⟩, List.mem_of_getElem? (i := 14) (by decide +kernel), List.mem_of_getElem? (i := 261) (by decide +kernel), List.mem_of_getElem? (i := 262) (by decide +kernel)⟩
theorem lw_p6 : lw_okq (⟨"ScorePress$EventRows", "findEarliest", "([LScorePress$Voice;I)I"⟩, 2) := ⟨⟨by decide +kernel, by decide +kernel⟩, List.mem_of_getElem? (i := 24) (by decide +kernel), List.mem_of_getElem? (i := 269) (by decide +kernel), List.mem_of_getElem? (i := 270) (by decide +kernel)⟩
theorem lw_p7 : lw_okq (⟨"ScorePress$EventRows", "put", "(IILScorePress$Voice;)V"⟩, 2) := ⟨⟨by decide +kernel, by decide +kernel⟩, List.mem_of_getElem? (i := 24) (by decide +kernel), List.mem_of_getElem? (i := 282) (by decide +kernel), List.mem_of_getElem? (i := 283) (by decide +kernel)⟩
theorem lw_p8 : lw_okq (⟨"ScorePress", "arrangeAll", "()V"⟩, 8) := ⟨⟨by decide +kernel, by decide +kernel⟩, List.mem_of_getElem? (i := 14) (by decide +kernel), List.mem_of_getElem? (i := 338) (by decide +kernel), List.mem_of_getElem? (i := 339) (by decide +kernel)⟩
theorem lw_p9 : lw_okq (⟨"ScorePress$Voice", "arrangeTones", "()V"⟩, 12) := ⟨⟨by decide +kernel, by decide +kernel⟩, List.mem_of_getElem? (i := 40) (by decide +kernel), List.mem_of_getElem? (i := 346) (by decide +kernel), List.mem_of_getElem? (i := 347) (by decide +kernel)⟩
theorem lw_p10 : lw_okq (⟨"ScorePress$Voice", "arrangeSounds", "()V"⟩, 12) := ⟨⟨by decide +kernel, by decide +kernel⟩, List.mem_of_getElem? (i := 40) (by decide +kernel), List.mem_of_getElem? (i := 355) (by decide +kernel), List.mem_of_getElem? (i := 356) (by decide +kernel)⟩
theorem lw_p11 : lw_okq (⟨"ScorePress$Voice", "arrangeSigns", "(I)V"⟩, 12) := ⟨⟨by decide +kernel, by decide +kernel⟩, List.mem_of_getElem? (i := 40) (by decide +kernel), List.mem_of_getElem? (i := 359) (by decide +kernel), List.mem_of_getElem? (i := 360) (by decide +kernel)⟩
theorem lw_p12 : lw_okq (⟨"ScorePress$Voice", "arrangeBeams", "(I)V"⟩, 12) := ⟨⟨by decide +kernel, by decide +kernel⟩, List.mem_of_getElem? (i := 40) (by decide +kernel), List.mem_of_getElem? (i := 372) (by decide +kernel), List.mem_of_getElem? (i := 373) (by decide +kernel)⟩
theorem lw_p13 : lw_okq (⟨"ScorePress$Voice", "isGrouped", "(II)Z"⟩, 12) := ⟨⟨by decide +kernel, by decide +kernel⟩, List.mem_of_getElem? (i := 40) (by decide +kernel), List.mem_of_getElem? (i := 376) (by decide +kernel), List.mem_of_getElem? (i := 377) (by decide +kernel)⟩
theorem lw_p14 : lw_okq (⟨"ScorePress$Voice", "isShortNote", "(I)Z"⟩, 12) := ⟨⟨by decide +kernel, by decide +kernel⟩, List.mem_of_getElem? (i := 40) (by decide +kernel), List.mem_of_getElem? (i := 380) (by decide +kernel), List.mem_of_getElem? (i := 381) (by decide +kernel)⟩
theorem lw_p15 : lw_okq (⟨"ScorePress", "requireVoice", "(I)V"⟩, 8) := ⟨⟨by decide +kernel, by decide +kernel⟩, List.mem_of_getElem? (i := 14) (by decide +kernel), List.mem_of_getElem? (i := 431) (by decide +kernel), List.mem_of_getElem? (i := 432) (by decide +kernel)⟩
def lw_privs_1 : List (MethodName × Nat) := [(⟨"ScorePress", "barsBegun", "()I"⟩, 8), (⟨"ScorePress", "countEvents", "()I"⟩, 8), (⟨"java/lang/Throwable", "fillInStackTrace", "(I)Ljava/lang/Throwable;"⟩, 6), (⟨"ScorePress", "greatestEnd", "()I"⟩, 8), (⟨"ScorePress", "digestEvents", "(J)J"⟩, 8), (⟨"ScorePress", "refreshEvents", "()V"⟩, 8), (⟨"ScorePress$EventRows", "findEarliest", "([LScorePress$Voice;I)I"⟩, 2), (⟨"ScorePress$EventRows", "put", "(IILScorePress$Voice;)V"⟩, 2), (⟨"ScorePress", "arrangeAll", "()V"⟩, 8), (⟨"ScorePress$Voice", "arrangeTones", "()V"⟩, 12), (⟨"ScorePress$Voice", "arrangeSounds", "()V"⟩, 12), (⟨"ScorePress$Voice", "arrangeSigns", "(I)V"⟩, 12), (⟨"ScorePress$Voice", "arrangeBeams", "(I)V"⟩, 12), (⟨"ScorePress$Voice", "isGrouped", "(II)Z"⟩, 12), (⟨"ScorePress$Voice", "isShortNote", "(I)Z"⟩, 12), (⟨"ScorePress", "requireVoice", "(I)V"⟩, 8)]
theorem lw_r1 : ∀ q ∈ lw_privs_1, lw_okq q := List.forall_mem_cons.mpr ⟨lw_p0, List.forall_mem_cons.mpr ⟨lw_p1, List.forall_mem_cons.mpr ⟨lw_p2, List.forall_mem_cons.mpr ⟨lw_p3, List.forall_mem_cons.mpr ⟨lw_p4, List.forall_mem_cons.mpr ⟨lw_p5, List.forall_mem_cons.mpr ⟨lw_p6, List.forall_mem_cons.mpr ⟨lw_p7, List.forall_mem_cons.mpr ⟨lw_p8, List.forall_mem_cons.mpr ⟨lw_p9, List.forall_mem_cons.mpr ⟨lw_p10, List.forall_mem_cons.mpr ⟨lw_p11, List.forall_mem_cons.mpr ⟨lw_p12, List.forall_mem_cons.mpr ⟨lw_p13, List.forall_mem_cons.mpr ⟨lw_p14, List.forall_mem_cons.mpr ⟨lw_p15, fun _ h => absurd h List.not_mem_nil⟩⟩⟩⟩⟩⟩⟩⟩⟩⟩⟩⟩⟩⟩⟩⟩
theorem lw_p16 : lw_okq (⟨"ScorePress", "addPieces", "(LScorePress$Voice;I)I"⟩, 8) := ⟨⟨by decide +kernel, by decide +kernel⟩, List.mem_of_getElem? (i := 14) (by decide +kernel), List.mem_of_getElem? (i := 445) (by decide +kernel), List.mem_of_getElem? (i := 446) (by decide +kernel)⟩
theorem lw_p17 : lw_okq (⟨"ScorePress", "planPieces", "(II)I"⟩, 8) := ⟨⟨by decide +kernel, by decide +kernel⟩, List.mem_of_getElem? (i := 14) (by decide +kernel), List.mem_of_getElem? (i := 449) (by decide +kernel), List.mem_of_getElem? (i := 450) (by decide +kernel)⟩
theorem lw_p18 : lw_okq (⟨"ScorePress", "arrangeOne", "(LScorePress$Voice;)V"⟩, 8) := ⟨⟨by decide +kernel, by decide +kernel⟩, List.mem_of_getElem? (i := 14) (by decide +kernel), List.mem_of_getElem? (i := 471) (by decide +kernel), List.mem_of_getElem? (i := 472) (by decide +kernel)⟩
theorem lw_p19 : lw_okq (⟨"ScorePress", "requireElement", "(II)V"⟩, 8) := ⟨⟨by decide +kernel, by decide +kernel⟩, List.mem_of_getElem? (i := 14) (by decide +kernel), List.mem_of_getElem? (i := 501) (by decide +kernel), List.mem_of_getElem? (i := 502) (by decide +kernel)⟩
theorem lw_p20 : lw_okq (⟨"ScorePressModel", "fail", "(I)I"⟩, 12) := ⟨⟨by decide +kernel, by decide +kernel⟩, List.mem_of_getElem? (i := 597) (by decide +kernel), List.mem_of_getElem? (i := 652) (by decide +kernel), List.mem_of_getElem? (i := 653) (by decide +kernel)⟩
theorem lw_p21 : lw_okq (⟨"ScorePressModel", "bar", "()I"⟩, 12) := ⟨⟨by decide +kernel, by decide +kernel⟩, List.mem_of_getElem? (i := 597) (by decide +kernel), List.mem_of_getElem? (i := 656) (by decide +kernel), List.mem_of_getElem? (i := 657) (by decide +kernel)⟩
theorem lw_p22 : lw_okq (⟨"ScorePressModel", "scoreTold", "(I)I"⟩, 12) := ⟨⟨by decide +kernel, by decide +kernel⟩, List.mem_of_getElem? (i := 597) (by decide +kernel), List.mem_of_getElem? (i := 672) (by decide +kernel), List.mem_of_getElem? (i := 673) (by decide +kernel)⟩
theorem lw_p23 : lw_okq (⟨"ScorePressModel", "barsBegun", "()I"⟩, 12) := ⟨⟨by decide +kernel, by decide +kernel⟩, List.mem_of_getElem? (i := 597) (by decide +kernel), List.mem_of_getElem? (i := 676) (by decide +kernel), List.mem_of_getElem? (i := 677) (by decide +kernel)⟩
theorem lw_p24 : lw_okq (⟨"ScorePressModel", "findTimes", "(I)V"⟩, 12) := ⟨⟨by decide +kernel, by decide +kernel⟩, List.mem_of_getElem? (i := 597) (by decide +kernel), List.mem_of_getElem? (i := 680) (by decide +kernel), List.mem_of_getElem? (i := 681) (by decide +kernel)⟩
theorem lw_p25 : lw_okq (⟨"ScorePressModel", "length", "(II)I"⟩, 12) := ⟨⟨by decide +kernel, by decide +kernel⟩, List.mem_of_getElem? (i := 597) (by decide +kernel), List.mem_of_getElem? (i := 684) (by decide +kernel), List.mem_of_getElem? (i := 685) (by decide +kernel)⟩
theorem lw_p26 : lw_okq (⟨"ScorePressModel", "get", "(III)I"⟩, 12) := ⟨⟨by decide +kernel, by decide +kernel⟩, List.mem_of_getElem? (i := 597) (by decide +kernel), List.mem_of_getElem? (i := 688) (by decide +kernel), List.mem_of_getElem? (i := 689) (by decide +kernel)⟩
theorem lw_p27 : lw_okq (⟨"ScorePressModel", "signOf", "(I)I"⟩, 12) := ⟨⟨by decide +kernel, by decide +kernel⟩, List.mem_of_getElem? (i := 597) (by decide +kernel), List.mem_of_getElem? (i := 700) (by decide +kernel), List.mem_of_getElem? (i := 701) (by decide +kernel)⟩
theorem lw_p28 : lw_okq (⟨"ScorePressModel", "add", "(IZ[I)I"⟩, 12) := ⟨⟨by decide +kernel, by decide +kernel⟩, List.mem_of_getElem? (i := 597) (by decide +kernel), List.mem_of_getElem? (i := 729) (by decide +kernel), List.mem_of_getElem? (i := 730) (by decide +kernel)⟩
theorem lw_p29 : lw_okq (⟨"ScorePressModel", "isVoice", "(I)Z"⟩, 12) := ⟨⟨by decide +kernel, by decide +kernel⟩, List.mem_of_getElem? (i := 597) (by decide +kernel), List.mem_of_getElem? (i := 733) (by decide +kernel), List.mem_of_getElem? (i := 734) (by decide +kernel)⟩
theorem lw_p30 : lw_okq (⟨"ScorePressModel", "cut", "(II[IZ)I"⟩, 12) := ⟨⟨by decide +kernel, by decide +kernel⟩, List.mem_of_getElem? (i := 597) (by decide +kernel), List.mem_of_getElem? (i := 737) (by decide +kernel), List.mem_of_getElem? (i := 738) (by decide +kernel)⟩
theorem lw_p31 : lw_okq (⟨"ScorePressModel", "isElement", "(II)Z"⟩, 12) := ⟨⟨by decide +kernel, by decide +kernel⟩, List.mem_of_getElem? (i := 597) (by decide +kernel), List.mem_of_getElem? (i := 757) (by decide +kernel), List.mem_of_getElem? (i := 758) (by decide +kernel)⟩
def lw_privs_2 : List (MethodName × Nat) := [(⟨"ScorePress", "addPieces", "(LScorePress$Voice;I)I"⟩, 8), (⟨"ScorePress", "planPieces", "(II)I"⟩, 8), (⟨"ScorePress", "arrangeOne", "(LScorePress$Voice;)V"⟩, 8), (⟨"ScorePress", "requireElement", "(II)V"⟩, 8), (⟨"ScorePressModel", "fail", "(I)I"⟩, 12), (⟨"ScorePressModel", "bar", "()I"⟩, 12), (⟨"ScorePressModel", "scoreTold", "(I)I"⟩, 12), (⟨"ScorePressModel", "barsBegun", "()I"⟩, 12), (⟨"ScorePressModel", "findTimes", "(I)V"⟩, 12), (⟨"ScorePressModel", "length", "(II)I"⟩, 12), (⟨"ScorePressModel", "get", "(III)I"⟩, 12), (⟨"ScorePressModel", "signOf", "(I)I"⟩, 12), (⟨"ScorePressModel", "add", "(IZ[I)I"⟩, 12), (⟨"ScorePressModel", "isVoice", "(I)Z"⟩, 12), (⟨"ScorePressModel", "cut", "(II[IZ)I"⟩, 12), (⟨"ScorePressModel", "isElement", "(II)Z"⟩, 12)]
theorem lw_r2 : ∀ q ∈ lw_privs_2, lw_okq q := List.forall_mem_cons.mpr ⟨lw_p16, List.forall_mem_cons.mpr ⟨lw_p17, List.forall_mem_cons.mpr ⟨lw_p18, List.forall_mem_cons.mpr ⟨lw_p19, List.forall_mem_cons.mpr ⟨lw_p20, List.forall_mem_cons.mpr ⟨lw_p21, List.forall_mem_cons.mpr ⟨lw_p22, List.forall_mem_cons.mpr ⟨lw_p23, List.forall_mem_cons.mpr ⟨lw_p24, List.forall_mem_cons.mpr ⟨lw_p25, List.forall_mem_cons.mpr ⟨lw_p26, List.forall_mem_cons.mpr ⟨lw_p27, List.forall_mem_cons.mpr ⟨lw_p28, List.forall_mem_cons.mpr ⟨lw_p29, List.forall_mem_cons.mpr ⟨lw_p30, List.forall_mem_cons.mpr ⟨lw_p31, fun _ h => absurd h List.not_mem_nil⟩⟩⟩⟩⟩⟩⟩⟩⟩⟩⟩⟩⟩⟩⟩⟩
theorem lw_p32 : lw_okq (⟨"ScorePressModel", "find", "(I)V"⟩, 12) := ⟨⟨by decide +kernel, by decide +kernel⟩, List.mem_of_getElem? (i := 597) (by decide +kernel), List.mem_of_getElem? (i := 765) (by decide +kernel), List.mem_of_getElem? (i := 766) (by decide +kernel)⟩
theorem lw_p33 : lw_okq (⟨"ScorePressModel", "isJoined", "(II)Z"⟩, 12) := ⟨⟨by decide +kernel, by decide +kernel⟩, List.mem_of_getElem? (i := 597) (by decide +kernel), List.mem_of_getElem? (i := 769) (by decide +kernel), List.mem_of_getElem? (i := 770) (by decide +kernel)⟩
theorem lw_p34 : lw_okq (⟨"ScorePressModel", "tone", "(II)I"⟩, 12) := ⟨⟨by decide +kernel, by decide +kernel⟩, List.mem_of_getElem? (i := 597) (by decide +kernel), List.mem_of_getElem? (i := 773) (by decide +kernel), List.mem_of_getElem? (i := 774) (by decide +kernel)⟩
theorem lw_p35 : lw_okq (⟨"ScorePressModel", "canBeam", "(II)Z"⟩, 12) := ⟨⟨by decide +kernel, by decide +kernel⟩, List.mem_of_getElem? (i := 597) (by decide +kernel), List.mem_of_getElem? (i := 777) (by decide +kernel), List.mem_of_getElem? (i := 778) (by decide +kernel)⟩
theorem lw_p36 : lw_okq (⟨"ScorePressModel", "beat", "(II)I"⟩, 12) := ⟨⟨by decide +kernel, by decide +kernel⟩, List.mem_of_getElem? (i := 597) (by decide +kernel), List.mem_of_getElem? (i := 781) (by decide +kernel), List.mem_of_getElem? (i := 782) (by decide +kernel)⟩
theorem lw_p37 : lw_okq (⟨"ScorePressModel", "elementTold", "(III)I"⟩, 12) := ⟨⟨by decide +kernel, by decide +kernel⟩, List.mem_of_getElem? (i := 597) (by decide +kernel), List.mem_of_getElem? (i := 785) (by decide +kernel), List.mem_of_getElem? (i := 786) (by decide +kernel)⟩
theorem lw_p38 : lw_okq (⟨"ScorePressModel", "voiceTold", "(II)I"⟩, 12) := ⟨⟨by decide +kernel, by decide +kernel⟩, List.mem_of_getElem? (i := 597) (by decide +kernel), List.mem_of_getElem? (i := 797) (by decide +kernel), List.mem_of_getElem? (i := 798) (by decide +kernel)⟩
theorem lw_p39 : lw_okq (⟨"ScorePressModel", "place", "(III)I"⟩, 12) := ⟨⟨by decide +kernel, by decide +kernel⟩, List.mem_of_getElem? (i := 597) (by decide +kernel), List.mem_of_getElem? (i := 805) (by decide +kernel), List.mem_of_getElem? (i := 806) (by decide +kernel)⟩
theorem lw_p40 : lw_okq (⟨"ScorePressModel", "faultsOf", "()I"⟩, 12) := ⟨⟨by decide +kernel, by decide +kernel⟩, List.mem_of_getElem? (i := 597) (by decide +kernel), List.mem_of_getElem? (i := 815) (by decide +kernel), List.mem_of_getElem? (i := 816) (by decide +kernel)⟩
theorem lw_p41 : lw_okq (⟨"ScorePressModel", "parallels", "(II)I"⟩, 12) := ⟨⟨by decide +kernel, by decide +kernel⟩, List.mem_of_getElem? (i := 597) (by decide +kernel), List.mem_of_getElem? (i := 819) (by decide +kernel), List.mem_of_getElem? (i := 820) (by decide +kernel)⟩
theorem lw_p42 : lw_okq (⟨"ScorePressModel", "begins", "(II)I"⟩, 12) := ⟨⟨by decide +kernel, by decide +kernel⟩, List.mem_of_getElem? (i := 597) (by decide +kernel), List.mem_of_getElem? (i := 823) (by decide +kernel), List.mem_of_getElem? (i := 824) (by decide +kernel)⟩
theorem lw_p43 : lw_okq (⟨"ScorePressModel", "sounding", "(II)I"⟩, 12) := ⟨⟨by decide +kernel, by decide +kernel⟩, List.mem_of_getElem? (i := 597) (by decide +kernel), List.mem_of_getElem? (i := 831) (by decide +kernel), List.mem_of_getElem? (i := 832) (by decide +kernel)⟩
theorem lw_p44 : lw_okq (⟨"ScorePressModel", "findEvents", "()V"⟩, 12) := ⟨⟨by decide +kernel, by decide +kernel⟩, List.mem_of_getElem? (i := 597) (by decide +kernel), List.mem_of_getElem? (i := 839) (by decide +kernel), List.mem_of_getElem? (i := 840) (by decide +kernel)⟩
theorem lw_p45 : lw_okq (⟨"ScorePressModel", "put", "(IIII)V"⟩, 12) := ⟨⟨by decide +kernel, by decide +kernel⟩, List.mem_of_getElem? (i := 597) (by decide +kernel), List.mem_of_getElem? (i := 843) (by decide +kernel), List.mem_of_getElem? (i := 844) (by decide +kernel)⟩
theorem lw_p46 : lw_okq (⟨"ScorePressModel", "isLater", "(IIII)Z"⟩, 12) := ⟨⟨by decide +kernel, by decide +kernel⟩, List.mem_of_getElem? (i := 597) (by decide +kernel), List.mem_of_getElem? (i := 847) (by decide +kernel), List.mem_of_getElem? (i := 848) (by decide +kernel)⟩
def lw_privs_3 : List (MethodName × Nat) := [(⟨"ScorePressModel", "find", "(I)V"⟩, 12), (⟨"ScorePressModel", "isJoined", "(II)Z"⟩, 12), (⟨"ScorePressModel", "tone", "(II)I"⟩, 12), (⟨"ScorePressModel", "canBeam", "(II)Z"⟩, 12), (⟨"ScorePressModel", "beat", "(II)I"⟩, 12), (⟨"ScorePressModel", "elementTold", "(III)I"⟩, 12), (⟨"ScorePressModel", "voiceTold", "(II)I"⟩, 12), (⟨"ScorePressModel", "place", "(III)I"⟩, 12), (⟨"ScorePressModel", "faultsOf", "()I"⟩, 12), (⟨"ScorePressModel", "parallels", "(II)I"⟩, 12), (⟨"ScorePressModel", "begins", "(II)I"⟩, 12), (⟨"ScorePressModel", "sounding", "(II)I"⟩, 12), (⟨"ScorePressModel", "findEvents", "()V"⟩, 12), (⟨"ScorePressModel", "put", "(IIII)V"⟩, 12), (⟨"ScorePressModel", "isLater", "(IIII)Z"⟩, 12)]
theorem lw_r3 : ∀ q ∈ lw_privs_3, lw_okq q := List.forall_mem_cons.mpr ⟨lw_p32, List.forall_mem_cons.mpr ⟨lw_p33, List.forall_mem_cons.mpr ⟨lw_p34, List.forall_mem_cons.mpr ⟨lw_p35, List.forall_mem_cons.mpr ⟨lw_p36, List.forall_mem_cons.mpr ⟨lw_p37, List.forall_mem_cons.mpr ⟨lw_p38, List.forall_mem_cons.mpr ⟨lw_p39, List.forall_mem_cons.mpr ⟨lw_p40, List.forall_mem_cons.mpr ⟨lw_p41, List.forall_mem_cons.mpr ⟨lw_p42, List.forall_mem_cons.mpr ⟨lw_p43, List.forall_mem_cons.mpr ⟨lw_p44, List.forall_mem_cons.mpr ⟨lw_p45, List.forall_mem_cons.mpr ⟨lw_p46, fun _ h => absurd h List.not_mem_nil⟩⟩⟩⟩⟩⟩⟩⟩⟩⟩⟩⟩⟩⟩⟩
def lw_privs : List (MethodName × Nat) := lw_privs_1 ++ (lw_privs_2 ++ (lw_privs_3))
def lw_tbl : List Cond := k2_sels lw_privs ++ tables_1
theorem lw_privs_ok : ∀ q ∈ lw_privs, lw_okq q := by
  show ∀ q ∈ lw_privs_1 ++ (lw_privs_2 ++ (lw_privs_3)), lw_okq q
  exact List.forall_mem_append.mpr ⟨lw_r1, List.forall_mem_append.mpr ⟨lw_r2, lw_r3⟩⟩
/-- the streams that the claim lets the run draw from -/
abbrev lw_cs : List Choice := [Jvm.Choice.named "NaN.bits"]
theorem lw_bits : nanBits ∈ lw_cs := by first | decide | exact List.mem_cons_self | simp [lw_cs, nanBits]
/-- the good words of the tables -/
def lw_all : List Cond := lw_tbl.filter goodWord
theorem lw_all_tbl {w : Cond} (h : w ∈ lw_all) : w ∈ lw_tbl := (List.mem_filter.mp h).1
theorem lw_all_of {w : Cond} (h : w ∈ lw_tbl) (hg : goodWord w = true) : w ∈ lw_all := List.mem_filter.mpr ⟨h, hg⟩
theorem lw_all_t {w : Cond} (i : Nat) (h : tables_1[i]? = some w) (hg : goodWord w = true) : w ∈ lw_all := lw_all_of (List.mem_append_right _ (List.mem_of_getElem? h)) hg
theorem lw_all_s {w : Cond} (i : Nat) (h : (k2_sels lw_privs)[i]? = some w) (hg : goodWord w = true) : w ∈ lw_all := lw_all_of (List.mem_append_left _ (List.mem_of_getElem? h)) hg
theorem lw_tbl_t {w : Cond} (i : Nat) (h : tables_1[i]? = some w) : w ∈ lw_tbl := List.mem_append_right _ (List.mem_of_getElem? h)
/-- a method's words: its own code, and all good words -/
abbrev lw_m (y : MethodName) (cc : ByteArray) (n : Nat) (ret : Option FieldType) : List Cond := Cond.code y cc n ret :: lw_all
abbrev lw_mw (y : MethodName) (cc : ByteArray) (n : Nat) (ret : Option FieldType) (hh : List (Nat × Nat × Nat × Nat)) : List Cond := Cond.codeWith y cc n ret hh :: lw_all
theorem lw_good {w : Cond} (h : w ∈ lw_all) : (w.onTables && w.keeps) = true ∨ ∃ ty, w = .arrayClass ty := good_of_word (List.mem_filter.mp h).2
theorem lw_inm {y : MethodName} {cc : ByteArray} {n : Nat} {ret : Option FieldType} (h : Cond.code y cc n ret ∈ lw_all) : GoodIn lw_all (lw_m y cc n ret) := fun w hw => (List.mem_cons.mp hw).elim (fun e => ⟨e ▸ h, lw_good (e ▸ h)⟩) (fun h2 => ⟨h2, lw_good h2⟩)
theorem lw_inw {y : MethodName} {cc : ByteArray} {n : Nat} {ret : Option FieldType} {hh : List (Nat × Nat × Nat × Nat)} (h : Cond.codeWith y cc n ret hh ∈ lw_all) : GoodIn lw_all (lw_mw y cc n ret hh) := fun w hw => (List.mem_cons.mp hw).elim (fun e => ⟨e ▸ h, lw_good (e ▸ h)⟩) (fun h2 => ⟨h2, lw_good h2⟩)
end
section
def RX0 : String := "ScorePress$EventRows"
def TX0 : u_T := fun k => match k with
  | 0 => ("ScorePress$EventRows", "told", "[[I", true)
  | _ => ("ScorePress$EventRows", "done", "[I", true)
def tyX0 : Nat → FieldType := fun k => match k with
  | 0 => .array (.array .int)
  | _ => .array .int
abbrev wsX00 : List Cond := u_ws RX0 TX0 2
theorem nmX0 : ∀ a, a < 2 → ∀ b, b < 2 → a ≠ b → (TX0 a).2.1 ≠ (TX0 b).2.1 := by decide +kernel
theorem tyX0_ok : ∀ k, k < 2 → parseFieldDescriptor (TX0 k).2.2.1 = some (tyX0 k) := by decide +kernel
abbrev cX0_init : ByteArray := prog_2_method_1_code
def yX0_init : MethodName := ⟨RX0, "<init>", "()V"⟩
abbrev cX0_merge : ByteArray := prog_2_method_2_code
def yX0_merge : MethodName := ⟨RX0, "merge", "([LScorePress$Voice;II)V"⟩
abbrev cX0_findEarliest : ByteArray := prog_2_method_3_code
def yX0_findEarliest : MethodName := ⟨RX0, "findEarliest", "([LScorePress$Voice;I)I"⟩
abbrev cX0_rankOf : ByteArray := prog_2_method_4_code
def yX0_rankOf : MethodName := ⟨RX0, "rankOf", "(LScorePress$Voice;I)I"⟩
abbrev cX0_isBeginning : ByteArray := prog_2_method_5_code
def yX0_isBeginning : MethodName := ⟨RX0, "isBeginning", "(I)Z"⟩
abbrev cX0_tickOf : ByteArray := prog_2_method_6_code
def yX0_tickOf : MethodName := ⟨RX0, "tickOf", "(LScorePress$Voice;I)I"⟩
abbrev cX0_put : ByteArray := prog_2_method_7_code
def yX0_put : MethodName := ⟨RX0, "put", "(IILScorePress$Voice;)V"⟩
def RX1 : String := "ScorePress$Voice"
def TX1 : u_T := fun k => match k with
  | 0 => ("ScorePress$Voice", "told", "[[I", true)
  | 1 => ("ScorePress$Voice", "pitches", "[[I", true)
  | 2 => ("ScorePress$Voice", "sounds", "[[I", true)
  | 3 => ("ScorePress$Voice", "heldBars", "[I", true)
  | 4 => ("ScorePress$Voice", "heldSigns", "[I", true)
  | 5 => ("ScorePress$Voice", "count", "I", false)
  | 6 => ("ScorePress$Voice", "end", "I", false)
  | 7 => ("ScorePress$Voice", "soundCount", "I", false)
  | 8 => ("ScorePress$Voice", "beamCount", "I", false)
  | 9 => ("ScorePress$Voice", "shownCount", "I", false)
  | 10 => ("ScorePress$Voice", "greatestTone", "I", false)
  | _ => ("ScorePress$Voice", "leastTone", "I", false)
def tyX1 : Nat → FieldType := fun k => match k with
  | 0 => .array (.array .int)
  | 1 => .array (.array .int)
  | 2 => .array (.array .int)
  | 3 => .array .int
  | 4 => .array .int
  | 5 => .int
  | 6 => .int
  | 7 => .int
  | 8 => .int
  | 9 => .int
  | 10 => .int
  | _ => .int
abbrev wsX10 : List Cond := u_ws RX1 TX1 12
theorem nmX1 : ∀ a, a < 12 → ∀ b, b < 12 → a ≠ b → (TX1 a).2.1 ≠ (TX1 b).2.1 := by decide +kernel
theorem tyX1_ok : ∀ k, k < 12 → parseFieldDescriptor (TX1 k).2.2.1 = some (tyX1 k) := by decide +kernel
abbrev cX1_init : ByteArray := prog_3_method_1_code
def yX1_init : MethodName := ⟨RX1, "<init>", "()V"⟩
abbrev cX1_tell : ByteArray := prog_3_method_2_code
def yX1_tell : MethodName := ⟨RX1, "tell", "(I)I"⟩
abbrev cX1_isNote : ByteArray := prog_3_method_3_code
def yX1_isNote : MethodName := ⟨RX1, "isNote", "(I)Z"⟩
abbrev cX1_isTied : ByteArray := prog_3_method_4_code
def yX1_isTied : MethodName := ⟨RX1, "isTied", "(I)Z"⟩
abbrev cX1_isJoinedToNext : ByteArray := prog_3_method_5_code
def yX1_isJoinedToNext : MethodName := ⟨RX1, "isJoinedToNext", "(I)Z"⟩
abbrev cX1_placeOf : ByteArray := prog_3_method_6_code
def yX1_placeOf : MethodName := ⟨RX1, "placeOf", "(I)I"⟩
abbrev cX1_append : ByteArray := prog_3_method_7_code
def yX1_append : MethodName := ⟨RX1, "append", "(II)V"⟩
abbrev cX1_dropLast : ByteArray := prog_3_method_8_code
def yX1_dropLast : MethodName := ⟨RX1, "dropLast", "()V"⟩
abbrev cX1_putPitch : ByteArray := prog_3_method_9_code
def yX1_putPitch : MethodName := ⟨RX1, "putPitch", "(IIII)V"⟩
abbrev cX1_canTranspose : ByteArray := prog_3_method_10_code
def yX1_canTranspose : MethodName := ⟨RX1, "canTranspose", "(II)Z"⟩
abbrev cX1_moveNotes : ByteArray := prog_3_method_11_code
def yX1_moveNotes : MethodName := ⟨RX1, "moveNotes", "(II)V"⟩
abbrev cX1_countLooseTies : ByteArray := prog_3_method_12_code
def yX1_countLooseTies : MethodName := ⟨RX1, "countLooseTies", "()I"⟩
abbrev cX1_toneAt : ByteArray := prog_3_method_13_code
def yX1_toneAt : MethodName := ⟨RX1, "toneAt", "(I)I"⟩
abbrev cX1_arrange : ByteArray := prog_3_method_14_code
def yX1_arrange : MethodName := ⟨RX1, "arrange", "(II)V"⟩
abbrev cX1_arrangeTones : ByteArray := prog_3_method_15_code
def yX1_arrangeTones : MethodName := ⟨RX1, "arrangeTones", "()V"⟩
abbrev cX1_arrangeSounds : ByteArray := prog_3_method_16_code
def yX1_arrangeSounds : MethodName := ⟨RX1, "arrangeSounds", "()V"⟩
abbrev cX1_arrangeSigns : ByteArray := prog_3_method_17_code
def yX1_arrangeSigns : MethodName := ⟨RX1, "arrangeSigns", "(I)V"⟩
abbrev cX1_arrangeBeams : ByteArray := prog_3_method_18_code
def yX1_arrangeBeams : MethodName := ⟨RX1, "arrangeBeams", "(I)V"⟩
abbrev cX1_isGrouped : ByteArray := prog_3_method_19_code
def yX1_isGrouped : MethodName := ⟨RX1, "isGrouped", "(II)Z"⟩
abbrev cX1_isShortNote : ByteArray := prog_3_method_20_code
def yX1_isShortNote : MethodName := ⟨RX1, "isShortNote", "(I)Z"⟩
def RX2 : String := "ScorePress"
def TX2 : u_T := fun k => match k with
  | 0 => ("ScorePress", "voices", "[LScorePress$Voice;", true)
  | 1 => ("ScorePress", "eventRows", "LScorePress$EventRows;", true)
  | 2 => ("ScorePress", "pieces", "[I", true)
  | 3 => ("ScorePress", "voiceCount", "I", false)
  | 4 => ("ScorePress", "beatTicks", "I", false)
  | 5 => ("ScorePress", "barTicks", "I", false)
  | 6 => ("ScorePress", "key", "I", false)
  | _ => ("ScorePress", "eventsStand", "Z", false)
def tyX2 : Nat → FieldType := fun k => match k with
  | 0 => .array (.object "ScorePress$Voice")
  | 1 => .object "ScorePress$EventRows"
  | 2 => .array .int
  | 3 => .int
  | 4 => .int
  | 5 => .int
  | 6 => .int
  | _ => .boolean
abbrev wsX20 : List Cond := u_ws RX2 TX2 8
theorem nmX2 : ∀ a, a < 8 → ∀ b, b < 8 → a ≠ b → (TX2 a).2.1 ≠ (TX2 b).2.1 := by decide +kernel
theorem tyX2_ok : ∀ k, k < 8 → parseFieldDescriptor (TX2 k).2.2.1 = some (tyX2 k) := by decide +kernel
abbrev cX2_init : ByteArray := prog_1_method_1_code
def yX2_init : MethodName := ⟨RX2, "<init>", "()V"⟩
abbrev cX2_setBars : ByteArray := prog_1_method_2_code
def yX2_setBars : MethodName := ⟨RX2, "setBars", "(II)I"⟩
abbrev cX2_setKey : ByteArray := prog_1_method_3_code
def yX2_setKey : MethodName := ⟨RX2, "setKey", "(I)I"⟩
abbrev cX2_addVoice : ByteArray := prog_1_method_4_code
def yX2_addVoice : MethodName := ⟨RX2, "addVoice", "()I"⟩
abbrev cX2_score : ByteArray := prog_1_method_5_code
def yX2_score : MethodName := ⟨RX2, "score", "(I)I"⟩
abbrev cX2_sign : ByteArray := prog_1_method_6_code
def yX2_sign : MethodName := ⟨RX2, "sign", "(I)I"⟩
abbrev cX2_ticks : ByteArray := prog_1_method_7_code
def yX2_ticks : MethodName := ⟨RX2, "ticks", "(II)I"⟩
abbrev cX2_addNote : ByteArray := prog_1_method_8_code
def yX2_addNote : MethodName := ⟨RX2, "addNote", "(IIIIIIZ)I"⟩
abbrev cX2_addRest : ByteArray := prog_1_method_9_code
def yX2_addRest : MethodName := ⟨RX2, "addRest", "(III)I"⟩
abbrev cX2_removeLast : ByteArray := prog_1_method_10_code
def yX2_removeLast : MethodName := ⟨RX2, "removeLast", "(I)I"⟩
abbrev cX2_tie : ByteArray := prog_1_method_11_code
def yX2_tie : MethodName := ⟨RX2, "tie", "(IIZ)Z"⟩
abbrev cX2_element : ByteArray := prog_1_method_12_code
def yX2_element : MethodName := ⟨RX2, "element", "(III)I"⟩
abbrev cX2_pitch : ByteArray := prog_1_method_13_code
def yX2_pitch : MethodName := ⟨RX2, "pitch", "(III)I"⟩
abbrev cX2_voice : ByteArray := prog_1_method_14_code
def yX2_voice : MethodName := ⟨RX2, "voice", "(II)I"⟩
abbrev cX2_transpose : ByteArray := prog_1_method_15_code
def yX2_transpose : MethodName := ⟨RX2, "transpose", "(II)I"⟩
abbrev cX2_faults : ByteArray := prog_1_method_16_code
def yX2_faults : MethodName := ⟨RX2, "faults", "()I"⟩
abbrev cX2_interval : ByteArray := prog_1_method_17_code
def yX2_interval : MethodName := ⟨RX2, "interval", "(III)I"⟩
abbrev cX2_event : ByteArray := prog_1_method_18_code
def yX2_event : MethodName := ⟨RX2, "event", "(II)I"⟩
abbrev cX2_events : ByteArray := prog_1_method_19_code
def yX2_events : MethodName := ⟨RX2, "events", "()I"⟩
abbrev cX2_time : ByteArray := prog_1_method_20_code
def yX2_time : MethodName := ⟨RX2, "time", "(II)J"⟩
abbrev cX2_meanTone : ByteArray := prog_1_method_21_code
def yX2_meanTone : MethodName := ⟨RX2, "meanTone", "()D"⟩
abbrev cX2_digest : ByteArray := prog_1_method_22_code
def yX2_digest : MethodName := ⟨RX2, "digest", "()J"⟩
abbrev cX2_requireVoice : ByteArray := prog_1_method_23_code
def yX2_requireVoice : MethodName := ⟨RX2, "requireVoice", "(I)V"⟩
abbrev cX2_requireElement : ByteArray := prog_1_method_24_code
def yX2_requireElement : MethodName := ⟨RX2, "requireElement", "(II)V"⟩
abbrev cX2_greatestEnd : ByteArray := prog_1_method_25_code
def yX2_greatestEnd : MethodName := ⟨RX2, "greatestEnd", "()I"⟩
abbrev cX2_barsBegun : ByteArray := prog_1_method_26_code
def yX2_barsBegun : MethodName := ⟨RX2, "barsBegun", "()I"⟩
abbrev cX2_arrangeOne : ByteArray := prog_1_method_27_code
def yX2_arrangeOne : MethodName := ⟨RX2, "arrangeOne", "(LScorePress$Voice;)V"⟩
abbrev cX2_arrangeAll : ByteArray := prog_1_method_28_code
def yX2_arrangeAll : MethodName := ⟨RX2, "arrangeAll", "()V"⟩
abbrev cX2_addPieces : ByteArray := prog_1_method_29_code
def yX2_addPieces : MethodName := ⟨RX2, "addPieces", "(LScorePress$Voice;I)I"⟩
abbrev cX2_planPieces : ByteArray := prog_1_method_30_code
def yX2_planPieces : MethodName := ⟨RX2, "planPieces", "(II)I"⟩
abbrev cX2_greatestValue : ByteArray := prog_1_method_31_code
def yX2_greatestValue : MethodName := ⟨RX2, "greatestValue", "(I)I"⟩
abbrev cX2_findValue : ByteArray := prog_1_method_32_code
def yX2_findValue : MethodName := ⟨RX2, "findValue", "(II)I"⟩
abbrev cX2_wholeParts : ByteArray := prog_1_method_33_code
def yX2_wholeParts : MethodName := ⟨RX2, "wholeParts", "(II)I"⟩
abbrev cX2_isKey : ByteArray := prog_1_method_34_code
def yX2_isKey : MethodName := ⟨RX2, "isKey", "(I)Z"⟩
abbrev cX2_signOfKey : ByteArray := prog_1_method_35_code
def yX2_signOfKey : MethodName := ⟨RX2, "signOfKey", "(II)I"⟩
abbrev cX2_toneOf : ByteArray := prog_1_method_36_code
def yX2_toneOf : MethodName := ⟨RX2, "toneOf", "(III)I"⟩
abbrev cX2_stepAt : ByteArray := prog_1_method_37_code
def yX2_stepAt : MethodName := ⟨RX2, "stepAt", "(I)I"⟩
abbrev cX2_octaveAt : ByteArray := prog_1_method_38_code
def yX2_octaveAt : MethodName := ⟨RX2, "octaveAt", "(I)I"⟩
abbrev cX2_signAt : ByteArray := prog_1_method_39_code
def yX2_signAt : MethodName := ⟨RX2, "signAt", "(II)I"⟩
abbrev cX2_isPitch : ByteArray := prog_1_method_40_code
def yX2_isPitch : MethodName := ⟨RX2, "isPitch", "(III)Z"⟩
abbrev cX2_countParallels : ByteArray := prog_1_method_41_code
def yX2_countParallels : MethodName := ⟨RX2, "countParallels", "(LScorePress$Voice;LScorePress$Voice;)I"⟩
abbrev cX2_isParallel : ByteArray := prog_1_method_42_code
def yX2_isParallel : MethodName := ⟨RX2, "isParallel", "(IIII)Z"⟩
abbrev cX2_countEvents : ByteArray := prog_1_method_43_code
def yX2_countEvents : MethodName := ⟨RX2, "countEvents", "()I"⟩
abbrev cX2_refreshEvents : ByteArray := prog_1_method_44_code
def yX2_refreshEvents : MethodName := ⟨RX2, "refreshEvents", "()V"⟩
abbrev cX2_digestVoice : ByteArray := prog_1_method_45_code
def yX2_digestVoice : MethodName := ⟨RX2, "digestVoice", "(JLScorePress$Voice;)J"⟩
abbrev cX2_digestEvents : ByteArray := prog_1_method_46_code
def yX2_digestEvents : MethodName := ⟨RX2, "digestEvents", "(J)J"⟩
def RX3 : String := "ScorePressModel"
def TX3 : u_T := fun k => match k with
  | 0 => ("ScorePressModel", "thrown", "I", false)
  | 1 => ("ScorePressModel", "beats", "I", false)
  | 2 => ("ScorePressModel", "part", "I", false)
  | 3 => ("ScorePressModel", "key", "I", false)
  | 4 => ("ScorePressModel", "voices", "I", false)
  | 5 => ("ScorePressModel", "many", "[I", true)
  | 6 => ("ScorePressModel", "table", "[[I", true)
  | 7 => ("ScorePressModel", "ends", "[I", true)
  | 8 => ("ScorePressModel", "beams", "[I", true)
  | 9 => ("ScorePressModel", "holding", "[I", true)
  | 10 => ("ScorePressModel", "eventMany", "I", false)
  | _ => ("ScorePressModel", "events", "[I", true)
def tyX3 : Nat → FieldType := fun k => match k with
  | 0 => .int
  | 1 => .int
  | 2 => .int
  | 3 => .int
  | 4 => .int
  | 5 => .array .int
  | 6 => .array (.array .int)
  | 7 => .array .int
  | 8 => .array .int
  | 9 => .array .int
  | 10 => .int
  | _ => .array .int
abbrev wsX30 : List Cond := u_ws RX3 TX3 12
theorem nmX3 : ∀ a, a < 12 → ∀ b, b < 12 → a ≠ b → (TX3 a).2.1 ≠ (TX3 b).2.1 := by decide +kernel
theorem tyX3_ok : ∀ k, k < 12 → parseFieldDescriptor (TX3 k).2.2.1 = some (tyX3 k) := by decide +kernel
abbrev cX3_init : ByteArray := prog_5_method_1_code
def yX3_init : MethodName := ⟨RX3, "<init>", "()V"⟩
abbrev cX3_thrown : ByteArray := prog_5_method_2_code
def yX3_thrown : MethodName := ⟨RX3, "thrown", "()I"⟩
abbrev cX3_fail : ByteArray := prog_5_method_3_code
def yX3_fail : MethodName := ⟨RX3, "fail", "(I)I"⟩
abbrev cX3_isIn : ByteArray := prog_5_method_4_code
def yX3_isIn : MethodName := ⟨RX3, "isIn", "(III)Z"⟩
abbrev cX3_isVoice : ByteArray := prog_5_method_5_code
def yX3_isVoice : MethodName := ⟨RX3, "isVoice", "(I)Z"⟩
abbrev cX3_isElement : ByteArray := prog_5_method_6_code
def yX3_isElement : MethodName := ⟨RX3, "isElement", "(II)Z"⟩
abbrev cX3_get : ByteArray := prog_5_method_7_code
def yX3_get : MethodName := ⟨RX3, "get", "(III)I"⟩
abbrev cX3_bar : ByteArray := prog_5_method_8_code
def yX3_bar : MethodName := ⟨RX3, "bar", "()I"⟩
abbrev cX3_isValue : ByteArray := prog_5_method_9_code
def yX3_isValue : MethodName := ⟨RX3, "isValue", "(II)Z"⟩
abbrev cX3_ticksOf : ByteArray := prog_5_method_10_code
def yX3_ticksOf : MethodName := ⟨RX3, "ticksOf", "(II)I"⟩
abbrev cX3_length : ByteArray := prog_5_method_11_code
def yX3_length : MethodName := ⟨RX3, "length", "(II)I"⟩
abbrev cX3_tone : ByteArray := prog_5_method_12_code
def yX3_tone : MethodName := ⟨RX3, "tone", "(II)I"⟩
abbrev cX3_toneOf : ByteArray := prog_5_method_13_code
def yX3_toneOf : MethodName := ⟨RX3, "toneOf", "(III)I"⟩
abbrev cX3_isPitch : ByteArray := prog_5_method_14_code
def yX3_isPitch : MethodName := ⟨RX3, "isPitch", "(III)Z"⟩
abbrev cX3_signOf : ByteArray := prog_5_method_15_code
def yX3_signOf : MethodName := ⟨RX3, "signOf", "(I)I"⟩
abbrev cX3_setBars : ByteArray := prog_5_method_16_code
def yX3_setBars : MethodName := ⟨RX3, "setBars", "(II)I"⟩
abbrev cX3_setKey : ByteArray := prog_5_method_17_code
def yX3_setKey : MethodName := ⟨RX3, "setKey", "(I)I"⟩
abbrev cX3_addVoice : ByteArray := prog_5_method_18_code
def yX3_addVoice : MethodName := ⟨RX3, "addVoice", "()I"⟩
abbrev cX3_findTimes : ByteArray := prog_5_method_19_code
def yX3_findTimes : MethodName := ⟨RX3, "findTimes", "(I)V"⟩
abbrev cX3_barsBegun : ByteArray := prog_5_method_20_code
def yX3_barsBegun : MethodName := ⟨RX3, "barsBegun", "()I"⟩
abbrev cX3_scoreTold : ByteArray := prog_5_method_21_code
def yX3_scoreTold : MethodName := ⟨RX3, "scoreTold", "(I)I"⟩
abbrev cX3_score : ByteArray := prog_5_method_22_code
def yX3_score : MethodName := ⟨RX3, "score", "(I)I"⟩
abbrev cX3_sign : ByteArray := prog_5_method_23_code
def yX3_sign : MethodName := ⟨RX3, "sign", "(I)I"⟩
abbrev cX3_ticks : ByteArray := prog_5_method_24_code
def yX3_ticks : MethodName := ⟨RX3, "ticks", "(II)I"⟩
abbrev cX3_cut : ByteArray := prog_5_method_25_code
def yX3_cut : MethodName := ⟨RX3, "cut", "(II[IZ)I"⟩
abbrev cX3_add : ByteArray := prog_5_method_26_code
def yX3_add : MethodName := ⟨RX3, "add", "(IZ[I)I"⟩
abbrev cX3_addNote : ByteArray := prog_5_method_27_code
def yX3_addNote : MethodName := ⟨RX3, "addNote", "(IIIIIIZ)I"⟩
abbrev cX3_addRest : ByteArray := prog_5_method_28_code
def yX3_addRest : MethodName := ⟨RX3, "addRest", "(III)I"⟩
abbrev cX3_removeLast : ByteArray := prog_5_method_29_code
def yX3_removeLast : MethodName := ⟨RX3, "removeLast", "(I)I"⟩
abbrev cX3_tie : ByteArray := prog_5_method_30_code
def yX3_tie : MethodName := ⟨RX3, "tie", "(IIZ)Z"⟩
abbrev cX3_isJoined : ByteArray := prog_5_method_31_code
def yX3_isJoined : MethodName := ⟨RX3, "isJoined", "(II)Z"⟩
abbrev cX3_find : ByteArray := prog_5_method_32_code
def yX3_find : MethodName := ⟨RX3, "find", "(I)V"⟩
abbrev cX3_canBeam : ByteArray := prog_5_method_33_code
def yX3_canBeam : MethodName := ⟨RX3, "canBeam", "(II)Z"⟩
abbrev cX3_beat : ByteArray := prog_5_method_34_code
def yX3_beat : MethodName := ⟨RX3, "beat", "(II)I"⟩
abbrev cX3_elementTold : ByteArray := prog_5_method_35_code
def yX3_elementTold : MethodName := ⟨RX3, "elementTold", "(III)I"⟩
abbrev cX3_element : ByteArray := prog_5_method_36_code
def yX3_element : MethodName := ⟨RX3, "element", "(III)I"⟩
abbrev cX3_pitch : ByteArray := prog_5_method_37_code
def yX3_pitch : MethodName := ⟨RX3, "pitch", "(III)I"⟩
abbrev cX3_voiceTold : ByteArray := prog_5_method_38_code
def yX3_voiceTold : MethodName := ⟨RX3, "voiceTold", "(II)I"⟩
abbrev cX3_voice : ByteArray := prog_5_method_39_code
def yX3_voice : MethodName := ⟨RX3, "voice", "(II)I"⟩
abbrev cX3_place : ByteArray := prog_5_method_40_code
def yX3_place : MethodName := ⟨RX3, "place", "(III)I"⟩
abbrev cX3_transpose : ByteArray := prog_5_method_41_code
def yX3_transpose : MethodName := ⟨RX3, "transpose", "(II)I"⟩
abbrev cX3_begins : ByteArray := prog_5_method_42_code
def yX3_begins : MethodName := ⟨RX3, "begins", "(II)I"⟩
abbrev cX3_parallels : ByteArray := prog_5_method_43_code
def yX3_parallels : MethodName := ⟨RX3, "parallels", "(II)I"⟩
abbrev cX3_faultsOf : ByteArray := prog_5_method_44_code
def yX3_faultsOf : MethodName := ⟨RX3, "faultsOf", "()I"⟩
abbrev cX3_faults : ByteArray := prog_5_method_45_code
def yX3_faults : MethodName := ⟨RX3, "faults", "()I"⟩
abbrev cX3_sounding : ByteArray := prog_5_method_46_code
def yX3_sounding : MethodName := ⟨RX3, "sounding", "(II)I"⟩
abbrev cX3_interval : ByteArray := prog_5_method_47_code
def yX3_interval : MethodName := ⟨RX3, "interval", "(III)I"⟩
abbrev cX3_put : ByteArray := prog_5_method_48_code
def yX3_put : MethodName := ⟨RX3, "put", "(IIII)V"⟩
abbrev cX3_isLater : ByteArray := prog_5_method_49_code
def yX3_isLater : MethodName := ⟨RX3, "isLater", "(IIII)Z"⟩
abbrev cX3_findEvents : ByteArray := prog_5_method_50_code
def yX3_findEvents : MethodName := ⟨RX3, "findEvents", "()V"⟩
abbrev cX3_event : ByteArray := prog_5_method_51_code
def yX3_event : MethodName := ⟨RX3, "event", "(II)I"⟩
abbrev cX3_events : ByteArray := prog_5_method_52_code
def yX3_events : MethodName := ⟨RX3, "events", "()I"⟩
abbrev cX3_time : ByteArray := prog_5_method_53_code
def yX3_time : MethodName := ⟨RX3, "time", "(II)J"⟩
abbrev cX3_meanTone : ByteArray := prog_5_method_54_code
def yX3_meanTone : MethodName := ⟨RX3, "meanTone", "()D"⟩
abbrev cX3_digest : ByteArray := prog_5_method_55_code
def yX3_digest : MethodName := ⟨RX3, "digest", "()J"⟩
def RJ9 : String := "java/lang/Math"
def TJ9 : u_T := fun k => match k with
  | _ => ("", "", "", false)
def tyJ9 : Nat → FieldType := fun k => match k with
  | _ => .int
abbrev wsJ90 : List Cond := u_ws RJ9 TJ9 0
theorem nmJ9 : ∀ a, a < 0 → ∀ b, b < 0 → a ≠ b → (TJ9 a).2.1 ≠ (TJ9 b).2.1 := by decide +kernel
theorem tyJ9_ok : ∀ k, k < 0 → parseFieldDescriptor (TJ9 k).2.2.1 = some (tyJ9 k) := by decide +kernel
abbrev cJ9_floorDiv_7cf53 : ByteArray := prog_10_method_47_code
def yJ9_floorDiv_7cf53 : MethodName := ⟨RJ9, "floorDiv", "(II)I"⟩
abbrev cJ9_floorMod_7cf53 : ByteArray := prog_10_method_50_code
def yJ9_floorMod_7cf53 : MethodName := ⟨RJ9, "floorMod", "(II)I"⟩
abbrev cJ9_max_7cf53 : ByteArray := prog_10_method_65_code
def yJ9_max_7cf53 : MethodName := ⟨RJ9, "max", "(II)I"⟩
abbrev cJ9_min_7cf53 : ByteArray := prog_10_method_69_code
def yJ9_min_7cf53 : MethodName := ⟨RJ9, "min", "(II)I"⟩
def RJ0 : String := "java/lang/String"
def TJ0 : u_T := fun k => match k with
  | _ => ("", "", "", false)
def tyJ0 : Nat → FieldType := fun k => match k with
  | _ => .int
abbrev wsJ00 : List Cond := u_ws RJ0 TJ0 0
theorem nmJ0 : ∀ a, a < 0 → ∀ b, b < 0 → a ≠ b → (TJ0 a).2.1 ≠ (TJ0 b).2.1 := by decide +kernel
theorem tyJ0_ok : ∀ k, k < 0 → parseFieldDescriptor (TJ0 k).2.2.1 = some (tyJ0 k) := by decide +kernel
def RJ10 : String := "java/lang/System"
def TJ10 : u_T := fun k => match k with
  | _ => ("", "", "", false)
def tyJ10 : Nat → FieldType := fun k => match k with
  | _ => .int
abbrev wsJ100 : List Cond := u_ws RJ10 TJ10 0
theorem nmJ10 : ∀ a, a < 0 → ∀ b, b < 0 → a ≠ b → (TJ10 a).2.1 ≠ (TJ10 b).2.1 := by decide +kernel
theorem tyJ10_ok : ∀ k, k < 0 → parseFieldDescriptor (TJ10 k).2.2.1 = some (tyJ10 k) := by decide +kernel
def RL : String := "ScorePressLaw"
abbrev cL_setBars : ByteArray := method_3_code
def yL_setBars : MethodName := ⟨RL, "setBars", "(LScorePress;II[J)I"⟩
abbrev cL_setKey : ByteArray := method_4_code
def yL_setKey : MethodName := ⟨RL, "setKey", "(LScorePress;I[J)I"⟩
abbrev cL_addVoice : ByteArray := method_5_code
def yL_addVoice : MethodName := ⟨RL, "addVoice", "(LScorePress;[J)I"⟩
abbrev cL_score : ByteArray := method_6_code
def yL_score : MethodName := ⟨RL, "score", "(LScorePress;I[J)I"⟩
abbrev cL_sign : ByteArray := method_7_code
def yL_sign : MethodName := ⟨RL, "sign", "(LScorePress;I[J)I"⟩
abbrev cL_ticks : ByteArray := method_8_code
def yL_ticks : MethodName := ⟨RL, "ticks", "(LScorePress;II[J)I"⟩
abbrev cL_addNote : ByteArray := method_9_code
def yL_addNote : MethodName := ⟨RL, "addNote", "(LScorePress;IIIIIIZ[J)I"⟩
abbrev cL_addRest : ByteArray := method_10_code
def yL_addRest : MethodName := ⟨RL, "addRest", "(LScorePress;III[J)I"⟩
abbrev cL_removeLast : ByteArray := method_11_code
def yL_removeLast : MethodName := ⟨RL, "removeLast", "(LScorePress;I[J)I"⟩
abbrev cL_tie : ByteArray := method_12_code
def yL_tie : MethodName := ⟨RL, "tie", "(LScorePress;IIZ[J)I"⟩
abbrev cL_element : ByteArray := method_13_code
def yL_element : MethodName := ⟨RL, "element", "(LScorePress;III[J)I"⟩
abbrev cL_pitch : ByteArray := method_14_code
def yL_pitch : MethodName := ⟨RL, "pitch", "(LScorePress;III[J)I"⟩
abbrev cL_voice : ByteArray := method_15_code
def yL_voice : MethodName := ⟨RL, "voice", "(LScorePress;II[J)I"⟩
abbrev cL_transpose : ByteArray := method_16_code
def yL_transpose : MethodName := ⟨RL, "transpose", "(LScorePress;II[J)I"⟩
abbrev cL_interval : ByteArray := method_17_code
def yL_interval : MethodName := ⟨RL, "interval", "(LScorePress;III[J)I"⟩
abbrev cL_event : ByteArray := method_18_code
def yL_event : MethodName := ⟨RL, "event", "(LScorePress;II[J)I"⟩
abbrev cL_time : ByteArray := method_19_code
def yL_time : MethodName := ⟨RL, "time", "(LScorePress;II[J)I"⟩
abbrev cL_law : ByteArray := code
def yL_law : MethodName := ⟨RL, "law", "([I)Z"⟩
abbrev vwCl : List vw_C := [(RX0, TX0, 2), (RX1, TX1, 12), (RX2, TX2, 8), (RX3, TX3, 12)]
end
section
theorem dX0_init_0 : decode cX0_init 0 = .ok (.aload_n 0, 1) := by decide +kernel
theorem dX0_init_1 : decode cX0_init 1 = .ok (.invokespecial 3, 3) := by decide +kernel
theorem dX0_init_4 : decode cX0_init 4 = .ok (.aload_n 0, 1) := by decide +kernel
theorem dX0_init_5 : decode cX0_init 5 = .ok (.iconst 4, 1) := by decide +kernel
theorem dX0_init_6 : decode cX0_init 6 = .ok (.sipush 1600, 3) := by decide +kernel
theorem dX0_init_9 : decode cX0_init 9 = .ok (.multianewarray 9 2, 4) := by decide +kernel
theorem dX0_init_13 : decode cX0_init 13 = .ok (.putfield 11, 3) := by decide +kernel
theorem dX0_init_16 : decode cX0_init 16 = .ok (.aload_n 0, 1) := by decide +kernel
theorem dX0_init_17 : decode cX0_init 17 = .ok (.iconst 4, 1) := by decide +kernel
theorem dX0_init_18 : decode cX0_init 18 = .ok (.newarray .int, 2) := by decide +kernel
theorem dX0_init_20 : decode cX0_init 20 = .ok (.putfield 16, 3) := by decide +kernel
theorem dX0_init_23 : decode cX0_init 23 = .ok (.return_, 1) := by decide +kernel
theorem dX0_merge_0 : decode cX0_merge 0 = .ok (.iconst 0, 1) := by decide +kernel
theorem dX0_merge_1 : decode cX0_merge 1 = .ok (.istore 4, 2) := by decide +kernel
theorem dX0_merge_3 : decode cX0_merge 3 = .ok (.iload 4, 2) := by decide +kernel
theorem dX0_merge_5 : decode cX0_merge 5 = .ok (.iload_n 2, 1) := by decide +kernel
theorem dX0_merge_6 : decode cX0_merge 6 = .ok (.if_icmp .ge 17, 3) := by decide +kernel
theorem dX0_merge_9 : decode cX0_merge 9 = .ok (.aload_n 0, 1) := by decide +kernel
theorem dX0_merge_10 : decode cX0_merge 10 = .ok (.getfield 16, 3) := by decide +kernel
theorem dX0_merge_13 : decode cX0_merge 13 = .ok (.iload 4, 2) := by decide +kernel
theorem dX0_merge_15 : decode cX0_merge 15 = .ok (.iconst 0, 1) := by decide +kernel
theorem dX0_merge_16 : decode cX0_merge 16 = .ok (.iastore, 1) := by decide +kernel
theorem dX0_merge_17 : decode cX0_merge 17 = .ok (.iinc 4 1, 3) := by decide +kernel
theorem dX0_merge_20 : decode cX0_merge 20 = .ok (.goto (-17), 3) := by decide +kernel
theorem dX0_merge_23 : decode cX0_merge 23 = .ok (.iconst 0, 1) := by decide +kernel
theorem dX0_merge_24 : decode cX0_merge 24 = .ok (.istore 4, 2) := by decide +kernel
theorem dX0_merge_26 : decode cX0_merge 26 = .ok (.iload 4, 2) := by decide +kernel
theorem dX0_merge_28 : decode cX0_merge 28 = .ok (.iload_n 3, 1) := by decide +kernel
theorem dX0_merge_29 : decode cX0_merge 29 = .ok (.if_icmp .ge 45, 3) := by decide +kernel
theorem dX0_merge_32 : decode cX0_merge 32 = .ok (.aload_n 0, 1) := by decide +kernel
theorem dX0_merge_33 : decode cX0_merge 33 = .ok (.aload_n 1, 1) := by decide +kernel
theorem dX0_merge_34 : decode cX0_merge 34 = .ok (.iload_n 2, 1) := by decide +kernel
theorem dX0_merge_35 : decode cX0_merge 35 = .ok (.invokevirtual 20, 3) := by decide +kernel
theorem dX0_merge_38 : decode cX0_merge 38 = .ok (.istore 5, 2) := by decide +kernel
theorem dX0_merge_40 : decode cX0_merge 40 = .ok (.iload 5, 2) := by decide +kernel
theorem dX0_merge_42 : decode cX0_merge 42 = .ok (.ifCond .lt 26, 3) := by decide +kernel
theorem dX0_merge_45 : decode cX0_merge 45 = .ok (.aload_n 0, 1) := by decide +kernel
theorem dX0_merge_46 : decode cX0_merge 46 = .ok (.iload 4, 2) := by decide +kernel
theorem dX0_merge_48 : decode cX0_merge 48 = .ok (.iload 5, 2) := by decide +kernel
theorem dX0_merge_50 : decode cX0_merge 50 = .ok (.aload_n 1, 1) := by decide +kernel
theorem dX0_merge_51 : decode cX0_merge 51 = .ok (.iload 5, 2) := by decide +kernel
theorem dX0_merge_53 : decode cX0_merge 53 = .ok (.aaload, 1) := by decide +kernel
theorem dX0_merge_54 : decode cX0_merge 54 = .ok (.invokevirtual 24, 3) := by decide +kernel
theorem dX0_merge_57 : decode cX0_merge 57 = .ok (.aload_n 0, 1) := by decide +kernel
theorem dX0_merge_58 : decode cX0_merge 58 = .ok (.getfield 16, 3) := by decide +kernel
theorem dX0_merge_61 : decode cX0_merge 61 = .ok (.iload 5, 2) := by decide +kernel
theorem dX0_merge_63 : decode cX0_merge 63 = .ok (.dup2, 1) := by decide +kernel
theorem dX0_merge_64 : decode cX0_merge 64 = .ok (.iaload, 1) := by decide +kernel
theorem dX0_merge_65 : decode cX0_merge 65 = .ok (.iconst 1, 1) := by decide +kernel
theorem dX0_merge_66 : decode cX0_merge 66 = .ok (.iadd, 1) := by decide +kernel
theorem dX0_merge_67 : decode cX0_merge 67 = .ok (.iastore, 1) := by decide +kernel
theorem dX0_merge_68 : decode cX0_merge 68 = .ok (.iinc 4 1, 3) := by decide +kernel
theorem dX0_merge_71 : decode cX0_merge 71 = .ok (.goto (-45), 3) := by decide +kernel
theorem dX0_merge_74 : decode cX0_merge 74 = .ok (.return_, 1) := by decide +kernel
theorem dX0_findEarliest_0 : decode cX0_findEarliest 0 = .ok (.iconst (-1), 1) := by decide +kernel
theorem dX0_findEarliest_1 : decode cX0_findEarliest 1 = .ok (.istore_n 3, 1) := by decide +kernel
theorem dX0_findEarliest_2 : decode cX0_findEarliest 2 = .ok (.iconst 0, 1) := by decide +kernel
theorem dX0_findEarliest_3 : decode cX0_findEarliest 3 = .ok (.istore 4, 2) := by decide +kernel
theorem dX0_findEarliest_5 : decode cX0_findEarliest 5 = .ok (.iconst 0, 1) := by decide +kernel
theorem dX0_findEarliest_6 : decode cX0_findEarliest 6 = .ok (.istore 5, 2) := by decide +kernel
theorem dX0_findEarliest_8 : decode cX0_findEarliest 8 = .ok (.iload 5, 2) := by decide +kernel
theorem dX0_findEarliest_10 : decode cX0_findEarliest 10 = .ok (.iload_n 2, 1) := by decide +kernel
theorem dX0_findEarliest_11 : decode cX0_findEarliest 11 = .ok (.if_icmp .ge 62, 3) := by decide +kernel
theorem dX0_findEarliest_14 : decode cX0_findEarliest 14 = .ok (.aload_n 0, 1) := by decide +kernel
theorem dX0_findEarliest_15 : decode cX0_findEarliest 15 = .ok (.getfield 16, 3) := by decide +kernel
theorem dX0_findEarliest_18 : decode cX0_findEarliest 18 = .ok (.iload 5, 2) := by decide +kernel
theorem dX0_findEarliest_20 : decode cX0_findEarliest 20 = .ok (.iaload, 1) := by decide +kernel
theorem dX0_findEarliest_21 : decode cX0_findEarliest 21 = .ok (.iconst 2, 1) := by decide +kernel
theorem dX0_findEarliest_22 : decode cX0_findEarliest 22 = .ok (.aload_n 1, 1) := by decide +kernel
theorem dX0_findEarliest_23 : decode cX0_findEarliest 23 = .ok (.iload 5, 2) := by decide +kernel
theorem dX0_findEarliest_25 : decode cX0_findEarliest 25 = .ok (.aaload, 1) := by decide +kernel
theorem dX0_findEarliest_26 : decode cX0_findEarliest 26 = .ok (.getfield 28, 3) := by decide +kernel
theorem dX0_findEarliest_29 : decode cX0_findEarliest 29 = .ok (.imul, 1) := by decide +kernel
theorem dX0_findEarliest_30 : decode cX0_findEarliest 30 = .ok (.if_icmp .ge 37, 3) := by decide +kernel
theorem dX0_findEarliest_33 : decode cX0_findEarliest 33 = .ok (.aload_n 1, 1) := by decide +kernel
theorem dX0_findEarliest_34 : decode cX0_findEarliest 34 = .ok (.iload 5, 2) := by decide +kernel
theorem dX0_findEarliest_36 : decode cX0_findEarliest 36 = .ok (.aaload, 1) := by decide +kernel
theorem dX0_findEarliest_37 : decode cX0_findEarliest 37 = .ok (.aload_n 0, 1) := by decide +kernel
theorem dX0_findEarliest_38 : decode cX0_findEarliest 38 = .ok (.getfield 16, 3) := by decide +kernel
theorem dX0_findEarliest_41 : decode cX0_findEarliest 41 = .ok (.iload 5, 2) := by decide +kernel
theorem dX0_findEarliest_43 : decode cX0_findEarliest 43 = .ok (.iaload, 1) := by decide +kernel
theorem dX0_findEarliest_44 : decode cX0_findEarliest 44 = .ok (.invokestatic 34, 3) := by decide +kernel
theorem dX0_findEarliest_47 : decode cX0_findEarliest 47 = .ok (.istore 6, 2) := by decide +kernel
theorem dX0_findEarliest_49 : decode cX0_findEarliest 49 = .ok (.iload_n 3, 1) := by decide +kernel
theorem dX0_findEarliest_50 : decode cX0_findEarliest 50 = .ok (.ifCond .lt 10, 3) := by decide +kernel
theorem dX0_findEarliest_53 : decode cX0_findEarliest 53 = .ok (.iload 6, 2) := by decide +kernel
theorem dX0_findEarliest_55 : decode cX0_findEarliest 55 = .ok (.iload 4, 2) := by decide +kernel
theorem dX0_findEarliest_57 : decode cX0_findEarliest 57 = .ok (.if_icmp .ge 10, 3) := by decide +kernel
theorem dX0_findEarliest_60 : decode cX0_findEarliest 60 = .ok (.iload 5, 2) := by decide +kernel
theorem dX0_findEarliest_62 : decode cX0_findEarliest 62 = .ok (.istore_n 3, 1) := by decide +kernel
theorem dX0_findEarliest_63 : decode cX0_findEarliest 63 = .ok (.iload 6, 2) := by decide +kernel
theorem dX0_findEarliest_65 : decode cX0_findEarliest 65 = .ok (.istore 4, 2) := by decide +kernel
theorem dX0_findEarliest_67 : decode cX0_findEarliest 67 = .ok (.iinc 5 1, 3) := by decide +kernel
theorem dX0_findEarliest_70 : decode cX0_findEarliest 70 = .ok (.goto (-62), 3) := by decide +kernel
theorem dX0_findEarliest_73 : decode cX0_findEarliest 73 = .ok (.iload_n 3, 1) := by decide +kernel
theorem dX0_findEarliest_74 : decode cX0_findEarliest 74 = .ok (.ireturn, 1) := by decide +kernel
theorem dX0_rankOf_0 : decode cX0_rankOf 0 = .ok (.iconst 2, 1) := by decide +kernel
theorem dX0_rankOf_1 : decode cX0_rankOf 1 = .ok (.aload_n 0, 1) := by decide +kernel
theorem dX0_rankOf_2 : decode cX0_rankOf 2 = .ok (.iload_n 1, 1) := by decide +kernel
theorem dX0_rankOf_3 : decode cX0_rankOf 3 = .ok (.invokestatic 38, 3) := by decide +kernel
theorem dX0_rankOf_6 : decode cX0_rankOf 6 = .ok (.imul, 1) := by decide +kernel
theorem dX0_rankOf_7 : decode cX0_rankOf 7 = .ok (.iload_n 1, 1) := by decide +kernel
theorem dX0_rankOf_8 : decode cX0_rankOf 8 = .ok (.invokestatic 41, 3) := by decide +kernel
theorem dX0_rankOf_11 : decode cX0_rankOf 11 = .ok (.ifCond .eq 7, 3) := by decide +kernel
theorem dX0_rankOf_14 : decode cX0_rankOf 14 = .ok (.iconst 1, 1) := by decide +kernel
theorem dX0_rankOf_15 : decode cX0_rankOf 15 = .ok (.goto 4, 3) := by decide +kernel
theorem dX0_rankOf_18 : decode cX0_rankOf 18 = .ok (.iconst 0, 1) := by decide +kernel
theorem dX0_rankOf_19 : decode cX0_rankOf 19 = .ok (.iadd, 1) := by decide +kernel
theorem dX0_rankOf_20 : decode cX0_rankOf 20 = .ok (.ireturn, 1) := by decide +kernel
theorem dX0_isBeginning_0 : decode cX0_isBeginning 0 = .ok (.iload_n 0, 1) := by decide +kernel
theorem dX0_isBeginning_1 : decode cX0_isBeginning 1 = .ok (.iconst 1, 1) := by decide +kernel
theorem dX0_isBeginning_2 : decode cX0_isBeginning 2 = .ok (.iand, 1) := by decide +kernel
theorem dX0_isBeginning_3 : decode cX0_isBeginning 3 = .ok (.ifCond .ne 7, 3) := by decide +kernel
theorem dX0_isBeginning_6 : decode cX0_isBeginning 6 = .ok (.iconst 1, 1) := by decide +kernel
theorem dX0_isBeginning_7 : decode cX0_isBeginning 7 = .ok (.goto 4, 3) := by decide +kernel
theorem dX0_isBeginning_10 : decode cX0_isBeginning 10 = .ok (.iconst 0, 1) := by decide +kernel
theorem dX0_isBeginning_11 : decode cX0_isBeginning 11 = .ok (.ireturn, 1) := by decide +kernel
theorem dX0_tickOf_0 : decode cX0_tickOf 0 = .ok (.aload_n 0, 1) := by decide +kernel
theorem dX0_tickOf_1 : decode cX0_tickOf 1 = .ok (.getfield 45, 3) := by decide +kernel
theorem dX0_tickOf_4 : decode cX0_tickOf 4 = .ok (.iload_n 1, 1) := by decide +kernel
theorem dX0_tickOf_5 : decode cX0_tickOf 5 = .ok (.invokestatic 41, 3) := by decide +kernel
theorem dX0_tickOf_8 : decode cX0_tickOf 8 = .ok (.ifCond .eq 7, 3) := by decide +kernel
theorem dX0_tickOf_11 : decode cX0_tickOf 11 = .ok (.iconst 0, 1) := by decide +kernel
theorem dX0_tickOf_12 : decode cX0_tickOf 12 = .ok (.goto 4, 3) := by decide +kernel
theorem dX0_tickOf_15 : decode cX0_tickOf 15 = .ok (.iconst 1, 1) := by decide +kernel
theorem dX0_tickOf_16 : decode cX0_tickOf 16 = .ok (.aaload, 1) := by decide +kernel
theorem dX0_tickOf_17 : decode cX0_tickOf 17 = .ok (.iload_n 1, 1) := by decide +kernel
theorem dX0_tickOf_18 : decode cX0_tickOf 18 = .ok (.iconst 1, 1) := by decide +kernel
theorem dX0_tickOf_19 : decode cX0_tickOf 19 = .ok (.ishr, 1) := by decide +kernel
theorem dX0_tickOf_20 : decode cX0_tickOf 20 = .ok (.iaload, 1) := by decide +kernel
theorem dX0_tickOf_21 : decode cX0_tickOf 21 = .ok (.ireturn, 1) := by decide +kernel
theorem dX0_put_0 : decode cX0_put 0 = .ok (.aload_n 0, 1) := by decide +kernel
theorem dX0_put_1 : decode cX0_put 1 = .ok (.getfield 16, 3) := by decide +kernel
theorem dX0_put_4 : decode cX0_put 4 = .ok (.iload_n 2, 1) := by decide +kernel
theorem dX0_put_5 : decode cX0_put 5 = .ok (.iaload, 1) := by decide +kernel
theorem dX0_put_6 : decode cX0_put 6 = .ok (.istore 4, 2) := by decide +kernel
theorem dX0_put_8 : decode cX0_put 8 = .ok (.aload_n 0, 1) := by decide +kernel
theorem dX0_put_9 : decode cX0_put 9 = .ok (.getfield 11, 3) := by decide +kernel
theorem dX0_put_12 : decode cX0_put 12 = .ok (.iconst 0, 1) := by decide +kernel
theorem dX0_put_13 : decode cX0_put 13 = .ok (.aaload, 1) := by decide +kernel
theorem dX0_put_14 : decode cX0_put 14 = .ok (.iload_n 1, 1) := by decide +kernel
theorem dX0_put_15 : decode cX0_put 15 = .ok (.aload_n 3, 1) := by decide +kernel
theorem dX0_put_16 : decode cX0_put 16 = .ok (.iload 4, 2) := by decide +kernel
theorem dX0_put_18 : decode cX0_put 18 = .ok (.invokestatic 38, 3) := by decide +kernel
theorem dX0_put_21 : decode cX0_put 21 = .ok (.iastore, 1) := by decide +kernel
theorem dX0_put_22 : decode cX0_put 22 = .ok (.aload_n 0, 1) := by decide +kernel
theorem dX0_put_23 : decode cX0_put 23 = .ok (.getfield 11, 3) := by decide +kernel
theorem dX0_put_26 : decode cX0_put 26 = .ok (.iconst 1, 1) := by decide +kernel
theorem dX0_put_27 : decode cX0_put 27 = .ok (.aaload, 1) := by decide +kernel
theorem dX0_put_28 : decode cX0_put 28 = .ok (.iload_n 1, 1) := by decide +kernel
theorem dX0_put_29 : decode cX0_put 29 = .ok (.iload_n 2, 1) := by decide +kernel
theorem dX0_put_30 : decode cX0_put 30 = .ok (.iastore, 1) := by decide +kernel
theorem dX0_put_31 : decode cX0_put 31 = .ok (.aload_n 0, 1) := by decide +kernel
theorem dX0_put_32 : decode cX0_put 32 = .ok (.getfield 11, 3) := by decide +kernel
theorem dX0_put_35 : decode cX0_put 35 = .ok (.iconst 2, 1) := by decide +kernel
theorem dX0_put_36 : decode cX0_put 36 = .ok (.aaload, 1) := by decide +kernel
theorem dX0_put_37 : decode cX0_put 37 = .ok (.iload_n 1, 1) := by decide +kernel
theorem dX0_put_38 : decode cX0_put 38 = .ok (.aload_n 3, 1) := by decide +kernel
theorem dX0_put_39 : decode cX0_put 39 = .ok (.getfield 45, 3) := by decide +kernel
theorem dX0_put_42 : decode cX0_put 42 = .ok (.iconst 2, 1) := by decide +kernel
theorem dX0_put_43 : decode cX0_put 43 = .ok (.aaload, 1) := by decide +kernel
theorem dX0_put_44 : decode cX0_put 44 = .ok (.iload 4, 2) := by decide +kernel
theorem dX0_put_46 : decode cX0_put 46 = .ok (.iconst 1, 1) := by decide +kernel
theorem dX0_put_47 : decode cX0_put 47 = .ok (.ishr, 1) := by decide +kernel
theorem dX0_put_48 : decode cX0_put 48 = .ok (.iaload, 1) := by decide +kernel
theorem dX0_put_49 : decode cX0_put 49 = .ok (.iastore, 1) := by decide +kernel
theorem dX0_put_50 : decode cX0_put 50 = .ok (.aload_n 0, 1) := by decide +kernel
theorem dX0_put_51 : decode cX0_put 51 = .ok (.getfield 11, 3) := by decide +kernel
theorem dX0_put_54 : decode cX0_put 54 = .ok (.iconst 3, 1) := by decide +kernel
theorem dX0_put_55 : decode cX0_put 55 = .ok (.aaload, 1) := by decide +kernel
theorem dX0_put_56 : decode cX0_put 56 = .ok (.iload_n 1, 1) := by decide +kernel
theorem dX0_put_57 : decode cX0_put 57 = .ok (.iload 4, 2) := by decide +kernel
theorem dX0_put_59 : decode cX0_put 59 = .ok (.invokestatic 41, 3) := by decide +kernel
theorem dX0_put_62 : decode cX0_put 62 = .ok (.ifCond .eq 7, 3) := by decide +kernel
theorem dX0_put_65 : decode cX0_put 65 = .ok (.iconst 1, 1) := by decide +kernel
theorem dX0_put_66 : decode cX0_put 66 = .ok (.goto 4, 3) := by decide +kernel
theorem dX0_put_69 : decode cX0_put 69 = .ok (.iconst 0, 1) := by decide +kernel
theorem dX0_put_70 : decode cX0_put 70 = .ok (.iastore, 1) := by decide +kernel
theorem dX0_put_71 : decode cX0_put 71 = .ok (.return_, 1) := by decide +kernel
theorem dX1_init_0 : decode cX1_init 0 = .ok (.aload_n 0, 1) := by decide +kernel
theorem dX1_init_1 : decode cX1_init 1 = .ok (.invokespecial 3, 3) := by decide +kernel
theorem dX1_init_4 : decode cX1_init 4 = .ok (.aload_n 0, 1) := by decide +kernel
theorem dX1_init_5 : decode cX1_init 5 = .ok (.bipush 9, 2) := by decide +kernel
theorem dX1_init_7 : decode cX1_init 7 = .ok (.sipush 200, 3) := by decide +kernel
theorem dX1_init_10 : decode cX1_init 10 = .ok (.multianewarray 9 2, 4) := by decide +kernel
theorem dX1_init_14 : decode cX1_init 14 = .ok (.putfield 11, 3) := by decide +kernel
theorem dX1_init_17 : decode cX1_init 17 = .ok (.aload_n 0, 1) := by decide +kernel
theorem dX1_init_18 : decode cX1_init 18 = .ok (.iconst 3, 1) := by decide +kernel
theorem dX1_init_19 : decode cX1_init 19 = .ok (.sipush 200, 3) := by decide +kernel
theorem dX1_init_22 : decode cX1_init 22 = .ok (.multianewarray 9 2, 4) := by decide +kernel
theorem dX1_init_26 : decode cX1_init 26 = .ok (.putfield 16, 3) := by decide +kernel
theorem dX1_init_29 : decode cX1_init 29 = .ok (.aload_n 0, 1) := by decide +kernel
theorem dX1_init_30 : decode cX1_init 30 = .ok (.iconst 3, 1) := by decide +kernel
theorem dX1_init_31 : decode cX1_init 31 = .ok (.sipush 200, 3) := by decide +kernel
theorem dX1_init_34 : decode cX1_init 34 = .ok (.multianewarray 9 2, 4) := by decide +kernel
theorem dX1_init_38 : decode cX1_init 38 = .ok (.putfield 19, 3) := by decide +kernel
theorem dX1_init_41 : decode cX1_init 41 = .ok (.aload_n 0, 1) := by decide +kernel
theorem dX1_init_42 : decode cX1_init 42 = .ok (.bipush 63, 2) := by decide +kernel
theorem dX1_init_44 : decode cX1_init 44 = .ok (.newarray .int, 2) := by decide +kernel
theorem dX1_init_46 : decode cX1_init 46 = .ok (.putfield 22, 3) := by decide +kernel
theorem dX1_init_49 : decode cX1_init 49 = .ok (.aload_n 0, 1) := by decide +kernel
theorem dX1_init_50 : decode cX1_init 50 = .ok (.bipush 63, 2) := by decide +kernel
theorem dX1_init_52 : decode cX1_init 52 = .ok (.newarray .int, 2) := by decide +kernel
theorem dX1_init_54 : decode cX1_init 54 = .ok (.putfield 26, 3) := by decide +kernel
theorem dX1_init_57 : decode cX1_init 57 = .ok (.aload_n 0, 1) := by decide +kernel
theorem dX1_init_58 : decode cX1_init 58 = .ok (.iconst 0, 1) := by decide +kernel
theorem dX1_init_59 : decode cX1_init 59 = .ok (.putfield 29, 3) := by decide +kernel
theorem dX1_init_62 : decode cX1_init 62 = .ok (.aload_n 0, 1) := by decide +kernel
theorem dX1_init_63 : decode cX1_init 63 = .ok (.iconst 0, 1) := by decide +kernel
theorem dX1_init_64 : decode cX1_init 64 = .ok (.putfield 33, 3) := by decide +kernel
theorem dX1_init_67 : decode cX1_init 67 = .ok (.aload_n 0, 1) := by decide +kernel
theorem dX1_init_68 : decode cX1_init 68 = .ok (.iconst 0, 1) := by decide +kernel
theorem dX1_init_69 : decode cX1_init 69 = .ok (.putfield 36, 3) := by decide +kernel
theorem dX1_init_72 : decode cX1_init 72 = .ok (.aload_n 0, 1) := by decide +kernel
theorem dX1_init_73 : decode cX1_init 73 = .ok (.iconst 0, 1) := by decide +kernel
theorem dX1_init_74 : decode cX1_init 74 = .ok (.putfield 39, 3) := by decide +kernel
theorem dX1_init_77 : decode cX1_init 77 = .ok (.aload_n 0, 1) := by decide +kernel
theorem dX1_init_78 : decode cX1_init 78 = .ok (.iconst 0, 1) := by decide +kernel
theorem dX1_init_79 : decode cX1_init 79 = .ok (.putfield 42, 3) := by decide +kernel
theorem dX1_init_82 : decode cX1_init 82 = .ok (.aload_n 0, 1) := by decide +kernel
theorem dX1_init_83 : decode cX1_init 83 = .ok (.iconst (-1), 1) := by decide +kernel
theorem dX1_init_84 : decode cX1_init 84 = .ok (.putfield 45, 3) := by decide +kernel
theorem dX1_init_87 : decode cX1_init 87 = .ok (.aload_n 0, 1) := by decide +kernel
theorem dX1_init_88 : decode cX1_init 88 = .ok (.iconst (-1), 1) := by decide +kernel
theorem dX1_init_89 : decode cX1_init 89 = .ok (.putfield 48, 3) := by decide +kernel
theorem dX1_init_92 : decode cX1_init 92 = .ok (.return_, 1) := by decide +kernel
theorem dX1_tell_0 : decode cX1_tell 0 = .ok (.iload_n 1, 1) := by decide +kernel
theorem dX1_tell_1 : decode cX1_tell 1 = .ok (.tableswitch 69 0 5 #[39, 44, 49, 54, 59, 64], 39) := by decide +kernel
theorem dX1_tell_40 : decode cX1_tell 40 = .ok (.aload_n 0, 1) := by decide +kernel
theorem dX1_tell_41 : decode cX1_tell 41 = .ok (.getfield 29, 3) := by decide +kernel
theorem dX1_tell_44 : decode cX1_tell 44 = .ok (.ireturn, 1) := by decide +kernel
theorem dX1_tell_45 : decode cX1_tell 45 = .ok (.aload_n 0, 1) := by decide +kernel
theorem dX1_tell_46 : decode cX1_tell 46 = .ok (.getfield 33, 3) := by decide +kernel
theorem dX1_tell_49 : decode cX1_tell 49 = .ok (.ireturn, 1) := by decide +kernel
theorem dX1_tell_50 : decode cX1_tell 50 = .ok (.aload_n 0, 1) := by decide +kernel
theorem dX1_tell_51 : decode cX1_tell 51 = .ok (.getfield 36, 3) := by decide +kernel
theorem dX1_tell_54 : decode cX1_tell 54 = .ok (.ireturn, 1) := by decide +kernel
theorem dX1_tell_55 : decode cX1_tell 55 = .ok (.aload_n 0, 1) := by decide +kernel
theorem dX1_tell_56 : decode cX1_tell 56 = .ok (.getfield 39, 3) := by decide +kernel
theorem dX1_tell_59 : decode cX1_tell 59 = .ok (.ireturn, 1) := by decide +kernel
theorem dX1_tell_60 : decode cX1_tell 60 = .ok (.aload_n 0, 1) := by decide +kernel
theorem dX1_tell_61 : decode cX1_tell 61 = .ok (.getfield 42, 3) := by decide +kernel
theorem dX1_tell_64 : decode cX1_tell 64 = .ok (.ireturn, 1) := by decide +kernel
theorem dX1_tell_65 : decode cX1_tell 65 = .ok (.aload_n 0, 1) := by decide +kernel
theorem dX1_tell_66 : decode cX1_tell 66 = .ok (.getfield 45, 3) := by decide +kernel
theorem dX1_tell_69 : decode cX1_tell 69 = .ok (.ireturn, 1) := by decide +kernel
theorem dX1_tell_70 : decode cX1_tell 70 = .ok (.aload_n 0, 1) := by decide +kernel
theorem dX1_tell_71 : decode cX1_tell 71 = .ok (.getfield 48, 3) := by decide +kernel
theorem dX1_tell_74 : decode cX1_tell 74 = .ok (.ireturn, 1) := by decide +kernel
theorem dX1_isNote_0 : decode cX1_isNote 0 = .ok (.aload_n 0, 1) := by decide +kernel
theorem dX1_isNote_1 : decode cX1_isNote 1 = .ok (.getfield 11, 3) := by decide +kernel
theorem dX1_isNote_4 : decode cX1_isNote 4 = .ok (.iconst 4, 1) := by decide +kernel
theorem dX1_isNote_5 : decode cX1_isNote 5 = .ok (.aaload, 1) := by decide +kernel
theorem dX1_isNote_6 : decode cX1_isNote 6 = .ok (.iload_n 1, 1) := by decide +kernel
theorem dX1_isNote_7 : decode cX1_isNote 7 = .ok (.iaload, 1) := by decide +kernel
theorem dX1_isNote_8 : decode cX1_isNote 8 = .ok (.iconst (-1), 1) := by decide +kernel
theorem dX1_isNote_9 : decode cX1_isNote 9 = .ok (.if_icmp .eq 7, 3) := by decide +kernel
theorem dX1_isNote_12 : decode cX1_isNote 12 = .ok (.iconst 1, 1) := by decide +kernel
theorem dX1_isNote_13 : decode cX1_isNote 13 = .ok (.goto 4, 3) := by decide +kernel
theorem dX1_isNote_16 : decode cX1_isNote 16 = .ok (.iconst 0, 1) := by decide +kernel
theorem dX1_isNote_17 : decode cX1_isNote 17 = .ok (.ireturn, 1) := by decide +kernel
theorem dX1_isTied_0 : decode cX1_isTied 0 = .ok (.aload_n 0, 1) := by decide +kernel
theorem dX1_isTied_1 : decode cX1_isTied 1 = .ok (.getfield 11, 3) := by decide +kernel
theorem dX1_isTied_4 : decode cX1_isTied 4 = .ok (.iconst 5, 1) := by decide +kernel
theorem dX1_isTied_5 : decode cX1_isTied 5 = .ok (.aaload, 1) := by decide +kernel
theorem dX1_isTied_6 : decode cX1_isTied 6 = .ok (.iload_n 1, 1) := by decide +kernel
theorem dX1_isTied_7 : decode cX1_isTied 7 = .ok (.iaload, 1) := by decide +kernel
theorem dX1_isTied_8 : decode cX1_isTied 8 = .ok (.iconst 1, 1) := by decide +kernel
theorem dX1_isTied_9 : decode cX1_isTied 9 = .ok (.if_icmp .ne 7, 3) := by decide +kernel
theorem dX1_isTied_12 : decode cX1_isTied 12 = .ok (.iconst 1, 1) := by decide +kernel
theorem dX1_isTied_13 : decode cX1_isTied 13 = .ok (.goto 4, 3) := by decide +kernel
theorem dX1_isTied_16 : decode cX1_isTied 16 = .ok (.iconst 0, 1) := by decide +kernel
theorem dX1_isTied_17 : decode cX1_isTied 17 = .ok (.ireturn, 1) := by decide +kernel
theorem dX1_isJoinedToNext_0 : decode cX1_isJoinedToNext 0 = .ok (.iload_n 1, 1) := by decide +kernel
theorem dX1_isJoinedToNext_1 : decode cX1_isJoinedToNext 1 = .ok (.ifCond .lt 13, 3) := by decide +kernel
theorem dX1_isJoinedToNext_4 : decode cX1_isJoinedToNext 4 = .ok (.iload_n 1, 1) := by decide +kernel
theorem dX1_isJoinedToNext_5 : decode cX1_isJoinedToNext 5 = .ok (.iconst 1, 1) := by decide +kernel
theorem dX1_isJoinedToNext_6 : decode cX1_isJoinedToNext 6 = .ok (.iadd, 1) := by decide +kernel
theorem dX1_isJoinedToNext_7 : decode cX1_isJoinedToNext 7 = .ok (.aload_n 0, 1) := by decide +kernel
theorem dX1_isJoinedToNext_8 : decode cX1_isJoinedToNext 8 = .ok (.getfield 29, 3) := by decide +kernel
theorem dX1_isJoinedToNext_11 : decode cX1_isJoinedToNext 11 = .ok (.if_icmp .lt 5, 3) := by decide +kernel
theorem dX1_isJoinedToNext_14 : decode cX1_isJoinedToNext 14 = .ok (.iconst 0, 1) := by decide +kernel
theorem dX1_isJoinedToNext_15 : decode cX1_isJoinedToNext 15 = .ok (.ireturn, 1) := by decide +kernel
theorem dX1_isJoinedToNext_16 : decode cX1_isJoinedToNext 16 = .ok (.aload_n 0, 1) := by decide +kernel
theorem dX1_isJoinedToNext_17 : decode cX1_isJoinedToNext 17 = .ok (.iload_n 1, 1) := by decide +kernel
theorem dX1_isJoinedToNext_18 : decode cX1_isJoinedToNext 18 = .ok (.invokevirtual 51, 3) := by decide +kernel
theorem dX1_isJoinedToNext_21 : decode cX1_isJoinedToNext 21 = .ok (.ifCond .eq 28, 3) := by decide +kernel
theorem dX1_isJoinedToNext_24 : decode cX1_isJoinedToNext 24 = .ok (.aload_n 0, 1) := by decide +kernel
theorem dX1_isJoinedToNext_25 : decode cX1_isJoinedToNext 25 = .ok (.getfield 11, 3) := by decide +kernel
theorem dX1_isJoinedToNext_28 : decode cX1_isJoinedToNext 28 = .ok (.iconst 4, 1) := by decide +kernel
theorem dX1_isJoinedToNext_29 : decode cX1_isJoinedToNext 29 = .ok (.aaload, 1) := by decide +kernel
theorem dX1_isJoinedToNext_30 : decode cX1_isJoinedToNext 30 = .ok (.iload_n 1, 1) := by decide +kernel
theorem dX1_isJoinedToNext_31 : decode cX1_isJoinedToNext 31 = .ok (.iaload, 1) := by decide +kernel
theorem dX1_isJoinedToNext_32 : decode cX1_isJoinedToNext 32 = .ok (.aload_n 0, 1) := by decide +kernel
theorem dX1_isJoinedToNext_33 : decode cX1_isJoinedToNext 33 = .ok (.getfield 11, 3) := by decide +kernel
theorem dX1_isJoinedToNext_36 : decode cX1_isJoinedToNext 36 = .ok (.iconst 4, 1) := by decide +kernel
theorem dX1_isJoinedToNext_37 : decode cX1_isJoinedToNext 37 = .ok (.aaload, 1) := by decide +kernel
theorem dX1_isJoinedToNext_38 : decode cX1_isJoinedToNext 38 = .ok (.iload_n 1, 1) := by decide +kernel
theorem dX1_isJoinedToNext_39 : decode cX1_isJoinedToNext 39 = .ok (.iconst 1, 1) := by decide +kernel
theorem dX1_isJoinedToNext_40 : decode cX1_isJoinedToNext 40 = .ok (.iadd, 1) := by decide +kernel
theorem dX1_isJoinedToNext_41 : decode cX1_isJoinedToNext 41 = .ok (.iaload, 1) := by decide +kernel
theorem dX1_isJoinedToNext_42 : decode cX1_isJoinedToNext 42 = .ok (.if_icmp .ne 7, 3) := by decide +kernel
theorem dX1_isJoinedToNext_45 : decode cX1_isJoinedToNext 45 = .ok (.iconst 1, 1) := by decide +kernel
theorem dX1_isJoinedToNext_46 : decode cX1_isJoinedToNext 46 = .ok (.goto 4, 3) := by decide +kernel
theorem dX1_isJoinedToNext_49 : decode cX1_isJoinedToNext 49 = .ok (.iconst 0, 1) := by decide +kernel
theorem dX1_isJoinedToNext_50 : decode cX1_isJoinedToNext 50 = .ok (.ireturn, 1) := by decide +kernel
theorem dX1_placeOf_0 : decode cX1_placeOf 0 = .ok (.bipush 7, 2) := by decide +kernel
theorem dX1_placeOf_2 : decode cX1_placeOf 2 = .ok (.aload_n 0, 1) := by decide +kernel
theorem dX1_placeOf_3 : decode cX1_placeOf 3 = .ok (.getfield 16, 3) := by decide +kernel
theorem dX1_placeOf_6 : decode cX1_placeOf 6 = .ok (.iconst 2, 1) := by decide +kernel
theorem dX1_placeOf_7 : decode cX1_placeOf 7 = .ok (.aaload, 1) := by decide +kernel
theorem dX1_placeOf_8 : decode cX1_placeOf 8 = .ok (.iload_n 1, 1) := by decide +kernel
theorem dX1_placeOf_9 : decode cX1_placeOf 9 = .ok (.iaload, 1) := by decide +kernel
theorem dX1_placeOf_10 : decode cX1_placeOf 10 = .ok (.imul, 1) := by decide +kernel
theorem dX1_placeOf_11 : decode cX1_placeOf 11 = .ok (.aload_n 0, 1) := by decide +kernel
theorem dX1_placeOf_12 : decode cX1_placeOf 12 = .ok (.getfield 16, 3) := by decide +kernel
theorem dX1_placeOf_15 : decode cX1_placeOf 15 = .ok (.iconst 0, 1) := by decide +kernel
theorem dX1_placeOf_16 : decode cX1_placeOf 16 = .ok (.aaload, 1) := by decide +kernel
theorem dX1_placeOf_17 : decode cX1_placeOf 17 = .ok (.iload_n 1, 1) := by decide +kernel
theorem dX1_placeOf_18 : decode cX1_placeOf 18 = .ok (.iaload, 1) := by decide +kernel
theorem dX1_placeOf_19 : decode cX1_placeOf 19 = .ok (.iadd, 1) := by decide +kernel
theorem dX1_placeOf_20 : decode cX1_placeOf 20 = .ok (.ireturn, 1) := by decide +kernel
theorem dX1_append_0 : decode cX1_append 0 = .ok (.aload_n 0, 1) := by decide +kernel
theorem dX1_append_1 : decode cX1_append 1 = .ok (.getfield 11, 3) := by decide +kernel
theorem dX1_append_4 : decode cX1_append 4 = .ok (.iconst 0, 1) := by decide +kernel
theorem dX1_append_5 : decode cX1_append 5 = .ok (.aaload, 1) := by decide +kernel
theorem dX1_append_6 : decode cX1_append 6 = .ok (.aload_n 0, 1) := by decide +kernel
theorem dX1_append_7 : decode cX1_append 7 = .ok (.getfield 29, 3) := by decide +kernel
theorem dX1_append_10 : decode cX1_append 10 = .ok (.aload_n 0, 1) := by decide +kernel
theorem dX1_append_11 : decode cX1_append 11 = .ok (.getfield 33, 3) := by decide +kernel
theorem dX1_append_14 : decode cX1_append 14 = .ok (.iastore, 1) := by decide +kernel
theorem dX1_append_15 : decode cX1_append 15 = .ok (.aload_n 0, 1) := by decide +kernel
theorem dX1_append_16 : decode cX1_append 16 = .ok (.getfield 11, 3) := by decide +kernel
theorem dX1_append_19 : decode cX1_append 19 = .ok (.iconst 1, 1) := by decide +kernel
theorem dX1_append_20 : decode cX1_append 20 = .ok (.aaload, 1) := by decide +kernel
theorem dX1_append_21 : decode cX1_append 21 = .ok (.aload_n 0, 1) := by decide +kernel
theorem dX1_append_22 : decode cX1_append 22 = .ok (.getfield 29, 3) := by decide +kernel
theorem dX1_append_25 : decode cX1_append 25 = .ok (.getstatic 55, 3) := by decide +kernel
theorem dX1_append_28 : decode cX1_append 28 = .ok (.iload_n 1, 1) := by decide +kernel
theorem dX1_append_29 : decode cX1_append 29 = .ok (.iaload, 1) := by decide +kernel
theorem dX1_append_30 : decode cX1_append 30 = .ok (.iastore, 1) := by decide +kernel
theorem dX1_append_31 : decode cX1_append 31 = .ok (.aload_n 0, 1) := by decide +kernel
theorem dX1_append_32 : decode cX1_append 32 = .ok (.getfield 11, 3) := by decide +kernel
theorem dX1_append_35 : decode cX1_append 35 = .ok (.iconst 2, 1) := by decide +kernel
theorem dX1_append_36 : decode cX1_append 36 = .ok (.aaload, 1) := by decide +kernel
theorem dX1_append_37 : decode cX1_append 37 = .ok (.aload_n 0, 1) := by decide +kernel
theorem dX1_append_38 : decode cX1_append 38 = .ok (.getfield 29, 3) := by decide +kernel
theorem dX1_append_41 : decode cX1_append 41 = .ok (.getstatic 58, 3) := by decide +kernel
theorem dX1_append_44 : decode cX1_append 44 = .ok (.iload_n 1, 1) := by decide +kernel
theorem dX1_append_45 : decode cX1_append 45 = .ok (.iaload, 1) := by decide +kernel
theorem dX1_append_46 : decode cX1_append 46 = .ok (.iastore, 1) := by decide +kernel
theorem dX1_append_47 : decode cX1_append 47 = .ok (.aload_n 0, 1) := by decide +kernel
theorem dX1_append_48 : decode cX1_append 48 = .ok (.getfield 11, 3) := by decide +kernel
theorem dX1_append_51 : decode cX1_append 51 = .ok (.iconst 3, 1) := by decide +kernel
theorem dX1_append_52 : decode cX1_append 52 = .ok (.aaload, 1) := by decide +kernel
theorem dX1_append_53 : decode cX1_append 53 = .ok (.aload_n 0, 1) := by decide +kernel
theorem dX1_append_54 : decode cX1_append 54 = .ok (.getfield 29, 3) := by decide +kernel
theorem dX1_append_57 : decode cX1_append 57 = .ok (.getstatic 61, 3) := by decide +kernel
theorem dX1_append_60 : decode cX1_append 60 = .ok (.iload_n 1, 1) := by decide +kernel
theorem dX1_append_61 : decode cX1_append 61 = .ok (.iaload, 1) := by decide +kernel
theorem dX1_append_62 : decode cX1_append 62 = .ok (.iastore, 1) := by decide +kernel
theorem dX1_append_63 : decode cX1_append 63 = .ok (.aload_n 0, 1) := by decide +kernel
theorem dX1_append_64 : decode cX1_append 64 = .ok (.getfield 11, 3) := by decide +kernel
theorem dX1_append_67 : decode cX1_append 67 = .ok (.iconst 4, 1) := by decide +kernel
theorem dX1_append_68 : decode cX1_append 68 = .ok (.aaload, 1) := by decide +kernel
theorem dX1_append_69 : decode cX1_append 69 = .ok (.aload_n 0, 1) := by decide +kernel
theorem dX1_append_70 : decode cX1_append 70 = .ok (.getfield 29, 3) := by decide +kernel
theorem dX1_append_73 : decode cX1_append 73 = .ok (.iconst (-1), 1) := by decide +kernel
theorem dX1_append_74 : decode cX1_append 74 = .ok (.iastore, 1) := by decide +kernel
theorem dX1_append_75 : decode cX1_append 75 = .ok (.aload_n 0, 1) := by decide +kernel
theorem dX1_append_76 : decode cX1_append 76 = .ok (.getfield 11, 3) := by decide +kernel
theorem dX1_append_79 : decode cX1_append 79 = .ok (.iconst 5, 1) := by decide +kernel
theorem dX1_append_80 : decode cX1_append 80 = .ok (.aaload, 1) := by decide +kernel
theorem dX1_append_81 : decode cX1_append 81 = .ok (.aload_n 0, 1) := by decide +kernel
theorem dX1_append_82 : decode cX1_append 82 = .ok (.getfield 29, 3) := by decide +kernel
theorem dX1_append_85 : decode cX1_append 85 = .ok (.iconst 0, 1) := by decide +kernel
theorem dX1_append_86 : decode cX1_append 86 = .ok (.iastore, 1) := by decide +kernel
theorem dX1_append_87 : decode cX1_append 87 = .ok (.aload_n 0, 1) := by decide +kernel
theorem dX1_append_88 : decode cX1_append 88 = .ok (.getfield 11, 3) := by decide +kernel
theorem dX1_append_91 : decode cX1_append 91 = .ok (.bipush 6, 2) := by decide +kernel
theorem dX1_append_93 : decode cX1_append 93 = .ok (.aaload, 1) := by decide +kernel
theorem dX1_append_94 : decode cX1_append 94 = .ok (.aload_n 0, 1) := by decide +kernel
theorem dX1_append_95 : decode cX1_append 95 = .ok (.getfield 29, 3) := by decide +kernel
theorem dX1_append_98 : decode cX1_append 98 = .ok (.iload_n 2, 1) := by decide +kernel
theorem dX1_append_99 : decode cX1_append 99 = .ok (.iastore, 1) := by decide +kernel
theorem dX1_append_100 : decode cX1_append 100 = .ok (.aload_n 0, 1) := by decide +kernel
theorem dX1_append_101 : decode cX1_append 101 = .ok (.dup, 1) := by decide +kernel
theorem dX1_append_102 : decode cX1_append 102 = .ok (.getfield 33, 3) := by decide +kernel
theorem dX1_append_105 : decode cX1_append 105 = .ok (.getstatic 55, 3) := by decide +kernel
theorem dX1_append_108 : decode cX1_append 108 = .ok (.iload_n 1, 1) := by decide +kernel
theorem dX1_append_109 : decode cX1_append 109 = .ok (.iaload, 1) := by decide +kernel
theorem dX1_append_110 : decode cX1_append 110 = .ok (.iadd, 1) := by decide +kernel
theorem dX1_append_111 : decode cX1_append 111 = .ok (.putfield 33, 3) := by decide +kernel
theorem dX1_append_114 : decode cX1_append 114 = .ok (.aload_n 0, 1) := by decide +kernel
theorem dX1_append_115 : decode cX1_append 115 = .ok (.dup, 1) := by decide +kernel
theorem dX1_append_116 : decode cX1_append 116 = .ok (.getfield 29, 3) := by decide +kernel
theorem dX1_append_119 : decode cX1_append 119 = .ok (.iconst 1, 1) := by decide +kernel
theorem dX1_append_120 : decode cX1_append 120 = .ok (.iadd, 1) := by decide +kernel
theorem dX1_append_121 : decode cX1_append 121 = .ok (.putfield 29, 3) := by decide +kernel
theorem dX1_append_124 : decode cX1_append 124 = .ok (.return_, 1) := by decide +kernel
theorem dX1_dropLast_0 : decode cX1_dropLast 0 = .ok (.aload_n 0, 1) := by decide +kernel
theorem dX1_dropLast_1 : decode cX1_dropLast 1 = .ok (.dup, 1) := by decide +kernel
theorem dX1_dropLast_2 : decode cX1_dropLast 2 = .ok (.getfield 29, 3) := by decide +kernel
theorem dX1_dropLast_5 : decode cX1_dropLast 5 = .ok (.iconst 1, 1) := by decide +kernel
theorem dX1_dropLast_6 : decode cX1_dropLast 6 = .ok (.isub, 1) := by decide +kernel
theorem dX1_dropLast_7 : decode cX1_dropLast 7 = .ok (.putfield 29, 3) := by decide +kernel
theorem dX1_dropLast_10 : decode cX1_dropLast 10 = .ok (.aload_n 0, 1) := by decide +kernel
theorem dX1_dropLast_11 : decode cX1_dropLast 11 = .ok (.aload_n 0, 1) := by decide +kernel
theorem dX1_dropLast_12 : decode cX1_dropLast 12 = .ok (.getfield 11, 3) := by decide +kernel
theorem dX1_dropLast_15 : decode cX1_dropLast 15 = .ok (.iconst 0, 1) := by decide +kernel
theorem dX1_dropLast_16 : decode cX1_dropLast 16 = .ok (.aaload, 1) := by decide +kernel
theorem dX1_dropLast_17 : decode cX1_dropLast 17 = .ok (.aload_n 0, 1) := by decide +kernel
theorem dX1_dropLast_18 : decode cX1_dropLast 18 = .ok (.getfield 29, 3) := by decide +kernel
theorem dX1_dropLast_21 : decode cX1_dropLast 21 = .ok (.iaload, 1) := by decide +kernel
theorem dX1_dropLast_22 : decode cX1_dropLast 22 = .ok (.putfield 33, 3) := by decide +kernel
theorem dX1_dropLast_25 : decode cX1_dropLast 25 = .ok (.return_, 1) := by decide +kernel
theorem dX1_putPitch_0 : decode cX1_putPitch 0 = .ok (.aload_n 0, 1) := by decide +kernel
theorem dX1_putPitch_1 : decode cX1_putPitch 1 = .ok (.getfield 16, 3) := by decide +kernel
theorem dX1_putPitch_4 : decode cX1_putPitch 4 = .ok (.iconst 0, 1) := by decide +kernel
theorem dX1_putPitch_5 : decode cX1_putPitch 5 = .ok (.aaload, 1) := by decide +kernel
theorem dX1_putPitch_6 : decode cX1_putPitch 6 = .ok (.iload_n 1, 1) := by decide +kernel
theorem dX1_putPitch_7 : decode cX1_putPitch 7 = .ok (.iload_n 2, 1) := by decide +kernel
theorem dX1_putPitch_8 : decode cX1_putPitch 8 = .ok (.iastore, 1) := by decide +kernel
theorem dX1_putPitch_9 : decode cX1_putPitch 9 = .ok (.aload_n 0, 1) := by decide +kernel
theorem dX1_putPitch_10 : decode cX1_putPitch 10 = .ok (.getfield 16, 3) := by decide +kernel
theorem dX1_putPitch_13 : decode cX1_putPitch 13 = .ok (.iconst 1, 1) := by decide +kernel
theorem dX1_putPitch_14 : decode cX1_putPitch 14 = .ok (.aaload, 1) := by decide +kernel
theorem dX1_putPitch_15 : decode cX1_putPitch 15 = .ok (.iload_n 1, 1) := by decide +kernel
theorem dX1_putPitch_16 : decode cX1_putPitch 16 = .ok (.iload_n 3, 1) := by decide +kernel
theorem dX1_putPitch_17 : decode cX1_putPitch 17 = .ok (.iastore, 1) := by decide +kernel
theorem dX1_putPitch_18 : decode cX1_putPitch 18 = .ok (.aload_n 0, 1) := by decide +kernel
theorem dX1_putPitch_19 : decode cX1_putPitch 19 = .ok (.getfield 16, 3) := by decide +kernel
theorem dX1_putPitch_22 : decode cX1_putPitch 22 = .ok (.iconst 2, 1) := by decide +kernel
theorem dX1_putPitch_23 : decode cX1_putPitch 23 = .ok (.aaload, 1) := by decide +kernel
theorem dX1_putPitch_24 : decode cX1_putPitch 24 = .ok (.iload_n 1, 1) := by decide +kernel
theorem dX1_putPitch_25 : decode cX1_putPitch 25 = .ok (.iload 4, 2) := by decide +kernel
theorem dX1_putPitch_27 : decode cX1_putPitch 27 = .ok (.iastore, 1) := by decide +kernel
theorem dX1_putPitch_28 : decode cX1_putPitch 28 = .ok (.aload_n 0, 1) := by decide +kernel
theorem dX1_putPitch_29 : decode cX1_putPitch 29 = .ok (.getfield 11, 3) := by decide +kernel
theorem dX1_putPitch_32 : decode cX1_putPitch 32 = .ok (.iconst 4, 1) := by decide +kernel
theorem dX1_putPitch_33 : decode cX1_putPitch 33 = .ok (.aaload, 1) := by decide +kernel
theorem dX1_putPitch_34 : decode cX1_putPitch 34 = .ok (.iload_n 1, 1) := by decide +kernel
theorem dX1_putPitch_35 : decode cX1_putPitch 35 = .ok (.iload_n 2, 1) := by decide +kernel
theorem dX1_putPitch_36 : decode cX1_putPitch 36 = .ok (.iload_n 3, 1) := by decide +kernel
theorem dX1_putPitch_37 : decode cX1_putPitch 37 = .ok (.iload 4, 2) := by decide +kernel
theorem dX1_putPitch_39 : decode cX1_putPitch 39 = .ok (.invokestatic 64, 3) := by decide +kernel
theorem dX1_putPitch_42 : decode cX1_putPitch 42 = .ok (.iastore, 1) := by decide +kernel
theorem dX1_putPitch_43 : decode cX1_putPitch 43 = .ok (.return_, 1) := by decide +kernel
theorem dX1_canTranspose_0 : decode cX1_canTranspose 0 = .ok (.iconst 0, 1) := by decide +kernel
theorem dX1_canTranspose_1 : decode cX1_canTranspose 1 = .ok (.istore_n 3, 1) := by decide +kernel
theorem dX1_canTranspose_2 : decode cX1_canTranspose 2 = .ok (.iload_n 3, 1) := by decide +kernel
theorem dX1_canTranspose_3 : decode cX1_canTranspose 3 = .ok (.aload_n 0, 1) := by decide +kernel
theorem dX1_canTranspose_4 : decode cX1_canTranspose 4 = .ok (.getfield 29, 3) := by decide +kernel
theorem dX1_canTranspose_7 : decode cX1_canTranspose 7 = .ok (.if_icmp .ge 63, 3) := by decide +kernel
theorem dX1_canTranspose_10 : decode cX1_canTranspose 10 = .ok (.aload_n 0, 1) := by decide +kernel
theorem dX1_canTranspose_11 : decode cX1_canTranspose 11 = .ok (.iload_n 3, 1) := by decide +kernel
theorem dX1_canTranspose_12 : decode cX1_canTranspose 12 = .ok (.invokevirtual 68, 3) := by decide +kernel
theorem dX1_canTranspose_15 : decode cX1_canTranspose 15 = .ok (.iload_n 1, 1) := by decide +kernel
theorem dX1_canTranspose_16 : decode cX1_canTranspose 16 = .ok (.iadd, 1) := by decide +kernel
theorem dX1_canTranspose_17 : decode cX1_canTranspose 17 = .ok (.istore 4, 2) := by decide +kernel
theorem dX1_canTranspose_19 : decode cX1_canTranspose 19 = .ok (.iload 4, 2) := by decide +kernel
theorem dX1_canTranspose_21 : decode cX1_canTranspose 21 = .ok (.aload_n 0, 1) := by decide +kernel
theorem dX1_canTranspose_22 : decode cX1_canTranspose 22 = .ok (.getfield 11, 3) := by decide +kernel
theorem dX1_canTranspose_25 : decode cX1_canTranspose 25 = .ok (.iconst 4, 1) := by decide +kernel
theorem dX1_canTranspose_26 : decode cX1_canTranspose 26 = .ok (.aaload, 1) := by decide +kernel
theorem dX1_canTranspose_27 : decode cX1_canTranspose 27 = .ok (.iload_n 3, 1) := by decide +kernel
theorem dX1_canTranspose_28 : decode cX1_canTranspose 28 = .ok (.iaload, 1) := by decide +kernel
theorem dX1_canTranspose_29 : decode cX1_canTranspose 29 = .ok (.iload_n 2, 1) := by decide +kernel
theorem dX1_canTranspose_30 : decode cX1_canTranspose 30 = .ok (.iadd, 1) := by decide +kernel
theorem dX1_canTranspose_31 : decode cX1_canTranspose 31 = .ok (.invokestatic 72, 3) := by decide +kernel
theorem dX1_canTranspose_34 : decode cX1_canTranspose 34 = .ok (.istore 5, 2) := by decide +kernel
theorem dX1_canTranspose_36 : decode cX1_canTranspose 36 = .ok (.aload_n 0, 1) := by decide +kernel
theorem dX1_canTranspose_37 : decode cX1_canTranspose 37 = .ok (.iload_n 3, 1) := by decide +kernel
theorem dX1_canTranspose_38 : decode cX1_canTranspose 38 = .ok (.invokevirtual 76, 3) := by decide +kernel
theorem dX1_canTranspose_41 : decode cX1_canTranspose 41 = .ok (.ifCond .eq 23, 3) := by decide +kernel
theorem dX1_canTranspose_44 : decode cX1_canTranspose 44 = .ok (.iload 4, 2) := by decide +kernel
theorem dX1_canTranspose_46 : decode cX1_canTranspose 46 = .ok (.invokestatic 79, 3) := by decide +kernel
theorem dX1_canTranspose_49 : decode cX1_canTranspose 49 = .ok (.iload 5, 2) := by decide +kernel
theorem dX1_canTranspose_51 : decode cX1_canTranspose 51 = .ok (.iload 4, 2) := by decide +kernel
theorem dX1_canTranspose_53 : decode cX1_canTranspose 53 = .ok (.invokestatic 82, 3) := by decide +kernel
theorem dX1_canTranspose_56 : decode cX1_canTranspose 56 = .ok (.invokestatic 85, 3) := by decide +kernel
theorem dX1_canTranspose_59 : decode cX1_canTranspose 59 = .ok (.ifCond .ne 5, 3) := by decide +kernel
theorem dX1_canTranspose_62 : decode cX1_canTranspose 62 = .ok (.iconst 0, 1) := by decide +kernel
theorem dX1_canTranspose_63 : decode cX1_canTranspose 63 = .ok (.ireturn, 1) := by decide +kernel
theorem dX1_canTranspose_64 : decode cX1_canTranspose 64 = .ok (.iinc 3 1, 3) := by decide +kernel
theorem dX1_canTranspose_67 : decode cX1_canTranspose 67 = .ok (.goto (-65), 3) := by decide +kernel
theorem dX1_canTranspose_70 : decode cX1_canTranspose 70 = .ok (.iconst 1, 1) := by decide +kernel
theorem dX1_canTranspose_71 : decode cX1_canTranspose 71 = .ok (.ireturn, 1) := by decide +kernel
theorem dX1_moveNotes_0 : decode cX1_moveNotes 0 = .ok (.iconst 0, 1) := by decide +kernel
theorem dX1_moveNotes_1 : decode cX1_moveNotes 1 = .ok (.istore_n 3, 1) := by decide +kernel
theorem dX1_moveNotes_2 : decode cX1_moveNotes 2 = .ok (.iload_n 3, 1) := by decide +kernel
theorem dX1_moveNotes_3 : decode cX1_moveNotes 3 = .ok (.aload_n 0, 1) := by decide +kernel
theorem dX1_moveNotes_4 : decode cX1_moveNotes 4 = .ok (.getfield 29, 3) := by decide +kernel
theorem dX1_moveNotes_7 : decode cX1_moveNotes 7 = .ok (.if_icmp .ge 60, 3) := by decide +kernel
theorem dX1_moveNotes_10 : decode cX1_moveNotes 10 = .ok (.aload_n 0, 1) := by decide +kernel
theorem dX1_moveNotes_11 : decode cX1_moveNotes 11 = .ok (.iload_n 3, 1) := by decide +kernel
theorem dX1_moveNotes_12 : decode cX1_moveNotes 12 = .ok (.invokevirtual 68, 3) := by decide +kernel
theorem dX1_moveNotes_15 : decode cX1_moveNotes 15 = .ok (.iload_n 1, 1) := by decide +kernel
theorem dX1_moveNotes_16 : decode cX1_moveNotes 16 = .ok (.iadd, 1) := by decide +kernel
theorem dX1_moveNotes_17 : decode cX1_moveNotes 17 = .ok (.istore 4, 2) := by decide +kernel
theorem dX1_moveNotes_19 : decode cX1_moveNotes 19 = .ok (.iload 4, 2) := by decide +kernel
theorem dX1_moveNotes_21 : decode cX1_moveNotes 21 = .ok (.aload_n 0, 1) := by decide +kernel
theorem dX1_moveNotes_22 : decode cX1_moveNotes 22 = .ok (.getfield 11, 3) := by decide +kernel
theorem dX1_moveNotes_25 : decode cX1_moveNotes 25 = .ok (.iconst 4, 1) := by decide +kernel
theorem dX1_moveNotes_26 : decode cX1_moveNotes 26 = .ok (.aaload, 1) := by decide +kernel
theorem dX1_moveNotes_27 : decode cX1_moveNotes 27 = .ok (.iload_n 3, 1) := by decide +kernel
theorem dX1_moveNotes_28 : decode cX1_moveNotes 28 = .ok (.iaload, 1) := by decide +kernel
theorem dX1_moveNotes_29 : decode cX1_moveNotes 29 = .ok (.iload_n 2, 1) := by decide +kernel
theorem dX1_moveNotes_30 : decode cX1_moveNotes 30 = .ok (.iadd, 1) := by decide +kernel
theorem dX1_moveNotes_31 : decode cX1_moveNotes 31 = .ok (.invokestatic 72, 3) := by decide +kernel
theorem dX1_moveNotes_34 : decode cX1_moveNotes 34 = .ok (.istore 5, 2) := by decide +kernel
theorem dX1_moveNotes_36 : decode cX1_moveNotes 36 = .ok (.aload_n 0, 1) := by decide +kernel
theorem dX1_moveNotes_37 : decode cX1_moveNotes 37 = .ok (.iload_n 3, 1) := by decide +kernel
theorem dX1_moveNotes_38 : decode cX1_moveNotes 38 = .ok (.invokevirtual 76, 3) := by decide +kernel
theorem dX1_moveNotes_41 : decode cX1_moveNotes 41 = .ok (.ifCond .eq 20, 3) := by decide +kernel
theorem dX1_moveNotes_44 : decode cX1_moveNotes 44 = .ok (.aload_n 0, 1) := by decide +kernel
theorem dX1_moveNotes_45 : decode cX1_moveNotes 45 = .ok (.iload_n 3, 1) := by decide +kernel
theorem dX1_moveNotes_46 : decode cX1_moveNotes 46 = .ok (.iload 4, 2) := by decide +kernel
theorem dX1_moveNotes_48 : decode cX1_moveNotes 48 = .ok (.invokestatic 79, 3) := by decide +kernel
theorem dX1_moveNotes_51 : decode cX1_moveNotes 51 = .ok (.iload 5, 2) := by decide +kernel
theorem dX1_moveNotes_53 : decode cX1_moveNotes 53 = .ok (.iload 4, 2) := by decide +kernel
theorem dX1_moveNotes_55 : decode cX1_moveNotes 55 = .ok (.invokestatic 82, 3) := by decide +kernel
theorem dX1_moveNotes_58 : decode cX1_moveNotes 58 = .ok (.invokevirtual 89, 3) := by decide +kernel
theorem dX1_moveNotes_61 : decode cX1_moveNotes 61 = .ok (.iinc 3 1, 3) := by decide +kernel
theorem dX1_moveNotes_64 : decode cX1_moveNotes 64 = .ok (.goto (-62), 3) := by decide +kernel
theorem dX1_moveNotes_67 : decode cX1_moveNotes 67 = .ok (.return_, 1) := by decide +kernel
theorem dX1_countLooseTies_0 : decode cX1_countLooseTies 0 = .ok (.iconst 0, 1) := by decide +kernel
theorem dX1_countLooseTies_1 : decode cX1_countLooseTies 1 = .ok (.istore_n 1, 1) := by decide +kernel
theorem dX1_countLooseTies_2 : decode cX1_countLooseTies 2 = .ok (.iconst 0, 1) := by decide +kernel
theorem dX1_countLooseTies_3 : decode cX1_countLooseTies 3 = .ok (.istore_n 2, 1) := by decide +kernel
theorem dX1_countLooseTies_4 : decode cX1_countLooseTies 4 = .ok (.iload_n 2, 1) := by decide +kernel
theorem dX1_countLooseTies_5 : decode cX1_countLooseTies 5 = .ok (.aload_n 0, 1) := by decide +kernel
theorem dX1_countLooseTies_6 : decode cX1_countLooseTies 6 = .ok (.getfield 29, 3) := by decide +kernel
theorem dX1_countLooseTies_9 : decode cX1_countLooseTies 9 = .ok (.if_icmp .ge 28, 3) := by decide +kernel
theorem dX1_countLooseTies_12 : decode cX1_countLooseTies 12 = .ok (.aload_n 0, 1) := by decide +kernel
theorem dX1_countLooseTies_13 : decode cX1_countLooseTies 13 = .ok (.iload_n 2, 1) := by decide +kernel
theorem dX1_countLooseTies_14 : decode cX1_countLooseTies 14 = .ok (.invokevirtual 51, 3) := by decide +kernel
theorem dX1_countLooseTies_17 : decode cX1_countLooseTies 17 = .ok (.ifCond .eq 14, 3) := by decide +kernel
theorem dX1_countLooseTies_20 : decode cX1_countLooseTies 20 = .ok (.aload_n 0, 1) := by decide +kernel
theorem dX1_countLooseTies_21 : decode cX1_countLooseTies 21 = .ok (.iload_n 2, 1) := by decide +kernel
theorem dX1_countLooseTies_22 : decode cX1_countLooseTies 22 = .ok (.invokevirtual 93, 3) := by decide +kernel
theorem dX1_countLooseTies_25 : decode cX1_countLooseTies 25 = .ok (.ifCond .ne 6, 3) := by decide +kernel
theorem dX1_countLooseTies_28 : decode cX1_countLooseTies 28 = .ok (.iinc 1 1, 3) := by decide +kernel
theorem dX1_countLooseTies_31 : decode cX1_countLooseTies 31 = .ok (.iinc 2 1, 3) := by decide +kernel
theorem dX1_countLooseTies_34 : decode cX1_countLooseTies 34 = .ok (.goto (-30), 3) := by decide +kernel
theorem dX1_countLooseTies_37 : decode cX1_countLooseTies 37 = .ok (.iload_n 1, 1) := by decide +kernel
theorem dX1_countLooseTies_38 : decode cX1_countLooseTies 38 = .ok (.ireturn, 1) := by decide +kernel
theorem dX1_toneAt_0 : decode cX1_toneAt 0 = .ok (.iconst 0, 1) := by decide +kernel
theorem dX1_toneAt_1 : decode cX1_toneAt 1 = .ok (.istore_n 2, 1) := by decide +kernel
theorem dX1_toneAt_2 : decode cX1_toneAt 2 = .ok (.iload_n 2, 1) := by decide +kernel
theorem dX1_toneAt_3 : decode cX1_toneAt 3 = .ok (.aload_n 0, 1) := by decide +kernel
theorem dX1_toneAt_4 : decode cX1_toneAt 4 = .ok (.getfield 29, 3) := by decide +kernel
theorem dX1_toneAt_7 : decode cX1_toneAt 7 = .ok (.if_icmp .ge 46, 3) := by decide +kernel
theorem dX1_toneAt_10 : decode cX1_toneAt 10 = .ok (.aload_n 0, 1) := by decide +kernel
theorem dX1_toneAt_11 : decode cX1_toneAt 11 = .ok (.getfield 11, 3) := by decide +kernel
theorem dX1_toneAt_14 : decode cX1_toneAt 14 = .ok (.iconst 0, 1) := by decide +kernel
theorem dX1_toneAt_15 : decode cX1_toneAt 15 = .ok (.aaload, 1) := by decide +kernel
theorem dX1_toneAt_16 : decode cX1_toneAt 16 = .ok (.iload_n 2, 1) := by decide +kernel
theorem dX1_toneAt_17 : decode cX1_toneAt 17 = .ok (.iaload, 1) := by decide +kernel
theorem dX1_toneAt_18 : decode cX1_toneAt 18 = .ok (.istore_n 3, 1) := by decide +kernel
theorem dX1_toneAt_19 : decode cX1_toneAt 19 = .ok (.iload_n 3, 1) := by decide +kernel
theorem dX1_toneAt_20 : decode cX1_toneAt 20 = .ok (.iload_n 1, 1) := by decide +kernel
theorem dX1_toneAt_21 : decode cX1_toneAt 21 = .ok (.if_icmp .gt 26, 3) := by decide +kernel
theorem dX1_toneAt_24 : decode cX1_toneAt 24 = .ok (.iload_n 1, 1) := by decide +kernel
theorem dX1_toneAt_25 : decode cX1_toneAt 25 = .ok (.iload_n 3, 1) := by decide +kernel
theorem dX1_toneAt_26 : decode cX1_toneAt 26 = .ok (.aload_n 0, 1) := by decide +kernel
theorem dX1_toneAt_27 : decode cX1_toneAt 27 = .ok (.getfield 11, 3) := by decide +kernel
theorem dX1_toneAt_30 : decode cX1_toneAt 30 = .ok (.iconst 1, 1) := by decide +kernel
theorem dX1_toneAt_31 : decode cX1_toneAt 31 = .ok (.aaload, 1) := by decide +kernel
theorem dX1_toneAt_32 : decode cX1_toneAt 32 = .ok (.iload_n 2, 1) := by decide +kernel
theorem dX1_toneAt_33 : decode cX1_toneAt 33 = .ok (.iaload, 1) := by decide +kernel
theorem dX1_toneAt_34 : decode cX1_toneAt 34 = .ok (.iadd, 1) := by decide +kernel
theorem dX1_toneAt_35 : decode cX1_toneAt 35 = .ok (.if_icmp .ge 12, 3) := by decide +kernel
theorem dX1_toneAt_38 : decode cX1_toneAt 38 = .ok (.aload_n 0, 1) := by decide +kernel
theorem dX1_toneAt_39 : decode cX1_toneAt 39 = .ok (.getfield 11, 3) := by decide +kernel
theorem dX1_toneAt_42 : decode cX1_toneAt 42 = .ok (.iconst 4, 1) := by decide +kernel
theorem dX1_toneAt_43 : decode cX1_toneAt 43 = .ok (.aaload, 1) := by decide +kernel
theorem dX1_toneAt_44 : decode cX1_toneAt 44 = .ok (.iload_n 2, 1) := by decide +kernel
theorem dX1_toneAt_45 : decode cX1_toneAt 45 = .ok (.iaload, 1) := by decide +kernel
theorem dX1_toneAt_46 : decode cX1_toneAt 46 = .ok (.ireturn, 1) := by decide +kernel
theorem dX1_toneAt_47 : decode cX1_toneAt 47 = .ok (.iinc 2 1, 3) := by decide +kernel
theorem dX1_toneAt_50 : decode cX1_toneAt 50 = .ok (.goto (-48), 3) := by decide +kernel
theorem dX1_toneAt_53 : decode cX1_toneAt 53 = .ok (.iconst (-1), 1) := by decide +kernel
theorem dX1_toneAt_54 : decode cX1_toneAt 54 = .ok (.ireturn, 1) := by decide +kernel
theorem dX1_arrange_0 : decode cX1_arrange 0 = .ok (.aload_n 0, 1) := by decide +kernel
theorem dX1_arrange_1 : decode cX1_arrange 1 = .ok (.invokevirtual 96, 3) := by decide +kernel
theorem dX1_arrange_4 : decode cX1_arrange 4 = .ok (.aload_n 0, 1) := by decide +kernel
theorem dX1_arrange_5 : decode cX1_arrange 5 = .ok (.invokevirtual 99, 3) := by decide +kernel
theorem dX1_arrange_8 : decode cX1_arrange 8 = .ok (.aload_n 0, 1) := by decide +kernel
theorem dX1_arrange_9 : decode cX1_arrange 9 = .ok (.iload_n 1, 1) := by decide +kernel
theorem dX1_arrange_10 : decode cX1_arrange 10 = .ok (.invokevirtual 102, 3) := by decide +kernel
theorem dX1_arrange_13 : decode cX1_arrange 13 = .ok (.aload_n 0, 1) := by decide +kernel
theorem dX1_arrange_14 : decode cX1_arrange 14 = .ok (.iload_n 2, 1) := by decide +kernel
theorem dX1_arrange_15 : decode cX1_arrange 15 = .ok (.invokevirtual 106, 3) := by decide +kernel
theorem dX1_arrange_18 : decode cX1_arrange 18 = .ok (.return_, 1) := by decide +kernel
theorem dX1_arrangeTones_0 : decode cX1_arrangeTones 0 = .ok (.aload_n 0, 1) := by decide +kernel
theorem dX1_arrangeTones_1 : decode cX1_arrangeTones 1 = .ok (.iconst (-1), 1) := by decide +kernel
theorem dX1_arrangeTones_2 : decode cX1_arrangeTones 2 = .ok (.putfield 45, 3) := by decide +kernel
theorem dX1_arrangeTones_5 : decode cX1_arrangeTones 5 = .ok (.aload_n 0, 1) := by decide +kernel
theorem dX1_arrangeTones_6 : decode cX1_arrangeTones 6 = .ok (.iconst (-1), 1) := by decide +kernel
theorem dX1_arrangeTones_7 : decode cX1_arrangeTones 7 = .ok (.putfield 48, 3) := by decide +kernel
theorem dX1_arrangeTones_10 : decode cX1_arrangeTones 10 = .ok (.iconst 0, 1) := by decide +kernel
theorem dX1_arrangeTones_11 : decode cX1_arrangeTones 11 = .ok (.istore_n 1, 1) := by decide +kernel
theorem dX1_arrangeTones_12 : decode cX1_arrangeTones 12 = .ok (.iload_n 1, 1) := by decide +kernel
theorem dX1_arrangeTones_13 : decode cX1_arrangeTones 13 = .ok (.aload_n 0, 1) := by decide +kernel
theorem dX1_arrangeTones_14 : decode cX1_arrangeTones 14 = .ok (.getfield 29, 3) := by decide +kernel
theorem dX1_arrangeTones_17 : decode cX1_arrangeTones 17 = .ok (.if_icmp .ge 62, 3) := by decide +kernel
theorem dX1_arrangeTones_20 : decode cX1_arrangeTones 20 = .ok (.aload_n 0, 1) := by decide +kernel
theorem dX1_arrangeTones_21 : decode cX1_arrangeTones 21 = .ok (.iload_n 1, 1) := by decide +kernel
theorem dX1_arrangeTones_22 : decode cX1_arrangeTones 22 = .ok (.invokevirtual 76, 3) := by decide +kernel
theorem dX1_arrangeTones_25 : decode cX1_arrangeTones 25 = .ok (.ifCond .eq 48, 3) := by decide +kernel
theorem dX1_arrangeTones_28 : decode cX1_arrangeTones 28 = .ok (.aload_n 0, 1) := by decide +kernel
theorem dX1_arrangeTones_29 : decode cX1_arrangeTones 29 = .ok (.getfield 11, 3) := by decide +kernel
theorem dX1_arrangeTones_32 : decode cX1_arrangeTones 32 = .ok (.iconst 4, 1) := by decide +kernel
theorem dX1_arrangeTones_33 : decode cX1_arrangeTones 33 = .ok (.aaload, 1) := by decide +kernel
theorem dX1_arrangeTones_34 : decode cX1_arrangeTones 34 = .ok (.iload_n 1, 1) := by decide +kernel
theorem dX1_arrangeTones_35 : decode cX1_arrangeTones 35 = .ok (.iaload, 1) := by decide +kernel
theorem dX1_arrangeTones_36 : decode cX1_arrangeTones 36 = .ok (.istore_n 2, 1) := by decide +kernel
theorem dX1_arrangeTones_37 : decode cX1_arrangeTones 37 = .ok (.aload_n 0, 1) := by decide +kernel
theorem dX1_arrangeTones_38 : decode cX1_arrangeTones 38 = .ok (.aload_n 0, 1) := by decide +kernel
theorem dX1_arrangeTones_39 : decode cX1_arrangeTones 39 = .ok (.getfield 45, 3) := by decide +kernel
theorem dX1_arrangeTones_42 : decode cX1_arrangeTones 42 = .ok (.iload_n 2, 1) := by decide +kernel
theorem dX1_arrangeTones_43 : decode cX1_arrangeTones 43 = .ok (.invokestatic 109, 3) := by decide +kernel
theorem dX1_arrangeTones_46 : decode cX1_arrangeTones 46 = .ok (.putfield 45, 3) := by decide +kernel
theorem dX1_arrangeTones_49 : decode cX1_arrangeTones 49 = .ok (.aload_n 0, 1) := by decide +kernel
theorem dX1_arrangeTones_50 : decode cX1_arrangeTones 50 = .ok (.aload_n 0, 1) := by decide +kernel
theorem dX1_arrangeTones_51 : decode cX1_arrangeTones 51 = .ok (.getfield 48, 3) := by decide +kernel
theorem dX1_arrangeTones_54 : decode cX1_arrangeTones 54 = .ok (.iconst (-1), 1) := by decide +kernel
theorem dX1_arrangeTones_55 : decode cX1_arrangeTones 55 = .ok (.if_icmp .ne 7, 3) := by decide +kernel
theorem dX1_arrangeTones_58 : decode cX1_arrangeTones 58 = .ok (.iload_n 2, 1) := by decide +kernel
theorem dX1_arrangeTones_59 : decode cX1_arrangeTones 59 = .ok (.goto 11, 3) := by decide +kernel
theorem dX1_arrangeTones_62 : decode cX1_arrangeTones 62 = .ok (.aload_n 0, 1) := by decide +kernel
theorem dX1_arrangeTones_63 : decode cX1_arrangeTones 63 = .ok (.getfield 48, 3) := by decide +kernel
theorem dX1_arrangeTones_66 : decode cX1_arrangeTones 66 = .ok (.iload_n 2, 1) := by decide +kernel
theorem dX1_arrangeTones_67 : decode cX1_arrangeTones 67 = .ok (.invokestatic 114, 3) := by decide +kernel
theorem dX1_arrangeTones_70 : decode cX1_arrangeTones 70 = .ok (.putfield 48, 3) := by decide +kernel
theorem dX1_arrangeTones_73 : decode cX1_arrangeTones 73 = .ok (.iinc 1 1, 3) := by decide +kernel
theorem dX1_arrangeTones_76 : decode cX1_arrangeTones 76 = .ok (.goto (-64), 3) := by decide +kernel
theorem dX1_arrangeTones_79 : decode cX1_arrangeTones 79 = .ok (.return_, 1) := by decide +kernel
theorem dX1_arrangeSounds_0 : decode cX1_arrangeSounds 0 = .ok (.aload_n 0, 1) := by decide +kernel
theorem dX1_arrangeSounds_1 : decode cX1_arrangeSounds 1 = .ok (.iconst 0, 1) := by decide +kernel
theorem dX1_arrangeSounds_2 : decode cX1_arrangeSounds 2 = .ok (.putfield 36, 3) := by decide +kernel
theorem dX1_arrangeSounds_5 : decode cX1_arrangeSounds 5 = .ok (.iconst 0, 1) := by decide +kernel
theorem dX1_arrangeSounds_6 : decode cX1_arrangeSounds 6 = .ok (.istore_n 1, 1) := by decide +kernel
theorem dX1_arrangeSounds_7 : decode cX1_arrangeSounds 7 = .ok (.iload_n 1, 1) := by decide +kernel
theorem dX1_arrangeSounds_8 : decode cX1_arrangeSounds 8 = .ok (.aload_n 0, 1) := by decide +kernel
theorem dX1_arrangeSounds_9 : decode cX1_arrangeSounds 9 = .ok (.getfield 29, 3) := by decide +kernel
theorem dX1_arrangeSounds_12 : decode cX1_arrangeSounds 12 = .ok (.if_icmp .ge 125, 3) := by decide +kernel
theorem dX1_arrangeSounds_15 : decode cX1_arrangeSounds 15 = .ok (.aload_n 0, 1) := by decide +kernel
theorem dX1_arrangeSounds_16 : decode cX1_arrangeSounds 16 = .ok (.iload_n 1, 1) := by decide +kernel
theorem dX1_arrangeSounds_17 : decode cX1_arrangeSounds 17 = .ok (.invokevirtual 76, 3) := by decide +kernel
theorem dX1_arrangeSounds_20 : decode cX1_arrangeSounds 20 = .ok (.ifCond .eq 111, 3) := by decide +kernel
theorem dX1_arrangeSounds_23 : decode cX1_arrangeSounds 23 = .ok (.aload_n 0, 1) := by decide +kernel
theorem dX1_arrangeSounds_24 : decode cX1_arrangeSounds 24 = .ok (.iload_n 1, 1) := by decide +kernel
theorem dX1_arrangeSounds_25 : decode cX1_arrangeSounds 25 = .ok (.iconst 1, 1) := by decide +kernel
theorem dX1_arrangeSounds_26 : decode cX1_arrangeSounds 26 = .ok (.isub, 1) := by decide +kernel
theorem dX1_arrangeSounds_27 : decode cX1_arrangeSounds 27 = .ok (.invokevirtual 93, 3) := by decide +kernel
theorem dX1_arrangeSounds_30 : decode cX1_arrangeSounds 30 = .ok (.istore_n 2, 1) := by decide +kernel
theorem dX1_arrangeSounds_31 : decode cX1_arrangeSounds 31 = .ok (.iload_n 2, 1) := by decide +kernel
theorem dX1_arrangeSounds_32 : decode cX1_arrangeSounds 32 = .ok (.ifCond .eq 19, 3) := by decide +kernel
theorem dX1_arrangeSounds_35 : decode cX1_arrangeSounds 35 = .ok (.aload_n 0, 1) := by decide +kernel
theorem dX1_arrangeSounds_36 : decode cX1_arrangeSounds 36 = .ok (.getfield 36, 3) := by decide +kernel
theorem dX1_arrangeSounds_39 : decode cX1_arrangeSounds 39 = .ok (.ifCond .le 12, 3) := by decide +kernel
theorem dX1_arrangeSounds_42 : decode cX1_arrangeSounds 42 = .ok (.aload_n 0, 1) := by decide +kernel
theorem dX1_arrangeSounds_43 : decode cX1_arrangeSounds 43 = .ok (.getfield 36, 3) := by decide +kernel
theorem dX1_arrangeSounds_46 : decode cX1_arrangeSounds 46 = .ok (.iconst 1, 1) := by decide +kernel
theorem dX1_arrangeSounds_47 : decode cX1_arrangeSounds 47 = .ok (.isub, 1) := by decide +kernel
theorem dX1_arrangeSounds_48 : decode cX1_arrangeSounds 48 = .ok (.goto 7, 3) := by decide +kernel
theorem dX1_arrangeSounds_51 : decode cX1_arrangeSounds 51 = .ok (.aload_n 0, 1) := by decide +kernel
theorem dX1_arrangeSounds_52 : decode cX1_arrangeSounds 52 = .ok (.getfield 36, 3) := by decide +kernel
theorem dX1_arrangeSounds_55 : decode cX1_arrangeSounds 55 = .ok (.istore_n 3, 1) := by decide +kernel
theorem dX1_arrangeSounds_56 : decode cX1_arrangeSounds 56 = .ok (.iload_n 3, 1) := by decide +kernel
theorem dX1_arrangeSounds_57 : decode cX1_arrangeSounds 57 = .ok (.aload_n 0, 1) := by decide +kernel
theorem dX1_arrangeSounds_58 : decode cX1_arrangeSounds 58 = .ok (.getfield 36, 3) := by decide +kernel
theorem dX1_arrangeSounds_61 : decode cX1_arrangeSounds 61 = .ok (.if_icmp .ne 45, 3) := by decide +kernel
theorem dX1_arrangeSounds_64 : decode cX1_arrangeSounds 64 = .ok (.aload_n 0, 1) := by decide +kernel
theorem dX1_arrangeSounds_65 : decode cX1_arrangeSounds 65 = .ok (.getfield 19, 3) := by decide +kernel
theorem dX1_arrangeSounds_68 : decode cX1_arrangeSounds 68 = .ok (.iconst 0, 1) := by decide +kernel
theorem dX1_arrangeSounds_69 : decode cX1_arrangeSounds 69 = .ok (.aaload, 1) := by decide +kernel
theorem dX1_arrangeSounds_70 : decode cX1_arrangeSounds 70 = .ok (.iload_n 3, 1) := by decide +kernel
theorem dX1_arrangeSounds_71 : decode cX1_arrangeSounds 71 = .ok (.aload_n 0, 1) := by decide +kernel
theorem dX1_arrangeSounds_72 : decode cX1_arrangeSounds 72 = .ok (.getfield 11, 3) := by decide +kernel
theorem dX1_arrangeSounds_75 : decode cX1_arrangeSounds 75 = .ok (.iconst 0, 1) := by decide +kernel
theorem dX1_arrangeSounds_76 : decode cX1_arrangeSounds 76 = .ok (.aaload, 1) := by decide +kernel
theorem dX1_arrangeSounds_77 : decode cX1_arrangeSounds 77 = .ok (.iload_n 1, 1) := by decide +kernel
theorem dX1_arrangeSounds_78 : decode cX1_arrangeSounds 78 = .ok (.iaload, 1) := by decide +kernel
theorem dX1_arrangeSounds_79 : decode cX1_arrangeSounds 79 = .ok (.iastore, 1) := by decide +kernel
theorem dX1_arrangeSounds_80 : decode cX1_arrangeSounds 80 = .ok (.aload_n 0, 1) := by decide +kernel
theorem dX1_arrangeSounds_81 : decode cX1_arrangeSounds 81 = .ok (.getfield 19, 3) := by decide +kernel
theorem dX1_arrangeSounds_84 : decode cX1_arrangeSounds 84 = .ok (.iconst 2, 1) := by decide +kernel
theorem dX1_arrangeSounds_85 : decode cX1_arrangeSounds 85 = .ok (.aaload, 1) := by decide +kernel
theorem dX1_arrangeSounds_86 : decode cX1_arrangeSounds 86 = .ok (.iload_n 3, 1) := by decide +kernel
theorem dX1_arrangeSounds_87 : decode cX1_arrangeSounds 87 = .ok (.aload_n 0, 1) := by decide +kernel
theorem dX1_arrangeSounds_88 : decode cX1_arrangeSounds 88 = .ok (.getfield 11, 3) := by decide +kernel
theorem dX1_arrangeSounds_91 : decode cX1_arrangeSounds 91 = .ok (.iconst 4, 1) := by decide +kernel
theorem dX1_arrangeSounds_92 : decode cX1_arrangeSounds 92 = .ok (.aaload, 1) := by decide +kernel
theorem dX1_arrangeSounds_93 : decode cX1_arrangeSounds 93 = .ok (.iload_n 1, 1) := by decide +kernel
theorem dX1_arrangeSounds_94 : decode cX1_arrangeSounds 94 = .ok (.iaload, 1) := by decide +kernel
theorem dX1_arrangeSounds_95 : decode cX1_arrangeSounds 95 = .ok (.iastore, 1) := by decide +kernel
theorem dX1_arrangeSounds_96 : decode cX1_arrangeSounds 96 = .ok (.aload_n 0, 1) := by decide +kernel
theorem dX1_arrangeSounds_97 : decode cX1_arrangeSounds 97 = .ok (.dup, 1) := by decide +kernel
theorem dX1_arrangeSounds_98 : decode cX1_arrangeSounds 98 = .ok (.getfield 36, 3) := by decide +kernel
theorem dX1_arrangeSounds_101 : decode cX1_arrangeSounds 101 = .ok (.iconst 1, 1) := by decide +kernel
theorem dX1_arrangeSounds_102 : decode cX1_arrangeSounds 102 = .ok (.iadd, 1) := by decide +kernel
theorem dX1_arrangeSounds_103 : decode cX1_arrangeSounds 103 = .ok (.putfield 36, 3) := by decide +kernel
theorem dX1_arrangeSounds_106 : decode cX1_arrangeSounds 106 = .ok (.aload_n 0, 1) := by decide +kernel
theorem dX1_arrangeSounds_107 : decode cX1_arrangeSounds 107 = .ok (.getfield 19, 3) := by decide +kernel
theorem dX1_arrangeSounds_110 : decode cX1_arrangeSounds 110 = .ok (.iconst 1, 1) := by decide +kernel
theorem dX1_arrangeSounds_111 : decode cX1_arrangeSounds 111 = .ok (.aaload, 1) := by decide +kernel
theorem dX1_arrangeSounds_112 : decode cX1_arrangeSounds 112 = .ok (.iload_n 3, 1) := by decide +kernel
theorem dX1_arrangeSounds_113 : decode cX1_arrangeSounds 113 = .ok (.aload_n 0, 1) := by decide +kernel
theorem dX1_arrangeSounds_114 : decode cX1_arrangeSounds 114 = .ok (.getfield 11, 3) := by decide +kernel
theorem dX1_arrangeSounds_117 : decode cX1_arrangeSounds 117 = .ok (.iconst 0, 1) := by decide +kernel
theorem dX1_arrangeSounds_118 : decode cX1_arrangeSounds 118 = .ok (.aaload, 1) := by decide +kernel
theorem dX1_arrangeSounds_119 : decode cX1_arrangeSounds 119 = .ok (.iload_n 1, 1) := by decide +kernel
theorem dX1_arrangeSounds_120 : decode cX1_arrangeSounds 120 = .ok (.iaload, 1) := by decide +kernel
theorem dX1_arrangeSounds_121 : decode cX1_arrangeSounds 121 = .ok (.aload_n 0, 1) := by decide +kernel
theorem dX1_arrangeSounds_122 : decode cX1_arrangeSounds 122 = .ok (.getfield 11, 3) := by decide +kernel
theorem dX1_arrangeSounds_125 : decode cX1_arrangeSounds 125 = .ok (.iconst 1, 1) := by decide +kernel
theorem dX1_arrangeSounds_126 : decode cX1_arrangeSounds 126 = .ok (.aaload, 1) := by decide +kernel
theorem dX1_arrangeSounds_127 : decode cX1_arrangeSounds 127 = .ok (.iload_n 1, 1) := by decide +kernel
theorem dX1_arrangeSounds_128 : decode cX1_arrangeSounds 128 = .ok (.iaload, 1) := by decide +kernel
theorem dX1_arrangeSounds_129 : decode cX1_arrangeSounds 129 = .ok (.iadd, 1) := by decide +kernel
theorem dX1_arrangeSounds_130 : decode cX1_arrangeSounds 130 = .ok (.iastore, 1) := by decide +kernel
theorem dX1_arrangeSounds_131 : decode cX1_arrangeSounds 131 = .ok (.iinc 1 1, 3) := by decide +kernel
theorem dX1_arrangeSounds_134 : decode cX1_arrangeSounds 134 = .ok (.goto (-127), 3) := by decide +kernel
theorem dX1_arrangeSounds_137 : decode cX1_arrangeSounds 137 = .ok (.return_, 1) := by decide +kernel
theorem dX1_arrangeSigns_0 : decode cX1_arrangeSigns 0 = .ok (.aload_n 0, 1) := by decide +kernel
theorem dX1_arrangeSigns_1 : decode cX1_arrangeSigns 1 = .ok (.iconst 0, 1) := by decide +kernel
theorem dX1_arrangeSigns_2 : decode cX1_arrangeSigns 2 = .ok (.putfield 42, 3) := by decide +kernel
theorem dX1_arrangeSigns_5 : decode cX1_arrangeSigns 5 = .ok (.iconst 0, 1) := by decide +kernel
theorem dX1_arrangeSigns_6 : decode cX1_arrangeSigns 6 = .ok (.istore_n 2, 1) := by decide +kernel
theorem dX1_arrangeSigns_7 : decode cX1_arrangeSigns 7 = .ok (.iload_n 2, 1) := by decide +kernel
theorem dX1_arrangeSigns_8 : decode cX1_arrangeSigns 8 = .ok (.aload_n 0, 1) := by decide +kernel
theorem dX1_arrangeSigns_9 : decode cX1_arrangeSigns 9 = .ok (.getfield 22, 3) := by decide +kernel
theorem dX1_arrangeSigns_12 : decode cX1_arrangeSigns 12 = .ok (.arraylength, 1) := by decide +kernel
theorem dX1_arrangeSigns_13 : decode cX1_arrangeSigns 13 = .ok (.if_icmp .ge 16, 3) := by decide +kernel
theorem dX1_arrangeSigns_16 : decode cX1_arrangeSigns 16 = .ok (.aload_n 0, 1) := by decide +kernel
theorem dX1_arrangeSigns_17 : decode cX1_arrangeSigns 17 = .ok (.getfield 22, 3) := by decide +kernel
theorem dX1_arrangeSigns_20 : decode cX1_arrangeSigns 20 = .ok (.iload_n 2, 1) := by decide +kernel
theorem dX1_arrangeSigns_21 : decode cX1_arrangeSigns 21 = .ok (.iconst (-1), 1) := by decide +kernel
theorem dX1_arrangeSigns_22 : decode cX1_arrangeSigns 22 = .ok (.iastore, 1) := by decide +kernel
theorem dX1_arrangeSigns_23 : decode cX1_arrangeSigns 23 = .ok (.iinc 2 1, 3) := by decide +kernel
theorem dX1_arrangeSigns_26 : decode cX1_arrangeSigns 26 = .ok (.goto (-19), 3) := by decide +kernel
theorem dX1_arrangeSigns_29 : decode cX1_arrangeSigns 29 = .ok (.iconst 0, 1) := by decide +kernel
theorem dX1_arrangeSigns_30 : decode cX1_arrangeSigns 30 = .ok (.istore_n 2, 1) := by decide +kernel
theorem dX1_arrangeSigns_31 : decode cX1_arrangeSigns 31 = .ok (.iload_n 2, 1) := by decide +kernel
theorem dX1_arrangeSigns_32 : decode cX1_arrangeSigns 32 = .ok (.aload_n 0, 1) := by decide +kernel
theorem dX1_arrangeSigns_33 : decode cX1_arrangeSigns 33 = .ok (.getfield 29, 3) := by decide +kernel
theorem dX1_arrangeSigns_36 : decode cX1_arrangeSigns 36 = .ok (.if_icmp .ge 146, 3) := by decide +kernel
theorem dX1_arrangeSigns_39 : decode cX1_arrangeSigns 39 = .ok (.aload_n 0, 1) := by decide +kernel
theorem dX1_arrangeSigns_40 : decode cX1_arrangeSigns 40 = .ok (.getfield 11, 3) := by decide +kernel
theorem dX1_arrangeSigns_43 : decode cX1_arrangeSigns 43 = .ok (.bipush 7, 2) := by decide +kernel
theorem dX1_arrangeSigns_45 : decode cX1_arrangeSigns 45 = .ok (.aaload, 1) := by decide +kernel
theorem dX1_arrangeSigns_46 : decode cX1_arrangeSigns 46 = .ok (.iload_n 2, 1) := by decide +kernel
theorem dX1_arrangeSigns_47 : decode cX1_arrangeSigns 47 = .ok (.iconst 0, 1) := by decide +kernel
theorem dX1_arrangeSigns_48 : decode cX1_arrangeSigns 48 = .ok (.iastore, 1) := by decide +kernel
theorem dX1_arrangeSigns_49 : decode cX1_arrangeSigns 49 = .ok (.aload_n 0, 1) := by decide +kernel
theorem dX1_arrangeSigns_50 : decode cX1_arrangeSigns 50 = .ok (.iload_n 2, 1) := by decide +kernel
theorem dX1_arrangeSigns_51 : decode cX1_arrangeSigns 51 = .ok (.invokevirtual 76, 3) := by decide +kernel
theorem dX1_arrangeSigns_54 : decode cX1_arrangeSigns 54 = .ok (.ifCond .eq 122, 3) := by decide +kernel
theorem dX1_arrangeSigns_57 : decode cX1_arrangeSigns 57 = .ok (.aload_n 0, 1) := by decide +kernel
theorem dX1_arrangeSigns_58 : decode cX1_arrangeSigns 58 = .ok (.iload_n 2, 1) := by decide +kernel
theorem dX1_arrangeSigns_59 : decode cX1_arrangeSigns 59 = .ok (.invokevirtual 68, 3) := by decide +kernel
theorem dX1_arrangeSigns_62 : decode cX1_arrangeSigns 62 = .ok (.istore_n 3, 1) := by decide +kernel
theorem dX1_arrangeSigns_63 : decode cX1_arrangeSigns 63 = .ok (.aload_n 0, 1) := by decide +kernel
theorem dX1_arrangeSigns_64 : decode cX1_arrangeSigns 64 = .ok (.getfield 22, 3) := by decide +kernel
theorem dX1_arrangeSigns_67 : decode cX1_arrangeSigns 67 = .ok (.iload_n 3, 1) := by decide +kernel
theorem dX1_arrangeSigns_68 : decode cX1_arrangeSigns 68 = .ok (.iaload, 1) := by decide +kernel
theorem dX1_arrangeSigns_69 : decode cX1_arrangeSigns 69 = .ok (.aload_n 0, 1) := by decide +kernel
theorem dX1_arrangeSigns_70 : decode cX1_arrangeSigns 70 = .ok (.getfield 11, 3) := by decide +kernel
theorem dX1_arrangeSigns_73 : decode cX1_arrangeSigns 73 = .ok (.bipush 6, 2) := by decide +kernel
theorem dX1_arrangeSigns_75 : decode cX1_arrangeSigns 75 = .ok (.aaload, 1) := by decide +kernel
theorem dX1_arrangeSigns_76 : decode cX1_arrangeSigns 76 = .ok (.iload_n 2, 1) := by decide +kernel
theorem dX1_arrangeSigns_77 : decode cX1_arrangeSigns 77 = .ok (.iaload, 1) := by decide +kernel
theorem dX1_arrangeSigns_78 : decode cX1_arrangeSigns 78 = .ok (.if_icmp .ne 12, 3) := by decide +kernel
theorem dX1_arrangeSigns_81 : decode cX1_arrangeSigns 81 = .ok (.aload_n 0, 1) := by decide +kernel
theorem dX1_arrangeSigns_82 : decode cX1_arrangeSigns 82 = .ok (.getfield 26, 3) := by decide +kernel
theorem dX1_arrangeSigns_85 : decode cX1_arrangeSigns 85 = .ok (.iload_n 3, 1) := by decide +kernel
theorem dX1_arrangeSigns_86 : decode cX1_arrangeSigns 86 = .ok (.iaload, 1) := by decide +kernel
theorem dX1_arrangeSigns_87 : decode cX1_arrangeSigns 87 = .ok (.goto 15, 3) := by decide +kernel
theorem dX1_arrangeSigns_90 : decode cX1_arrangeSigns 90 = .ok (.iload_n 1, 1) := by decide +kernel
theorem dX1_arrangeSigns_91 : decode cX1_arrangeSigns 91 = .ok (.aload_n 0, 1) := by decide +kernel
theorem dX1_arrangeSigns_92 : decode cX1_arrangeSigns 92 = .ok (.getfield 16, 3) := by decide +kernel
theorem dX1_arrangeSigns_95 : decode cX1_arrangeSigns 95 = .ok (.iconst 0, 1) := by decide +kernel
theorem dX1_arrangeSigns_96 : decode cX1_arrangeSigns 96 = .ok (.aaload, 1) := by decide +kernel
theorem dX1_arrangeSigns_97 : decode cX1_arrangeSigns 97 = .ok (.iload_n 2, 1) := by decide +kernel
theorem dX1_arrangeSigns_98 : decode cX1_arrangeSigns 98 = .ok (.iaload, 1) := by decide +kernel
theorem dX1_arrangeSigns_99 : decode cX1_arrangeSigns 99 = .ok (.invokestatic 117, 3) := by decide +kernel
theorem dX1_arrangeSigns_102 : decode cX1_arrangeSigns 102 = .ok (.istore 4, 2) := by decide +kernel
theorem dX1_arrangeSigns_104 : decode cX1_arrangeSigns 104 = .ok (.iload 4, 2) := by decide +kernel
theorem dX1_arrangeSigns_106 : decode cX1_arrangeSigns 106 = .ok (.aload_n 0, 1) := by decide +kernel
theorem dX1_arrangeSigns_107 : decode cX1_arrangeSigns 107 = .ok (.getfield 16, 3) := by decide +kernel
theorem dX1_arrangeSigns_110 : decode cX1_arrangeSigns 110 = .ok (.iconst 1, 1) := by decide +kernel
theorem dX1_arrangeSigns_111 : decode cX1_arrangeSigns 111 = .ok (.aaload, 1) := by decide +kernel
theorem dX1_arrangeSigns_112 : decode cX1_arrangeSigns 112 = .ok (.iload_n 2, 1) := by decide +kernel
theorem dX1_arrangeSigns_113 : decode cX1_arrangeSigns 113 = .ok (.iaload, 1) := by decide +kernel
theorem dX1_arrangeSigns_114 : decode cX1_arrangeSigns 114 = .ok (.if_icmp .eq 33, 3) := by decide +kernel
theorem dX1_arrangeSigns_117 : decode cX1_arrangeSigns 117 = .ok (.aload_n 0, 1) := by decide +kernel
theorem dX1_arrangeSigns_118 : decode cX1_arrangeSigns 118 = .ok (.iload_n 2, 1) := by decide +kernel
theorem dX1_arrangeSigns_119 : decode cX1_arrangeSigns 119 = .ok (.iconst 1, 1) := by decide +kernel
theorem dX1_arrangeSigns_120 : decode cX1_arrangeSigns 120 = .ok (.isub, 1) := by decide +kernel
theorem dX1_arrangeSigns_121 : decode cX1_arrangeSigns 121 = .ok (.invokevirtual 93, 3) := by decide +kernel
theorem dX1_arrangeSigns_124 : decode cX1_arrangeSigns 124 = .ok (.ifCond .ne 23, 3) := by decide +kernel
theorem dX1_arrangeSigns_127 : decode cX1_arrangeSigns 127 = .ok (.aload_n 0, 1) := by decide +kernel
theorem dX1_arrangeSigns_128 : decode cX1_arrangeSigns 128 = .ok (.getfield 11, 3) := by decide +kernel
theorem dX1_arrangeSigns_131 : decode cX1_arrangeSigns 131 = .ok (.bipush 7, 2) := by decide +kernel
theorem dX1_arrangeSigns_133 : decode cX1_arrangeSigns 133 = .ok (.aaload, 1) := by decide +kernel
theorem dX1_arrangeSigns_134 : decode cX1_arrangeSigns 134 = .ok (.iload_n 2, 1) := by decide +kernel
theorem dX1_arrangeSigns_135 : decode cX1_arrangeSigns 135 = .ok (.iconst 1, 1) := by decide +kernel
theorem dX1_arrangeSigns_136 : decode cX1_arrangeSigns 136 = .ok (.iastore, 1) := by decide +kernel
theorem dX1_arrangeSigns_137 : decode cX1_arrangeSigns 137 = .ok (.aload_n 0, 1) := by decide +kernel
theorem dX1_arrangeSigns_138 : decode cX1_arrangeSigns 138 = .ok (.dup, 1) := by decide +kernel
theorem dX1_arrangeSigns_139 : decode cX1_arrangeSigns 139 = .ok (.getfield 42, 3) := by decide +kernel
theorem dX1_arrangeSigns_142 : decode cX1_arrangeSigns 142 = .ok (.iconst 1, 1) := by decide +kernel
theorem dX1_arrangeSigns_143 : decode cX1_arrangeSigns 143 = .ok (.iadd, 1) := by decide +kernel
theorem dX1_arrangeSigns_144 : decode cX1_arrangeSigns 144 = .ok (.putfield 42, 3) := by decide +kernel
theorem dX1_arrangeSigns_147 : decode cX1_arrangeSigns 147 = .ok (.aload_n 0, 1) := by decide +kernel
theorem dX1_arrangeSigns_148 : decode cX1_arrangeSigns 148 = .ok (.getfield 22, 3) := by decide +kernel
theorem dX1_arrangeSigns_151 : decode cX1_arrangeSigns 151 = .ok (.iload_n 3, 1) := by decide +kernel
theorem dX1_arrangeSigns_152 : decode cX1_arrangeSigns 152 = .ok (.aload_n 0, 1) := by decide +kernel
theorem dX1_arrangeSigns_153 : decode cX1_arrangeSigns 153 = .ok (.getfield 11, 3) := by decide +kernel
theorem dX1_arrangeSigns_156 : decode cX1_arrangeSigns 156 = .ok (.bipush 6, 2) := by decide +kernel
theorem dX1_arrangeSigns_158 : decode cX1_arrangeSigns 158 = .ok (.aaload, 1) := by decide +kernel
theorem dX1_arrangeSigns_159 : decode cX1_arrangeSigns 159 = .ok (.iload_n 2, 1) := by decide +kernel
theorem dX1_arrangeSigns_160 : decode cX1_arrangeSigns 160 = .ok (.iaload, 1) := by decide +kernel
theorem dX1_arrangeSigns_161 : decode cX1_arrangeSigns 161 = .ok (.iastore, 1) := by decide +kernel
theorem dX1_arrangeSigns_162 : decode cX1_arrangeSigns 162 = .ok (.aload_n 0, 1) := by decide +kernel
theorem dX1_arrangeSigns_163 : decode cX1_arrangeSigns 163 = .ok (.getfield 26, 3) := by decide +kernel
theorem dX1_arrangeSigns_166 : decode cX1_arrangeSigns 166 = .ok (.iload_n 3, 1) := by decide +kernel
theorem dX1_arrangeSigns_167 : decode cX1_arrangeSigns 167 = .ok (.aload_n 0, 1) := by decide +kernel
theorem dX1_arrangeSigns_168 : decode cX1_arrangeSigns 168 = .ok (.getfield 16, 3) := by decide +kernel
theorem dX1_arrangeSigns_171 : decode cX1_arrangeSigns 171 = .ok (.iconst 1, 1) := by decide +kernel
theorem dX1_arrangeSigns_172 : decode cX1_arrangeSigns 172 = .ok (.aaload, 1) := by decide +kernel
theorem dX1_arrangeSigns_173 : decode cX1_arrangeSigns 173 = .ok (.iload_n 2, 1) := by decide +kernel
theorem dX1_arrangeSigns_174 : decode cX1_arrangeSigns 174 = .ok (.iaload, 1) := by decide +kernel
theorem dX1_arrangeSigns_175 : decode cX1_arrangeSigns 175 = .ok (.iastore, 1) := by decide +kernel
theorem dX1_arrangeSigns_176 : decode cX1_arrangeSigns 176 = .ok (.iinc 2 1, 3) := by decide +kernel
theorem dX1_arrangeSigns_179 : decode cX1_arrangeSigns 179 = .ok (.goto (-148), 3) := by decide +kernel
theorem dX1_arrangeSigns_182 : decode cX1_arrangeSigns 182 = .ok (.return_, 1) := by decide +kernel
theorem dX1_arrangeBeams_0 : decode cX1_arrangeBeams 0 = .ok (.aload_n 0, 1) := by decide +kernel
theorem dX1_arrangeBeams_1 : decode cX1_arrangeBeams 1 = .ok (.iconst 0, 1) := by decide +kernel
theorem dX1_arrangeBeams_2 : decode cX1_arrangeBeams 2 = .ok (.putfield 39, 3) := by decide +kernel
theorem dX1_arrangeBeams_5 : decode cX1_arrangeBeams 5 = .ok (.iconst 0, 1) := by decide +kernel
theorem dX1_arrangeBeams_6 : decode cX1_arrangeBeams 6 = .ok (.istore_n 2, 1) := by decide +kernel
theorem dX1_arrangeBeams_7 : decode cX1_arrangeBeams 7 = .ok (.iload_n 2, 1) := by decide +kernel
theorem dX1_arrangeBeams_8 : decode cX1_arrangeBeams 8 = .ok (.aload_n 0, 1) := by decide +kernel
theorem dX1_arrangeBeams_9 : decode cX1_arrangeBeams 9 = .ok (.getfield 29, 3) := by decide +kernel
theorem dX1_arrangeBeams_12 : decode cX1_arrangeBeams 12 = .ok (.if_icmp .ge 90, 3) := by decide +kernel
theorem dX1_arrangeBeams_15 : decode cX1_arrangeBeams 15 = .ok (.aload_n 0, 1) := by decide +kernel
theorem dX1_arrangeBeams_16 : decode cX1_arrangeBeams 16 = .ok (.getfield 11, 3) := by decide +kernel
theorem dX1_arrangeBeams_19 : decode cX1_arrangeBeams 19 = .ok (.bipush 8, 2) := by decide +kernel
theorem dX1_arrangeBeams_21 : decode cX1_arrangeBeams 21 = .ok (.aaload, 1) := by decide +kernel
theorem dX1_arrangeBeams_22 : decode cX1_arrangeBeams 22 = .ok (.iload_n 2, 1) := by decide +kernel
theorem dX1_arrangeBeams_23 : decode cX1_arrangeBeams 23 = .ok (.iconst (-1), 1) := by decide +kernel
theorem dX1_arrangeBeams_24 : decode cX1_arrangeBeams 24 = .ok (.iastore, 1) := by decide +kernel
theorem dX1_arrangeBeams_25 : decode cX1_arrangeBeams 25 = .ok (.aload_n 0, 1) := by decide +kernel
theorem dX1_arrangeBeams_26 : decode cX1_arrangeBeams 26 = .ok (.iload_n 2, 1) := by decide +kernel
theorem dX1_arrangeBeams_27 : decode cX1_arrangeBeams 27 = .ok (.iconst 1, 1) := by decide +kernel
theorem dX1_arrangeBeams_28 : decode cX1_arrangeBeams 28 = .ok (.isub, 1) := by decide +kernel
theorem dX1_arrangeBeams_29 : decode cX1_arrangeBeams 29 = .ok (.iload_n 1, 1) := by decide +kernel
theorem dX1_arrangeBeams_30 : decode cX1_arrangeBeams 30 = .ok (.invokevirtual 120, 3) := by decide +kernel
theorem dX1_arrangeBeams_33 : decode cX1_arrangeBeams 33 = .ok (.ifCond .eq 63, 3) := by decide +kernel
theorem dX1_arrangeBeams_36 : decode cX1_arrangeBeams 36 = .ok (.aload_n 0, 1) := by decide +kernel
theorem dX1_arrangeBeams_37 : decode cX1_arrangeBeams 37 = .ok (.getfield 11, 3) := by decide +kernel
theorem dX1_arrangeBeams_40 : decode cX1_arrangeBeams 40 = .ok (.bipush 8, 2) := by decide +kernel
theorem dX1_arrangeBeams_42 : decode cX1_arrangeBeams 42 = .ok (.aaload, 1) := by decide +kernel
theorem dX1_arrangeBeams_43 : decode cX1_arrangeBeams 43 = .ok (.iload_n 2, 1) := by decide +kernel
theorem dX1_arrangeBeams_44 : decode cX1_arrangeBeams 44 = .ok (.iconst 1, 1) := by decide +kernel
theorem dX1_arrangeBeams_45 : decode cX1_arrangeBeams 45 = .ok (.isub, 1) := by decide +kernel
theorem dX1_arrangeBeams_46 : decode cX1_arrangeBeams 46 = .ok (.iaload, 1) := by decide +kernel
theorem dX1_arrangeBeams_47 : decode cX1_arrangeBeams 47 = .ok (.iconst (-1), 1) := by decide +kernel
theorem dX1_arrangeBeams_48 : decode cX1_arrangeBeams 48 = .ok (.if_icmp .ne 28, 3) := by decide +kernel
theorem dX1_arrangeBeams_51 : decode cX1_arrangeBeams 51 = .ok (.aload_n 0, 1) := by decide +kernel
theorem dX1_arrangeBeams_52 : decode cX1_arrangeBeams 52 = .ok (.getfield 11, 3) := by decide +kernel
theorem dX1_arrangeBeams_55 : decode cX1_arrangeBeams 55 = .ok (.bipush 8, 2) := by decide +kernel
theorem dX1_arrangeBeams_57 : decode cX1_arrangeBeams 57 = .ok (.aaload, 1) := by decide +kernel
theorem dX1_arrangeBeams_58 : decode cX1_arrangeBeams 58 = .ok (.iload_n 2, 1) := by decide +kernel
theorem dX1_arrangeBeams_59 : decode cX1_arrangeBeams 59 = .ok (.iconst 1, 1) := by decide +kernel
theorem dX1_arrangeBeams_60 : decode cX1_arrangeBeams 60 = .ok (.isub, 1) := by decide +kernel
theorem dX1_arrangeBeams_61 : decode cX1_arrangeBeams 61 = .ok (.aload_n 0, 1) := by decide +kernel
theorem dX1_arrangeBeams_62 : decode cX1_arrangeBeams 62 = .ok (.getfield 39, 3) := by decide +kernel
theorem dX1_arrangeBeams_65 : decode cX1_arrangeBeams 65 = .ok (.iastore, 1) := by decide +kernel
theorem dX1_arrangeBeams_66 : decode cX1_arrangeBeams 66 = .ok (.aload_n 0, 1) := by decide +kernel
theorem dX1_arrangeBeams_67 : decode cX1_arrangeBeams 67 = .ok (.dup, 1) := by decide +kernel
theorem dX1_arrangeBeams_68 : decode cX1_arrangeBeams 68 = .ok (.getfield 39, 3) := by decide +kernel
theorem dX1_arrangeBeams_71 : decode cX1_arrangeBeams 71 = .ok (.iconst 1, 1) := by decide +kernel
theorem dX1_arrangeBeams_72 : decode cX1_arrangeBeams 72 = .ok (.iadd, 1) := by decide +kernel
theorem dX1_arrangeBeams_73 : decode cX1_arrangeBeams 73 = .ok (.putfield 39, 3) := by decide +kernel
theorem dX1_arrangeBeams_76 : decode cX1_arrangeBeams 76 = .ok (.aload_n 0, 1) := by decide +kernel
theorem dX1_arrangeBeams_77 : decode cX1_arrangeBeams 77 = .ok (.getfield 11, 3) := by decide +kernel
theorem dX1_arrangeBeams_80 : decode cX1_arrangeBeams 80 = .ok (.bipush 8, 2) := by decide +kernel
theorem dX1_arrangeBeams_82 : decode cX1_arrangeBeams 82 = .ok (.aaload, 1) := by decide +kernel
theorem dX1_arrangeBeams_83 : decode cX1_arrangeBeams 83 = .ok (.iload_n 2, 1) := by decide +kernel
theorem dX1_arrangeBeams_84 : decode cX1_arrangeBeams 84 = .ok (.aload_n 0, 1) := by decide +kernel
theorem dX1_arrangeBeams_85 : decode cX1_arrangeBeams 85 = .ok (.getfield 11, 3) := by decide +kernel
theorem dX1_arrangeBeams_88 : decode cX1_arrangeBeams 88 = .ok (.bipush 8, 2) := by decide +kernel
theorem dX1_arrangeBeams_90 : decode cX1_arrangeBeams 90 = .ok (.aaload, 1) := by decide +kernel
theorem dX1_arrangeBeams_91 : decode cX1_arrangeBeams 91 = .ok (.iload_n 2, 1) := by decide +kernel
theorem dX1_arrangeBeams_92 : decode cX1_arrangeBeams 92 = .ok (.iconst 1, 1) := by decide +kernel
theorem dX1_arrangeBeams_93 : decode cX1_arrangeBeams 93 = .ok (.isub, 1) := by decide +kernel
theorem dX1_arrangeBeams_94 : decode cX1_arrangeBeams 94 = .ok (.iaload, 1) := by decide +kernel
theorem dX1_arrangeBeams_95 : decode cX1_arrangeBeams 95 = .ok (.iastore, 1) := by decide +kernel
theorem dX1_arrangeBeams_96 : decode cX1_arrangeBeams 96 = .ok (.iinc 2 1, 3) := by decide +kernel
theorem dX1_arrangeBeams_99 : decode cX1_arrangeBeams 99 = .ok (.goto (-92), 3) := by decide +kernel
theorem dX1_arrangeBeams_102 : decode cX1_arrangeBeams 102 = .ok (.return_, 1) := by decide +kernel
theorem dX1_isGrouped_0 : decode cX1_isGrouped 0 = .ok (.iload_n 1, 1) := by decide +kernel
theorem dX1_isGrouped_1 : decode cX1_isGrouped 1 = .ok (.ifCond .lt 31, 3) := by decide +kernel
theorem dX1_isGrouped_4 : decode cX1_isGrouped 4 = .ok (.iload_n 1, 1) := by decide +kernel
theorem dX1_isGrouped_5 : decode cX1_isGrouped 5 = .ok (.iconst 1, 1) := by decide +kernel
theorem dX1_isGrouped_6 : decode cX1_isGrouped 6 = .ok (.iadd, 1) := by decide +kernel
theorem dX1_isGrouped_7 : decode cX1_isGrouped 7 = .ok (.aload_n 0, 1) := by decide +kernel
theorem dX1_isGrouped_8 : decode cX1_isGrouped 8 = .ok (.getfield 29, 3) := by decide +kernel
theorem dX1_isGrouped_11 : decode cX1_isGrouped 11 = .ok (.if_icmp .ge 21, 3) := by decide +kernel
theorem dX1_isGrouped_14 : decode cX1_isGrouped 14 = .ok (.aload_n 0, 1) := by decide +kernel
theorem dX1_isGrouped_15 : decode cX1_isGrouped 15 = .ok (.iload_n 1, 1) := by decide +kernel
theorem dX1_isGrouped_16 : decode cX1_isGrouped 16 = .ok (.invokevirtual 124, 3) := by decide +kernel
theorem dX1_isGrouped_19 : decode cX1_isGrouped 19 = .ok (.ifCond .eq 13, 3) := by decide +kernel
theorem dX1_isGrouped_22 : decode cX1_isGrouped 22 = .ok (.aload_n 0, 1) := by decide +kernel
theorem dX1_isGrouped_23 : decode cX1_isGrouped 23 = .ok (.iload_n 1, 1) := by decide +kernel
theorem dX1_isGrouped_24 : decode cX1_isGrouped 24 = .ok (.iconst 1, 1) := by decide +kernel
theorem dX1_isGrouped_25 : decode cX1_isGrouped 25 = .ok (.iadd, 1) := by decide +kernel
theorem dX1_isGrouped_26 : decode cX1_isGrouped 26 = .ok (.invokevirtual 124, 3) := by decide +kernel
theorem dX1_isGrouped_29 : decode cX1_isGrouped 29 = .ok (.ifCond .ne 5, 3) := by decide +kernel
theorem dX1_isGrouped_32 : decode cX1_isGrouped 32 = .ok (.iconst 0, 1) := by decide +kernel
theorem dX1_isGrouped_33 : decode cX1_isGrouped 33 = .ok (.ireturn, 1) := by decide +kernel
theorem dX1_isGrouped_34 : decode cX1_isGrouped 34 = .ok (.aload_n 0, 1) := by decide +kernel
theorem dX1_isGrouped_35 : decode cX1_isGrouped 35 = .ok (.getfield 11, 3) := by decide +kernel
theorem dX1_isGrouped_38 : decode cX1_isGrouped 38 = .ok (.iconst 0, 1) := by decide +kernel
theorem dX1_isGrouped_39 : decode cX1_isGrouped 39 = .ok (.aaload, 1) := by decide +kernel
theorem dX1_isGrouped_40 : decode cX1_isGrouped 40 = .ok (.iload_n 1, 1) := by decide +kernel
theorem dX1_isGrouped_41 : decode cX1_isGrouped 41 = .ok (.iaload, 1) := by decide +kernel
theorem dX1_isGrouped_42 : decode cX1_isGrouped 42 = .ok (.iload_n 2, 1) := by decide +kernel
theorem dX1_isGrouped_43 : decode cX1_isGrouped 43 = .ok (.invokestatic 127, 3) := by decide +kernel
theorem dX1_isGrouped_46 : decode cX1_isGrouped 46 = .ok (.istore_n 3, 1) := by decide +kernel
theorem dX1_isGrouped_47 : decode cX1_isGrouped 47 = .ok (.iload_n 3, 1) := by decide +kernel
theorem dX1_isGrouped_48 : decode cX1_isGrouped 48 = .ok (.aload_n 0, 1) := by decide +kernel
theorem dX1_isGrouped_49 : decode cX1_isGrouped 49 = .ok (.getfield 11, 3) := by decide +kernel
theorem dX1_isGrouped_52 : decode cX1_isGrouped 52 = .ok (.iconst 0, 1) := by decide +kernel
theorem dX1_isGrouped_53 : decode cX1_isGrouped 53 = .ok (.aaload, 1) := by decide +kernel
theorem dX1_isGrouped_54 : decode cX1_isGrouped 54 = .ok (.iload_n 1, 1) := by decide +kernel
theorem dX1_isGrouped_55 : decode cX1_isGrouped 55 = .ok (.iconst 1, 1) := by decide +kernel
theorem dX1_isGrouped_56 : decode cX1_isGrouped 56 = .ok (.iadd, 1) := by decide +kernel
theorem dX1_isGrouped_57 : decode cX1_isGrouped 57 = .ok (.iaload, 1) := by decide +kernel
theorem dX1_isGrouped_58 : decode cX1_isGrouped 58 = .ok (.iload_n 2, 1) := by decide +kernel
theorem dX1_isGrouped_59 : decode cX1_isGrouped 59 = .ok (.invokestatic 127, 3) := by decide +kernel
theorem dX1_isGrouped_62 : decode cX1_isGrouped 62 = .ok (.if_icmp .ne 7, 3) := by decide +kernel
theorem dX1_isGrouped_65 : decode cX1_isGrouped 65 = .ok (.iconst 1, 1) := by decide +kernel
theorem dX1_isGrouped_66 : decode cX1_isGrouped 66 = .ok (.goto 4, 3) := by decide +kernel
theorem dX1_isGrouped_69 : decode cX1_isGrouped 69 = .ok (.iconst 0, 1) := by decide +kernel
theorem dX1_isGrouped_70 : decode cX1_isGrouped 70 = .ok (.ireturn, 1) := by decide +kernel
theorem dX1_isShortNote_0 : decode cX1_isShortNote 0 = .ok (.aload_n 0, 1) := by decide +kernel
theorem dX1_isShortNote_1 : decode cX1_isShortNote 1 = .ok (.iload_n 1, 1) := by decide +kernel
theorem dX1_isShortNote_2 : decode cX1_isShortNote 2 = .ok (.invokevirtual 76, 3) := by decide +kernel
theorem dX1_isShortNote_5 : decode cX1_isShortNote 5 = .ok (.ifCond .eq 20, 3) := by decide +kernel
theorem dX1_isShortNote_8 : decode cX1_isShortNote 8 = .ok (.aload_n 0, 1) := by decide +kernel
theorem dX1_isShortNote_9 : decode cX1_isShortNote 9 = .ok (.getfield 11, 3) := by decide +kernel
theorem dX1_isShortNote_12 : decode cX1_isShortNote 12 = .ok (.iconst 2, 1) := by decide +kernel
theorem dX1_isShortNote_13 : decode cX1_isShortNote 13 = .ok (.aaload, 1) := by decide +kernel
theorem dX1_isShortNote_14 : decode cX1_isShortNote 14 = .ok (.iload_n 1, 1) := by decide +kernel
theorem dX1_isShortNote_15 : decode cX1_isShortNote 15 = .ok (.iaload, 1) := by decide +kernel
theorem dX1_isShortNote_16 : decode cX1_isShortNote 16 = .ok (.bipush 8, 2) := by decide +kernel
theorem dX1_isShortNote_18 : decode cX1_isShortNote 18 = .ok (.if_icmp .lt 7, 3) := by decide +kernel
theorem dX1_isShortNote_21 : decode cX1_isShortNote 21 = .ok (.iconst 1, 1) := by decide +kernel
theorem dX1_isShortNote_22 : decode cX1_isShortNote 22 = .ok (.goto 4, 3) := by decide +kernel
theorem dX1_isShortNote_25 : decode cX1_isShortNote 25 = .ok (.iconst 0, 1) := by decide +kernel
theorem dX1_isShortNote_26 : decode cX1_isShortNote 26 = .ok (.ireturn, 1) := by decide +kernel
theorem dX2_init_0 : decode cX2_init 0 = .ok (.aload_n 0, 1) := by decide +kernel
theorem dX2_init_1 : decode cX2_init 1 = .ok (.invokespecial 1, 3) := by decide +kernel
theorem dX2_init_4 : decode cX2_init 4 = .ok (.aload_n 0, 1) := by decide +kernel
theorem dX2_init_5 : decode cX2_init 5 = .ok (.iconst 4, 1) := by decide +kernel
theorem dX2_init_6 : decode cX2_init 6 = .ok (.anewarray 9, 3) := by decide +kernel
theorem dX2_init_9 : decode cX2_init 9 = .ok (.putfield 11, 3) := by decide +kernel
theorem dX2_init_12 : decode cX2_init 12 = .ok (.aload_n 0, 1) := by decide +kernel
theorem dX2_init_13 : decode cX2_init 13 = .ok (.new 15, 3) := by decide +kernel
theorem dX2_init_16 : decode cX2_init 16 = .ok (.dup, 1) := by decide +kernel
theorem dX2_init_17 : decode cX2_init 17 = .ok (.invokespecial 17, 3) := by decide +kernel
theorem dX2_init_20 : decode cX2_init 20 = .ok (.putfield 18, 3) := by decide +kernel
theorem dX2_init_23 : decode cX2_init 23 = .ok (.aload_n 0, 1) := by decide +kernel
theorem dX2_init_24 : decode cX2_init 24 = .ok (.bipush 56, 2) := by decide +kernel
theorem dX2_init_26 : decode cX2_init 26 = .ok (.newarray .int, 2) := by decide +kernel
theorem dX2_init_28 : decode cX2_init 28 = .ok (.putfield 22, 3) := by decide +kernel
theorem dX2_init_31 : decode cX2_init 31 = .ok (.aload_n 0, 1) := by decide +kernel
theorem dX2_init_32 : decode cX2_init 32 = .ok (.iconst 0, 1) := by decide +kernel
theorem dX2_init_33 : decode cX2_init 33 = .ok (.putfield 26, 3) := by decide +kernel
theorem dX2_init_36 : decode cX2_init 36 = .ok (.aload_n 0, 1) := by decide +kernel
theorem dX2_init_37 : decode cX2_init 37 = .ok (.bipush 96, 2) := by decide +kernel
theorem dX2_init_39 : decode cX2_init 39 = .ok (.putfield 30, 3) := by decide +kernel
theorem dX2_init_42 : decode cX2_init 42 = .ok (.aload_n 0, 1) := by decide +kernel
theorem dX2_init_43 : decode cX2_init 43 = .ok (.sipush 384, 3) := by decide +kernel
theorem dX2_init_46 : decode cX2_init 46 = .ok (.putfield 33, 3) := by decide +kernel
theorem dX2_init_49 : decode cX2_init 49 = .ok (.aload_n 0, 1) := by decide +kernel
theorem dX2_init_50 : decode cX2_init 50 = .ok (.iconst 0, 1) := by decide +kernel
theorem dX2_init_51 : decode cX2_init 51 = .ok (.putfield 36, 3) := by decide +kernel
theorem dX2_init_54 : decode cX2_init 54 = .ok (.aload_n 0, 1) := by decide +kernel
theorem dX2_init_55 : decode cX2_init 55 = .ok (.iconst 0, 1) := by decide +kernel
theorem dX2_init_56 : decode cX2_init 56 = .ok (.putfield 39, 3) := by decide +kernel
theorem dX2_init_59 : decode cX2_init 59 = .ok (.iconst 0, 1) := by decide +kernel
theorem dX2_init_60 : decode cX2_init 60 = .ok (.istore_n 1, 1) := by decide +kernel
theorem dX2_init_61 : decode cX2_init 61 = .ok (.iload_n 1, 1) := by decide +kernel
theorem dX2_init_62 : decode cX2_init 62 = .ok (.iconst 4, 1) := by decide +kernel
theorem dX2_init_63 : decode cX2_init 63 = .ok (.if_icmp .ge 22, 3) := by decide +kernel
theorem dX2_init_66 : decode cX2_init 66 = .ok (.aload_n 0, 1) := by decide +kernel
theorem dX2_init_67 : decode cX2_init 67 = .ok (.getfield 11, 3) := by decide +kernel
theorem dX2_init_70 : decode cX2_init 70 = .ok (.iload_n 1, 1) := by decide +kernel
theorem dX2_init_71 : decode cX2_init 71 = .ok (.new 9, 3) := by decide +kernel
theorem dX2_init_74 : decode cX2_init 74 = .ok (.dup, 1) := by decide +kernel
theorem dX2_init_75 : decode cX2_init 75 = .ok (.invokespecial 43, 3) := by decide +kernel
theorem dX2_init_78 : decode cX2_init 78 = .ok (.aastore, 1) := by decide +kernel
theorem dX2_init_79 : decode cX2_init 79 = .ok (.iinc 1 1, 3) := by decide +kernel
theorem dX2_init_82 : decode cX2_init 82 = .ok (.goto (-21), 3) := by decide +kernel
theorem dX2_init_85 : decode cX2_init 85 = .ok (.return_, 1) := by decide +kernel
theorem dX2_setBars_0 : decode cX2_setBars 0 = .ok (.iload_n 1, 1) := by decide +kernel
theorem dX2_setBars_1 : decode cX2_setBars 1 = .ok (.iconst 1, 1) := by decide +kernel
theorem dX2_setBars_2 : decode cX2_setBars 2 = .ok (.if_icmp .lt 25, 3) := by decide +kernel
theorem dX2_setBars_5 : decode cX2_setBars 5 = .ok (.iload_n 1, 1) := by decide +kernel
theorem dX2_setBars_6 : decode cX2_setBars 6 = .ok (.bipush 12, 2) := by decide +kernel
theorem dX2_setBars_8 : decode cX2_setBars 8 = .ok (.if_icmp .gt 19, 3) := by decide +kernel
theorem dX2_setBars_11 : decode cX2_setBars 11 = .ok (.iload_n 2, 1) := by decide +kernel
theorem dX2_setBars_12 : decode cX2_setBars 12 = .ok (.iconst 2, 1) := by decide +kernel
theorem dX2_setBars_13 : decode cX2_setBars 13 = .ok (.if_icmp .eq 24, 3) := by decide +kernel
theorem dX2_setBars_16 : decode cX2_setBars 16 = .ok (.iload_n 2, 1) := by decide +kernel
theorem dX2_setBars_17 : decode cX2_setBars 17 = .ok (.iconst 4, 1) := by decide +kernel
theorem dX2_setBars_18 : decode cX2_setBars 18 = .ok (.if_icmp .eq 19, 3) := by decide +kernel
theorem dX2_setBars_21 : decode cX2_setBars 21 = .ok (.iload_n 2, 1) := by decide +kernel
theorem dX2_setBars_22 : decode cX2_setBars 22 = .ok (.bipush 8, 2) := by decide +kernel
theorem dX2_setBars_24 : decode cX2_setBars 24 = .ok (.if_icmp .eq 13, 3) := by decide +kernel
theorem dX2_setBars_27 : decode cX2_setBars 27 = .ok (.new 44, 3) := by decide +kernel
theorem dX2_setBars_30 : decode cX2_setBars 30 = .ok (.dup, 1) := by decide +kernel
theorem dX2_setBars_31 : decode cX2_setBars 31 = .ok (.ldc 46, 2) := by decide +kernel
theorem dX2_setBars_33 : decode cX2_setBars 33 = .ok (.invokespecial 48, 3) := by decide +kernel
theorem dX2_setBars_36 : decode cX2_setBars 36 = .ok (.athrow, 1) := by decide +kernel
theorem dX2_setBars_37 : decode cX2_setBars 37 = .ok (.aload_n 0, 1) := by decide +kernel
theorem dX2_setBars_38 : decode cX2_setBars 38 = .ok (.invokevirtual 51, 3) := by decide +kernel
theorem dX2_setBars_41 : decode cX2_setBars 41 = .ok (.ifCond .le 13, 3) := by decide +kernel
theorem dX2_setBars_44 : decode cX2_setBars 44 = .ok (.new 55, 3) := by decide +kernel
theorem dX2_setBars_47 : decode cX2_setBars 47 = .ok (.dup, 1) := by decide +kernel
theorem dX2_setBars_48 : decode cX2_setBars 48 = .ok (.ldc 57, 2) := by decide +kernel
theorem dX2_setBars_50 : decode cX2_setBars 50 = .ok (.invokespecial 59, 3) := by decide +kernel
theorem dX2_setBars_53 : decode cX2_setBars 53 = .ok (.athrow, 1) := by decide +kernel
theorem dX2_setBars_54 : decode cX2_setBars 54 = .ok (.aload_n 0, 1) := by decide +kernel
theorem dX2_setBars_55 : decode cX2_setBars 55 = .ok (.sipush 384, 3) := by decide +kernel
theorem dX2_setBars_58 : decode cX2_setBars 58 = .ok (.iload_n 2, 1) := by decide +kernel
theorem dX2_setBars_59 : decode cX2_setBars 59 = .ok (.idiv, 1) := by decide +kernel
theorem dX2_setBars_60 : decode cX2_setBars 60 = .ok (.putfield 30, 3) := by decide +kernel
theorem dX2_setBars_63 : decode cX2_setBars 63 = .ok (.aload_n 0, 1) := by decide +kernel
theorem dX2_setBars_64 : decode cX2_setBars 64 = .ok (.iload_n 1, 1) := by decide +kernel
theorem dX2_setBars_65 : decode cX2_setBars 65 = .ok (.aload_n 0, 1) := by decide +kernel
theorem dX2_setBars_66 : decode cX2_setBars 66 = .ok (.getfield 30, 3) := by decide +kernel
theorem dX2_setBars_69 : decode cX2_setBars 69 = .ok (.imul, 1) := by decide +kernel
theorem dX2_setBars_70 : decode cX2_setBars 70 = .ok (.putfield 33, 3) := by decide +kernel
theorem dX2_setBars_73 : decode cX2_setBars 73 = .ok (.aload_n 0, 1) := by decide +kernel
theorem dX2_setBars_74 : decode cX2_setBars 74 = .ok (.getfield 33, 3) := by decide +kernel
theorem dX2_setBars_77 : decode cX2_setBars 77 = .ok (.ireturn, 1) := by decide +kernel
theorem dX2_setKey_0 : decode cX2_setKey 0 = .ok (.iload_n 1, 1) := by decide +kernel
theorem dX2_setKey_1 : decode cX2_setKey 1 = .ok (.invokestatic 60, 3) := by decide +kernel
theorem dX2_setKey_4 : decode cX2_setKey 4 = .ok (.ifCond .ne 13, 3) := by decide +kernel
theorem dX2_setKey_7 : decode cX2_setKey 7 = .ok (.new 44, 3) := by decide +kernel
theorem dX2_setKey_10 : decode cX2_setKey 10 = .ok (.dup, 1) := by decide +kernel
theorem dX2_setKey_11 : decode cX2_setKey 11 = .ok (.ldc 64, 2) := by decide +kernel
theorem dX2_setKey_13 : decode cX2_setKey 13 = .ok (.invokespecial 48, 3) := by decide +kernel
theorem dX2_setKey_16 : decode cX2_setKey 16 = .ok (.athrow, 1) := by decide +kernel
theorem dX2_setKey_17 : decode cX2_setKey 17 = .ok (.aload_n 0, 1) := by decide +kernel
theorem dX2_setKey_18 : decode cX2_setKey 18 = .ok (.getfield 36, 3) := by decide +kernel
theorem dX2_setKey_21 : decode cX2_setKey 21 = .ok (.istore_n 2, 1) := by decide +kernel
theorem dX2_setKey_22 : decode cX2_setKey 22 = .ok (.aload_n 0, 1) := by decide +kernel
theorem dX2_setKey_23 : decode cX2_setKey 23 = .ok (.iload_n 1, 1) := by decide +kernel
theorem dX2_setKey_24 : decode cX2_setKey 24 = .ok (.putfield 36, 3) := by decide +kernel
theorem dX2_setKey_27 : decode cX2_setKey 27 = .ok (.aload_n 0, 1) := by decide +kernel
theorem dX2_setKey_28 : decode cX2_setKey 28 = .ok (.invokevirtual 66, 3) := by decide +kernel
theorem dX2_setKey_31 : decode cX2_setKey 31 = .ok (.iload_n 2, 1) := by decide +kernel
theorem dX2_setKey_32 : decode cX2_setKey 32 = .ok (.ireturn, 1) := by decide +kernel
theorem dX2_addVoice_0 : decode cX2_addVoice 0 = .ok (.aload_n 0, 1) := by decide +kernel
theorem dX2_addVoice_1 : decode cX2_addVoice 1 = .ok (.getfield 26, 3) := by decide +kernel
theorem dX2_addVoice_4 : decode cX2_addVoice 4 = .ok (.iconst 4, 1) := by decide +kernel
theorem dX2_addVoice_5 : decode cX2_addVoice 5 = .ok (.if_icmp .lt 13, 3) := by decide +kernel
theorem dX2_addVoice_8 : decode cX2_addVoice 8 = .ok (.new 55, 3) := by decide +kernel
theorem dX2_addVoice_11 : decode cX2_addVoice 11 = .ok (.dup, 1) := by decide +kernel
theorem dX2_addVoice_12 : decode cX2_addVoice 12 = .ok (.ldc 69, 2) := by decide +kernel
theorem dX2_addVoice_14 : decode cX2_addVoice 14 = .ok (.invokespecial 59, 3) := by decide +kernel
theorem dX2_addVoice_17 : decode cX2_addVoice 17 = .ok (.athrow, 1) := by decide +kernel
theorem dX2_addVoice_18 : decode cX2_addVoice 18 = .ok (.aload_n 0, 1) := by decide +kernel
theorem dX2_addVoice_19 : decode cX2_addVoice 19 = .ok (.dup, 1) := by decide +kernel
theorem dX2_addVoice_20 : decode cX2_addVoice 20 = .ok (.getfield 26, 3) := by decide +kernel
theorem dX2_addVoice_23 : decode cX2_addVoice 23 = .ok (.iconst 1, 1) := by decide +kernel
theorem dX2_addVoice_24 : decode cX2_addVoice 24 = .ok (.iadd, 1) := by decide +kernel
theorem dX2_addVoice_25 : decode cX2_addVoice 25 = .ok (.putfield 26, 3) := by decide +kernel
theorem dX2_addVoice_28 : decode cX2_addVoice 28 = .ok (.aload_n 0, 1) := by decide +kernel
theorem dX2_addVoice_29 : decode cX2_addVoice 29 = .ok (.getfield 26, 3) := by decide +kernel
theorem dX2_addVoice_32 : decode cX2_addVoice 32 = .ok (.iconst 1, 1) := by decide +kernel
theorem dX2_addVoice_33 : decode cX2_addVoice 33 = .ok (.isub, 1) := by decide +kernel
theorem dX2_addVoice_34 : decode cX2_addVoice 34 = .ok (.ireturn, 1) := by decide +kernel
theorem dX2_score_0 : decode cX2_score 0 = .ok (.iload_n 1, 1) := by decide +kernel
theorem dX2_score_1 : decode cX2_score 1 = .ok (.ifCond .lt 8, 3) := by decide +kernel
theorem dX2_score_4 : decode cX2_score 4 = .ok (.iload_n 1, 1) := by decide +kernel
theorem dX2_score_5 : decode cX2_score 5 = .ok (.iconst 5, 1) := by decide +kernel
theorem dX2_score_6 : decode cX2_score 6 = .ok (.if_icmp .lt 13, 3) := by decide +kernel
theorem dX2_score_9 : decode cX2_score 9 = .ok (.new 71, 3) := by decide +kernel
theorem dX2_score_12 : decode cX2_score 12 = .ok (.dup, 1) := by decide +kernel
theorem dX2_score_13 : decode cX2_score 13 = .ok (.ldc 73, 2) := by decide +kernel
theorem dX2_score_15 : decode cX2_score 15 = .ok (.invokespecial 75, 3) := by decide +kernel
theorem dX2_score_18 : decode cX2_score 18 = .ok (.athrow, 1) := by decide +kernel
theorem dX2_score_19 : decode cX2_score 19 = .ok (.iload_n 1, 1) := by decide +kernel
theorem dX2_score_20 : decode cX2_score 20 = .ok (.tableswitch 52 0 3 #[32, 37, 42, 47], 32) := by decide +kernel
theorem dX2_score_52 : decode cX2_score 52 = .ok (.aload_n 0, 1) := by decide +kernel
theorem dX2_score_53 : decode cX2_score 53 = .ok (.getfield 26, 3) := by decide +kernel
theorem dX2_score_56 : decode cX2_score 56 = .ok (.ireturn, 1) := by decide +kernel
theorem dX2_score_57 : decode cX2_score 57 = .ok (.aload_n 0, 1) := by decide +kernel
theorem dX2_score_58 : decode cX2_score 58 = .ok (.getfield 33, 3) := by decide +kernel
theorem dX2_score_61 : decode cX2_score 61 = .ok (.ireturn, 1) := by decide +kernel
theorem dX2_score_62 : decode cX2_score 62 = .ok (.aload_n 0, 1) := by decide +kernel
theorem dX2_score_63 : decode cX2_score 63 = .ok (.getfield 36, 3) := by decide +kernel
theorem dX2_score_66 : decode cX2_score 66 = .ok (.ireturn, 1) := by decide +kernel
theorem dX2_score_67 : decode cX2_score 67 = .ok (.aload_n 0, 1) := by decide +kernel
theorem dX2_score_68 : decode cX2_score 68 = .ok (.invokevirtual 76, 3) := by decide +kernel
theorem dX2_score_71 : decode cX2_score 71 = .ok (.ireturn, 1) := by decide +kernel
theorem dX2_score_72 : decode cX2_score 72 = .ok (.aload_n 0, 1) := by decide +kernel
theorem dX2_score_73 : decode cX2_score 73 = .ok (.invokevirtual 51, 3) := by decide +kernel
theorem dX2_score_76 : decode cX2_score 76 = .ok (.ireturn, 1) := by decide +kernel
theorem dX2_sign_0 : decode cX2_sign 0 = .ok (.iload_n 1, 1) := by decide +kernel
theorem dX2_sign_1 : decode cX2_sign 1 = .ok (.ifCond .lt 9, 3) := by decide +kernel
theorem dX2_sign_4 : decode cX2_sign 4 = .ok (.iload_n 1, 1) := by decide +kernel
theorem dX2_sign_5 : decode cX2_sign 5 = .ok (.bipush 7, 2) := by decide +kernel
theorem dX2_sign_7 : decode cX2_sign 7 = .ok (.if_icmp .lt 13, 3) := by decide +kernel
theorem dX2_sign_10 : decode cX2_sign 10 = .ok (.new 44, 3) := by decide +kernel
theorem dX2_sign_13 : decode cX2_sign 13 = .ok (.dup, 1) := by decide +kernel
theorem dX2_sign_14 : decode cX2_sign 14 = .ok (.ldc 79, 2) := by decide +kernel
theorem dX2_sign_16 : decode cX2_sign 16 = .ok (.invokespecial 48, 3) := by decide +kernel
theorem dX2_sign_19 : decode cX2_sign 19 = .ok (.athrow, 1) := by decide +kernel
theorem dX2_sign_20 : decode cX2_sign 20 = .ok (.aload_n 0, 1) := by decide +kernel
theorem dX2_sign_21 : decode cX2_sign 21 = .ok (.getfield 36, 3) := by decide +kernel
theorem dX2_sign_24 : decode cX2_sign 24 = .ok (.iload_n 1, 1) := by decide +kernel
theorem dX2_sign_25 : decode cX2_sign 25 = .ok (.invokestatic 81, 3) := by decide +kernel
theorem dX2_sign_28 : decode cX2_sign 28 = .ok (.ireturn, 1) := by decide +kernel
theorem dX2_ticks_0 : decode cX2_ticks 0 = .ok (.iload_n 1, 1) := by decide +kernel
theorem dX2_ticks_1 : decode cX2_ticks 1 = .ok (.iload_n 2, 1) := by decide +kernel
theorem dX2_ticks_2 : decode cX2_ticks 2 = .ok (.invokestatic 85, 3) := by decide +kernel
theorem dX2_ticks_5 : decode cX2_ticks 5 = .ok (.istore_n 3, 1) := by decide +kernel
theorem dX2_ticks_6 : decode cX2_ticks 6 = .ok (.iload_n 3, 1) := by decide +kernel
theorem dX2_ticks_7 : decode cX2_ticks 7 = .ok (.ifCond .ge 13, 3) := by decide +kernel
theorem dX2_ticks_10 : decode cX2_ticks 10 = .ok (.new 44, 3) := by decide +kernel
theorem dX2_ticks_13 : decode cX2_ticks 13 = .ok (.dup, 1) := by decide +kernel
theorem dX2_ticks_14 : decode cX2_ticks 14 = .ok (.ldc 88, 2) := by decide +kernel
theorem dX2_ticks_16 : decode cX2_ticks 16 = .ok (.invokespecial 48, 3) := by decide +kernel
theorem dX2_ticks_19 : decode cX2_ticks 19 = .ok (.athrow, 1) := by decide +kernel
theorem dX2_ticks_20 : decode cX2_ticks 20 = .ok (.getstatic 90, 3) := by decide +kernel
theorem dX2_ticks_23 : decode cX2_ticks 23 = .ok (.iload_n 3, 1) := by decide +kernel
theorem dX2_ticks_24 : decode cX2_ticks 24 = .ok (.iaload, 1) := by decide +kernel
theorem dX2_ticks_25 : decode cX2_ticks 25 = .ok (.ireturn, 1) := by decide +kernel
theorem dX2_addNote_0 : decode cX2_addNote 0 = .ok (.aload_n 0, 1) := by decide +kernel
theorem dX2_addNote_1 : decode cX2_addNote 1 = .ok (.iload_n 1, 1) := by decide +kernel
theorem dX2_addNote_2 : decode cX2_addNote 2 = .ok (.invokevirtual 93, 3) := by decide +kernel
theorem dX2_addNote_5 : decode cX2_addNote 5 = .ok (.iload_n 2, 1) := by decide +kernel
theorem dX2_addNote_6 : decode cX2_addNote 6 = .ok (.iload_n 3, 1) := by decide +kernel
theorem dX2_addNote_7 : decode cX2_addNote 7 = .ok (.invokestatic 85, 3) := by decide +kernel
theorem dX2_addNote_10 : decode cX2_addNote 10 = .ok (.istore 8, 2) := by decide +kernel
theorem dX2_addNote_12 : decode cX2_addNote 12 = .ok (.iload 8, 2) := by decide +kernel
theorem dX2_addNote_14 : decode cX2_addNote 14 = .ok (.ifCond .lt 15, 3) := by decide +kernel
theorem dX2_addNote_17 : decode cX2_addNote 17 = .ok (.iload 4, 2) := by decide +kernel
theorem dX2_addNote_19 : decode cX2_addNote 19 = .ok (.iload 5, 2) := by decide +kernel
theorem dX2_addNote_21 : decode cX2_addNote 21 = .ok (.iload 6, 2) := by decide +kernel
theorem dX2_addNote_23 : decode cX2_addNote 23 = .ok (.invokestatic 97, 3) := by decide +kernel
theorem dX2_addNote_26 : decode cX2_addNote 26 = .ok (.ifCond .ne 13, 3) := by decide +kernel
theorem dX2_addNote_29 : decode cX2_addNote 29 = .ok (.new 44, 3) := by decide +kernel
theorem dX2_addNote_32 : decode cX2_addNote 32 = .ok (.dup, 1) := by decide +kernel
theorem dX2_addNote_33 : decode cX2_addNote 33 = .ok (.ldc 101, 2) := by decide +kernel
theorem dX2_addNote_35 : decode cX2_addNote 35 = .ok (.invokespecial 48, 3) := by decide +kernel
theorem dX2_addNote_38 : decode cX2_addNote 38 = .ok (.athrow, 1) := by decide +kernel
theorem dX2_addNote_39 : decode cX2_addNote 39 = .ok (.aload_n 0, 1) := by decide +kernel
theorem dX2_addNote_40 : decode cX2_addNote 40 = .ok (.getfield 11, 3) := by decide +kernel
theorem dX2_addNote_43 : decode cX2_addNote 43 = .ok (.iload_n 1, 1) := by decide +kernel
theorem dX2_addNote_44 : decode cX2_addNote 44 = .ok (.aaload, 1) := by decide +kernel
theorem dX2_addNote_45 : decode cX2_addNote 45 = .ok (.astore 9, 2) := by decide +kernel
theorem dX2_addNote_47 : decode cX2_addNote 47 = .ok (.aload 9, 2) := by decide +kernel
theorem dX2_addNote_49 : decode cX2_addNote 49 = .ok (.getfield 103, 3) := by decide +kernel
theorem dX2_addNote_52 : decode cX2_addNote 52 = .ok (.istore 10, 2) := by decide +kernel
theorem dX2_addNote_54 : decode cX2_addNote 54 = .ok (.aload_n 0, 1) := by decide +kernel
theorem dX2_addNote_55 : decode cX2_addNote 55 = .ok (.aload 9, 2) := by decide +kernel
theorem dX2_addNote_57 : decode cX2_addNote 57 = .ok (.iload 8, 2) := by decide +kernel
theorem dX2_addNote_59 : decode cX2_addNote 59 = .ok (.invokevirtual 106, 3) := by decide +kernel
theorem dX2_addNote_62 : decode cX2_addNote 62 = .ok (.istore 11, 2) := by decide +kernel
theorem dX2_addNote_64 : decode cX2_addNote 64 = .ok (.iload 10, 2) := by decide +kernel
theorem dX2_addNote_66 : decode cX2_addNote 66 = .ok (.istore 12, 2) := by decide +kernel
theorem dX2_addNote_68 : decode cX2_addNote 68 = .ok (.iload 12, 2) := by decide +kernel
theorem dX2_addNote_70 : decode cX2_addNote 70 = .ok (.aload 9, 2) := by decide +kernel
theorem dX2_addNote_72 : decode cX2_addNote 72 = .ok (.getfield 103, 3) := by decide +kernel
theorem dX2_addNote_75 : decode cX2_addNote 75 = .ok (.if_icmp .ge 66, 3) := by decide +kernel
theorem dX2_addNote_78 : decode cX2_addNote 78 = .ok (.aload 9, 2) := by decide +kernel
theorem dX2_addNote_80 : decode cX2_addNote 80 = .ok (.iload 12, 2) := by decide +kernel
theorem dX2_addNote_82 : decode cX2_addNote 82 = .ok (.iload 4, 2) := by decide +kernel
theorem dX2_addNote_84 : decode cX2_addNote 84 = .ok (.iload 5, 2) := by decide +kernel
theorem dX2_addNote_86 : decode cX2_addNote 86 = .ok (.iload 6, 2) := by decide +kernel
theorem dX2_addNote_88 : decode cX2_addNote 88 = .ok (.invokevirtual 110, 3) := by decide +kernel
theorem dX2_addNote_91 : decode cX2_addNote 91 = .ok (.iload 12, 2) := by decide +kernel
theorem dX2_addNote_93 : decode cX2_addNote 93 = .ok (.aload 9, 2) := by decide +kernel
theorem dX2_addNote_95 : decode cX2_addNote 95 = .ok (.getfield 103, 3) := by decide +kernel
theorem dX2_addNote_98 : decode cX2_addNote 98 = .ok (.iconst 1, 1) := by decide +kernel
theorem dX2_addNote_99 : decode cX2_addNote 99 = .ok (.isub, 1) := by decide +kernel
theorem dX2_addNote_100 : decode cX2_addNote 100 = .ok (.if_icmp .ne 7, 3) := by decide +kernel
theorem dX2_addNote_103 : decode cX2_addNote 103 = .ok (.iconst 1, 1) := by decide +kernel
theorem dX2_addNote_104 : decode cX2_addNote 104 = .ok (.goto 4, 3) := by decide +kernel
theorem dX2_addNote_107 : decode cX2_addNote 107 = .ok (.iconst 0, 1) := by decide +kernel
theorem dX2_addNote_108 : decode cX2_addNote 108 = .ok (.istore 13, 2) := by decide +kernel
theorem dX2_addNote_110 : decode cX2_addNote 110 = .ok (.aload 9, 2) := by decide +kernel
theorem dX2_addNote_112 : decode cX2_addNote 112 = .ok (.getfield 114, 3) := by decide +kernel
theorem dX2_addNote_115 : decode cX2_addNote 115 = .ok (.iconst 5, 1) := by decide +kernel
theorem dX2_addNote_116 : decode cX2_addNote 116 = .ok (.aaload, 1) := by decide +kernel
theorem dX2_addNote_117 : decode cX2_addNote 117 = .ok (.iload 12, 2) := by decide +kernel
theorem dX2_addNote_119 : decode cX2_addNote 119 = .ok (.iload 7, 2) := by decide +kernel
theorem dX2_addNote_121 : decode cX2_addNote 121 = .ok (.ifCond .ne 8, 3) := by decide +kernel
theorem dX2_addNote_124 : decode cX2_addNote 124 = .ok (.iload 13, 2) := by decide +kernel
theorem dX2_addNote_126 : decode cX2_addNote 126 = .ok (.ifCond .ne 7, 3) := by decide +kernel
theorem dX2_addNote_129 : decode cX2_addNote 129 = .ok (.iconst 1, 1) := by decide +kernel
theorem dX2_addNote_130 : decode cX2_addNote 130 = .ok (.goto 4, 3) := by decide +kernel
theorem dX2_addNote_133 : decode cX2_addNote 133 = .ok (.iconst 0, 1) := by decide +kernel
theorem dX2_addNote_134 : decode cX2_addNote 134 = .ok (.iastore, 1) := by decide +kernel
theorem dX2_addNote_135 : decode cX2_addNote 135 = .ok (.iinc 12 1, 3) := by decide +kernel
theorem dX2_addNote_138 : decode cX2_addNote 138 = .ok (.goto (-70), 3) := by decide +kernel
theorem dX2_addNote_141 : decode cX2_addNote 141 = .ok (.aload_n 0, 1) := by decide +kernel
theorem dX2_addNote_142 : decode cX2_addNote 142 = .ok (.aload 9, 2) := by decide +kernel
theorem dX2_addNote_144 : decode cX2_addNote 144 = .ok (.invokevirtual 118, 3) := by decide +kernel
theorem dX2_addNote_147 : decode cX2_addNote 147 = .ok (.iload 11, 2) := by decide +kernel
theorem dX2_addNote_149 : decode cX2_addNote 149 = .ok (.ireturn, 1) := by decide +kernel
theorem dX2_addRest_0 : decode cX2_addRest 0 = .ok (.aload_n 0, 1) := by decide +kernel
theorem dX2_addRest_1 : decode cX2_addRest 1 = .ok (.iload_n 1, 1) := by decide +kernel
theorem dX2_addRest_2 : decode cX2_addRest 2 = .ok (.invokevirtual 93, 3) := by decide +kernel
theorem dX2_addRest_5 : decode cX2_addRest 5 = .ok (.iload_n 2, 1) := by decide +kernel
theorem dX2_addRest_6 : decode cX2_addRest 6 = .ok (.iload_n 3, 1) := by decide +kernel
theorem dX2_addRest_7 : decode cX2_addRest 7 = .ok (.invokestatic 85, 3) := by decide +kernel
theorem dX2_addRest_10 : decode cX2_addRest 10 = .ok (.istore 4, 2) := by decide +kernel
theorem dX2_addRest_12 : decode cX2_addRest 12 = .ok (.iload 4, 2) := by decide +kernel
theorem dX2_addRest_14 : decode cX2_addRest 14 = .ok (.ifCond .ge 13, 3) := by decide +kernel
theorem dX2_addRest_17 : decode cX2_addRest 17 = .ok (.new 44, 3) := by decide +kernel
theorem dX2_addRest_20 : decode cX2_addRest 20 = .ok (.dup, 1) := by decide +kernel
theorem dX2_addRest_21 : decode cX2_addRest 21 = .ok (.ldc 88, 2) := by decide +kernel
theorem dX2_addRest_23 : decode cX2_addRest 23 = .ok (.invokespecial 48, 3) := by decide +kernel
theorem dX2_addRest_26 : decode cX2_addRest 26 = .ok (.athrow, 1) := by decide +kernel
theorem dX2_addRest_27 : decode cX2_addRest 27 = .ok (.aload_n 0, 1) := by decide +kernel
theorem dX2_addRest_28 : decode cX2_addRest 28 = .ok (.aload_n 0, 1) := by decide +kernel
theorem dX2_addRest_29 : decode cX2_addRest 29 = .ok (.getfield 11, 3) := by decide +kernel
theorem dX2_addRest_32 : decode cX2_addRest 32 = .ok (.iload_n 1, 1) := by decide +kernel
theorem dX2_addRest_33 : decode cX2_addRest 33 = .ok (.aaload, 1) := by decide +kernel
theorem dX2_addRest_34 : decode cX2_addRest 34 = .ok (.iload 4, 2) := by decide +kernel
theorem dX2_addRest_36 : decode cX2_addRest 36 = .ok (.invokevirtual 106, 3) := by decide +kernel
theorem dX2_addRest_39 : decode cX2_addRest 39 = .ok (.istore 5, 2) := by decide +kernel
theorem dX2_addRest_41 : decode cX2_addRest 41 = .ok (.aload_n 0, 1) := by decide +kernel
theorem dX2_addRest_42 : decode cX2_addRest 42 = .ok (.aload_n 0, 1) := by decide +kernel
theorem dX2_addRest_43 : decode cX2_addRest 43 = .ok (.getfield 11, 3) := by decide +kernel
theorem dX2_addRest_46 : decode cX2_addRest 46 = .ok (.iload_n 1, 1) := by decide +kernel
theorem dX2_addRest_47 : decode cX2_addRest 47 = .ok (.aaload, 1) := by decide +kernel
theorem dX2_addRest_48 : decode cX2_addRest 48 = .ok (.invokevirtual 118, 3) := by decide +kernel
theorem dX2_addRest_51 : decode cX2_addRest 51 = .ok (.iload 5, 2) := by decide +kernel
theorem dX2_addRest_53 : decode cX2_addRest 53 = .ok (.ireturn, 1) := by decide +kernel
theorem dX2_removeLast_0 : decode cX2_removeLast 0 = .ok (.aload_n 0, 1) := by decide +kernel
theorem dX2_removeLast_1 : decode cX2_removeLast 1 = .ok (.iload_n 1, 1) := by decide +kernel
theorem dX2_removeLast_2 : decode cX2_removeLast 2 = .ok (.invokevirtual 93, 3) := by decide +kernel
theorem dX2_removeLast_5 : decode cX2_removeLast 5 = .ok (.aload_n 0, 1) := by decide +kernel
theorem dX2_removeLast_6 : decode cX2_removeLast 6 = .ok (.getfield 11, 3) := by decide +kernel
theorem dX2_removeLast_9 : decode cX2_removeLast 9 = .ok (.iload_n 1, 1) := by decide +kernel
theorem dX2_removeLast_10 : decode cX2_removeLast 10 = .ok (.aaload, 1) := by decide +kernel
theorem dX2_removeLast_11 : decode cX2_removeLast 11 = .ok (.astore_n 2, 1) := by decide +kernel
theorem dX2_removeLast_12 : decode cX2_removeLast 12 = .ok (.aload_n 2, 1) := by decide +kernel
theorem dX2_removeLast_13 : decode cX2_removeLast 13 = .ok (.getfield 103, 3) := by decide +kernel
theorem dX2_removeLast_16 : decode cX2_removeLast 16 = .ok (.ifCond .ne 13, 3) := by decide +kernel
theorem dX2_removeLast_19 : decode cX2_removeLast 19 = .ok (.new 55, 3) := by decide +kernel
theorem dX2_removeLast_22 : decode cX2_removeLast 22 = .ok (.dup, 1) := by decide +kernel
theorem dX2_removeLast_23 : decode cX2_removeLast 23 = .ok (.ldc 122, 2) := by decide +kernel
theorem dX2_removeLast_25 : decode cX2_removeLast 25 = .ok (.invokespecial 59, 3) := by decide +kernel
theorem dX2_removeLast_28 : decode cX2_removeLast 28 = .ok (.athrow, 1) := by decide +kernel
theorem dX2_removeLast_29 : decode cX2_removeLast 29 = .ok (.aload_n 2, 1) := by decide +kernel
theorem dX2_removeLast_30 : decode cX2_removeLast 30 = .ok (.invokevirtual 124, 3) := by decide +kernel
theorem dX2_removeLast_33 : decode cX2_removeLast 33 = .ok (.aload_n 0, 1) := by decide +kernel
theorem dX2_removeLast_34 : decode cX2_removeLast 34 = .ok (.aload_n 2, 1) := by decide +kernel
theorem dX2_removeLast_35 : decode cX2_removeLast 35 = .ok (.invokevirtual 118, 3) := by decide +kernel
theorem dX2_removeLast_38 : decode cX2_removeLast 38 = .ok (.aload_n 2, 1) := by decide +kernel
theorem dX2_removeLast_39 : decode cX2_removeLast 39 = .ok (.getfield 103, 3) := by decide +kernel
theorem dX2_removeLast_42 : decode cX2_removeLast 42 = .ok (.ireturn, 1) := by decide +kernel
theorem dX2_tie_0 : decode cX2_tie 0 = .ok (.aload_n 0, 1) := by decide +kernel
theorem dX2_tie_1 : decode cX2_tie 1 = .ok (.iload_n 1, 1) := by decide +kernel
theorem dX2_tie_2 : decode cX2_tie 2 = .ok (.iload_n 2, 1) := by decide +kernel
theorem dX2_tie_3 : decode cX2_tie 3 = .ok (.invokevirtual 127, 3) := by decide +kernel
theorem dX2_tie_6 : decode cX2_tie 6 = .ok (.aload_n 0, 1) := by decide +kernel
theorem dX2_tie_7 : decode cX2_tie 7 = .ok (.getfield 11, 3) := by decide +kernel
theorem dX2_tie_10 : decode cX2_tie 10 = .ok (.iload_n 1, 1) := by decide +kernel
theorem dX2_tie_11 : decode cX2_tie 11 = .ok (.aaload, 1) := by decide +kernel
theorem dX2_tie_12 : decode cX2_tie 12 = .ok (.astore 4, 2) := by decide +kernel
theorem dX2_tie_14 : decode cX2_tie 14 = .ok (.aload 4, 2) := by decide +kernel
theorem dX2_tie_16 : decode cX2_tie 16 = .ok (.iload_n 2, 1) := by decide +kernel
theorem dX2_tie_17 : decode cX2_tie 17 = .ok (.invokevirtual 131, 3) := by decide +kernel
theorem dX2_tie_20 : decode cX2_tie 20 = .ok (.ifCond .ne 13, 3) := by decide +kernel
theorem dX2_tie_23 : decode cX2_tie 23 = .ok (.new 55, 3) := by decide +kernel
theorem dX2_tie_26 : decode cX2_tie 26 = .ok (.dup, 1) := by decide +kernel
theorem dX2_tie_27 : decode cX2_tie 27 = .ok (.ldc 134, 2) := by decide +kernel
theorem dX2_tie_29 : decode cX2_tie 29 = .ok (.invokespecial 59, 3) := by decide +kernel
theorem dX2_tie_32 : decode cX2_tie 32 = .ok (.athrow, 1) := by decide +kernel
theorem dX2_tie_33 : decode cX2_tie 33 = .ok (.aload 4, 2) := by decide +kernel
theorem dX2_tie_35 : decode cX2_tie 35 = .ok (.iload_n 2, 1) := by decide +kernel
theorem dX2_tie_36 : decode cX2_tie 36 = .ok (.invokevirtual 136, 3) := by decide +kernel
theorem dX2_tie_39 : decode cX2_tie 39 = .ok (.istore 5, 2) := by decide +kernel
theorem dX2_tie_41 : decode cX2_tie 41 = .ok (.aload 4, 2) := by decide +kernel
theorem dX2_tie_43 : decode cX2_tie 43 = .ok (.getfield 114, 3) := by decide +kernel
theorem dX2_tie_46 : decode cX2_tie 46 = .ok (.iconst 5, 1) := by decide +kernel
theorem dX2_tie_47 : decode cX2_tie 47 = .ok (.aaload, 1) := by decide +kernel
theorem dX2_tie_48 : decode cX2_tie 48 = .ok (.iload_n 2, 1) := by decide +kernel
theorem dX2_tie_49 : decode cX2_tie 49 = .ok (.iload_n 3, 1) := by decide +kernel
theorem dX2_tie_50 : decode cX2_tie 50 = .ok (.ifCond .eq 7, 3) := by decide +kernel
theorem dX2_tie_53 : decode cX2_tie 53 = .ok (.iconst 1, 1) := by decide +kernel
theorem dX2_tie_54 : decode cX2_tie 54 = .ok (.goto 4, 3) := by decide +kernel
theorem dX2_tie_57 : decode cX2_tie 57 = .ok (.iconst 0, 1) := by decide +kernel
theorem dX2_tie_58 : decode cX2_tie 58 = .ok (.iastore, 1) := by decide +kernel
theorem dX2_tie_59 : decode cX2_tie 59 = .ok (.aload_n 0, 1) := by decide +kernel
theorem dX2_tie_60 : decode cX2_tie 60 = .ok (.aload 4, 2) := by decide +kernel
theorem dX2_tie_62 : decode cX2_tie 62 = .ok (.invokevirtual 118, 3) := by decide +kernel
theorem dX2_tie_65 : decode cX2_tie 65 = .ok (.iload 5, 2) := by decide +kernel
theorem dX2_tie_67 : decode cX2_tie 67 = .ok (.ireturn, 1) := by decide +kernel
theorem dX2_element_0 : decode cX2_element 0 = .ok (.aload_n 0, 1) := by decide +kernel
theorem dX2_element_1 : decode cX2_element 1 = .ok (.iload_n 1, 1) := by decide +kernel
theorem dX2_element_2 : decode cX2_element 2 = .ok (.iload_n 2, 1) := by decide +kernel
theorem dX2_element_3 : decode cX2_element 3 = .ok (.invokevirtual 127, 3) := by decide +kernel
theorem dX2_element_6 : decode cX2_element 6 = .ok (.iload_n 3, 1) := by decide +kernel
theorem dX2_element_7 : decode cX2_element 7 = .ok (.ifCond .lt 9, 3) := by decide +kernel
theorem dX2_element_10 : decode cX2_element 10 = .ok (.iload_n 3, 1) := by decide +kernel
theorem dX2_element_11 : decode cX2_element 11 = .ok (.bipush 9, 2) := by decide +kernel
theorem dX2_element_13 : decode cX2_element 13 = .ok (.if_icmp .lt 13, 3) := by decide +kernel
theorem dX2_element_16 : decode cX2_element 16 = .ok (.new 71, 3) := by decide +kernel
theorem dX2_element_19 : decode cX2_element 19 = .ok (.dup, 1) := by decide +kernel
theorem dX2_element_20 : decode cX2_element 20 = .ok (.ldc 139, 2) := by decide +kernel
theorem dX2_element_22 : decode cX2_element 22 = .ok (.invokespecial 75, 3) := by decide +kernel
theorem dX2_element_25 : decode cX2_element 25 = .ok (.athrow, 1) := by decide +kernel
theorem dX2_element_26 : decode cX2_element 26 = .ok (.aload_n 0, 1) := by decide +kernel
theorem dX2_element_27 : decode cX2_element 27 = .ok (.getfield 11, 3) := by decide +kernel
theorem dX2_element_30 : decode cX2_element 30 = .ok (.iload_n 1, 1) := by decide +kernel
theorem dX2_element_31 : decode cX2_element 31 = .ok (.aaload, 1) := by decide +kernel
theorem dX2_element_32 : decode cX2_element 32 = .ok (.getfield 114, 3) := by decide +kernel
theorem dX2_element_35 : decode cX2_element 35 = .ok (.iload_n 3, 1) := by decide +kernel
theorem dX2_element_36 : decode cX2_element 36 = .ok (.aaload, 1) := by decide +kernel
theorem dX2_element_37 : decode cX2_element 37 = .ok (.iload_n 2, 1) := by decide +kernel
theorem dX2_element_38 : decode cX2_element 38 = .ok (.iaload, 1) := by decide +kernel
theorem dX2_element_39 : decode cX2_element 39 = .ok (.ireturn, 1) := by decide +kernel
theorem dX2_pitch_0 : decode cX2_pitch 0 = .ok (.aload_n 0, 1) := by decide +kernel
theorem dX2_pitch_1 : decode cX2_pitch 1 = .ok (.iload_n 1, 1) := by decide +kernel
theorem dX2_pitch_2 : decode cX2_pitch 2 = .ok (.iload_n 2, 1) := by decide +kernel
theorem dX2_pitch_3 : decode cX2_pitch 3 = .ok (.invokevirtual 127, 3) := by decide +kernel
theorem dX2_pitch_6 : decode cX2_pitch 6 = .ok (.iload_n 3, 1) := by decide +kernel
theorem dX2_pitch_7 : decode cX2_pitch 7 = .ok (.ifCond .lt 8, 3) := by decide +kernel
theorem dX2_pitch_10 : decode cX2_pitch 10 = .ok (.iload_n 3, 1) := by decide +kernel
theorem dX2_pitch_11 : decode cX2_pitch 11 = .ok (.iconst 3, 1) := by decide +kernel
theorem dX2_pitch_12 : decode cX2_pitch 12 = .ok (.if_icmp .lt 13, 3) := by decide +kernel
theorem dX2_pitch_15 : decode cX2_pitch 15 = .ok (.new 71, 3) := by decide +kernel
theorem dX2_pitch_18 : decode cX2_pitch 18 = .ok (.dup, 1) := by decide +kernel
theorem dX2_pitch_19 : decode cX2_pitch 19 = .ok (.ldc 141, 2) := by decide +kernel
theorem dX2_pitch_21 : decode cX2_pitch 21 = .ok (.invokespecial 75, 3) := by decide +kernel
theorem dX2_pitch_24 : decode cX2_pitch 24 = .ok (.athrow, 1) := by decide +kernel
theorem dX2_pitch_25 : decode cX2_pitch 25 = .ok (.aload_n 0, 1) := by decide +kernel
theorem dX2_pitch_26 : decode cX2_pitch 26 = .ok (.getfield 11, 3) := by decide +kernel
theorem dX2_pitch_29 : decode cX2_pitch 29 = .ok (.iload_n 1, 1) := by decide +kernel
theorem dX2_pitch_30 : decode cX2_pitch 30 = .ok (.aaload, 1) := by decide +kernel
theorem dX2_pitch_31 : decode cX2_pitch 31 = .ok (.iload_n 2, 1) := by decide +kernel
theorem dX2_pitch_32 : decode cX2_pitch 32 = .ok (.invokevirtual 131, 3) := by decide +kernel
theorem dX2_pitch_35 : decode cX2_pitch 35 = .ok (.ifCond .ne 13, 3) := by decide +kernel
theorem dX2_pitch_38 : decode cX2_pitch 38 = .ok (.new 55, 3) := by decide +kernel
theorem dX2_pitch_41 : decode cX2_pitch 41 = .ok (.dup, 1) := by decide +kernel
theorem dX2_pitch_42 : decode cX2_pitch 42 = .ok (.ldc 134, 2) := by decide +kernel
theorem dX2_pitch_44 : decode cX2_pitch 44 = .ok (.invokespecial 59, 3) := by decide +kernel
theorem dX2_pitch_47 : decode cX2_pitch 47 = .ok (.athrow, 1) := by decide +kernel
theorem dX2_pitch_48 : decode cX2_pitch 48 = .ok (.aload_n 0, 1) := by decide +kernel
theorem dX2_pitch_49 : decode cX2_pitch 49 = .ok (.getfield 11, 3) := by decide +kernel
theorem dX2_pitch_52 : decode cX2_pitch 52 = .ok (.iload_n 1, 1) := by decide +kernel
theorem dX2_pitch_53 : decode cX2_pitch 53 = .ok (.aaload, 1) := by decide +kernel
theorem dX2_pitch_54 : decode cX2_pitch 54 = .ok (.getfield 143, 3) := by decide +kernel
theorem dX2_pitch_57 : decode cX2_pitch 57 = .ok (.iload_n 3, 1) := by decide +kernel
theorem dX2_pitch_58 : decode cX2_pitch 58 = .ok (.aaload, 1) := by decide +kernel
theorem dX2_pitch_59 : decode cX2_pitch 59 = .ok (.iload_n 2, 1) := by decide +kernel
theorem dX2_pitch_60 : decode cX2_pitch 60 = .ok (.iaload, 1) := by decide +kernel
theorem dX2_pitch_61 : decode cX2_pitch 61 = .ok (.ireturn, 1) := by decide +kernel
theorem dX2_voice_0 : decode cX2_voice 0 = .ok (.aload_n 0, 1) := by decide +kernel
theorem dX2_voice_1 : decode cX2_voice 1 = .ok (.iload_n 1, 1) := by decide +kernel
theorem dX2_voice_2 : decode cX2_voice 2 = .ok (.invokevirtual 93, 3) := by decide +kernel
theorem dX2_voice_5 : decode cX2_voice 5 = .ok (.iload_n 2, 1) := by decide +kernel
theorem dX2_voice_6 : decode cX2_voice 6 = .ok (.ifCond .lt 9, 3) := by decide +kernel
theorem dX2_voice_9 : decode cX2_voice 9 = .ok (.iload_n 2, 1) := by decide +kernel
theorem dX2_voice_10 : decode cX2_voice 10 = .ok (.bipush 7, 2) := by decide +kernel
theorem dX2_voice_12 : decode cX2_voice 12 = .ok (.if_icmp .lt 13, 3) := by decide +kernel
theorem dX2_voice_15 : decode cX2_voice 15 = .ok (.new 71, 3) := by decide +kernel
theorem dX2_voice_18 : decode cX2_voice 18 = .ok (.dup, 1) := by decide +kernel
theorem dX2_voice_19 : decode cX2_voice 19 = .ok (.ldc 146, 2) := by decide +kernel
theorem dX2_voice_21 : decode cX2_voice 21 = .ok (.invokespecial 75, 3) := by decide +kernel
theorem dX2_voice_24 : decode cX2_voice 24 = .ok (.athrow, 1) := by decide +kernel
theorem dX2_voice_25 : decode cX2_voice 25 = .ok (.aload_n 0, 1) := by decide +kernel
theorem dX2_voice_26 : decode cX2_voice 26 = .ok (.getfield 11, 3) := by decide +kernel
theorem dX2_voice_29 : decode cX2_voice 29 = .ok (.iload_n 1, 1) := by decide +kernel
theorem dX2_voice_30 : decode cX2_voice 30 = .ok (.aaload, 1) := by decide +kernel
theorem dX2_voice_31 : decode cX2_voice 31 = .ok (.iload_n 2, 1) := by decide +kernel
theorem dX2_voice_32 : decode cX2_voice 32 = .ok (.invokevirtual 148, 3) := by decide +kernel
theorem dX2_voice_35 : decode cX2_voice 35 = .ok (.ireturn, 1) := by decide +kernel
theorem dX2_transpose_0 : decode cX2_transpose 0 = .ok (.iload_n 1, 1) := by decide +kernel
theorem dX2_transpose_1 : decode cX2_transpose 1 = .ok (.bipush (-14), 2) := by decide +kernel
theorem dX2_transpose_3 : decode cX2_transpose 3 = .ok (.if_icmp .lt 21, 3) := by decide +kernel
theorem dX2_transpose_6 : decode cX2_transpose 6 = .ok (.iload_n 1, 1) := by decide +kernel
theorem dX2_transpose_7 : decode cX2_transpose 7 = .ok (.bipush 14, 2) := by decide +kernel
theorem dX2_transpose_9 : decode cX2_transpose 9 = .ok (.if_icmp .gt 15, 3) := by decide +kernel
theorem dX2_transpose_12 : decode cX2_transpose 12 = .ok (.iload_n 2, 1) := by decide +kernel
theorem dX2_transpose_13 : decode cX2_transpose 13 = .ok (.bipush (-24), 2) := by decide +kernel
theorem dX2_transpose_15 : decode cX2_transpose 15 = .ok (.if_icmp .lt 9, 3) := by decide +kernel
theorem dX2_transpose_18 : decode cX2_transpose 18 = .ok (.iload_n 2, 1) := by decide +kernel
theorem dX2_transpose_19 : decode cX2_transpose 19 = .ok (.bipush 24, 2) := by decide +kernel
theorem dX2_transpose_21 : decode cX2_transpose 21 = .ok (.if_icmp .le 13, 3) := by decide +kernel
theorem dX2_transpose_24 : decode cX2_transpose 24 = .ok (.new 44, 3) := by decide +kernel
theorem dX2_transpose_27 : decode cX2_transpose 27 = .ok (.dup, 1) := by decide +kernel
theorem dX2_transpose_28 : decode cX2_transpose 28 = .ok (.ldc 152, 2) := by decide +kernel
theorem dX2_transpose_30 : decode cX2_transpose 30 = .ok (.invokespecial 48, 3) := by decide +kernel
theorem dX2_transpose_33 : decode cX2_transpose 33 = .ok (.athrow, 1) := by decide +kernel
theorem dX2_transpose_34 : decode cX2_transpose 34 = .ok (.aload_n 0, 1) := by decide +kernel
theorem dX2_transpose_35 : decode cX2_transpose 35 = .ok (.getfield 36, 3) := by decide +kernel
theorem dX2_transpose_38 : decode cX2_transpose 38 = .ok (.bipush 7, 2) := by decide +kernel
theorem dX2_transpose_40 : decode cX2_transpose 40 = .ok (.iload_n 2, 1) := by decide +kernel
theorem dX2_transpose_41 : decode cX2_transpose 41 = .ok (.imul, 1) := by decide +kernel
theorem dX2_transpose_42 : decode cX2_transpose 42 = .ok (.iadd, 1) := by decide +kernel
theorem dX2_transpose_43 : decode cX2_transpose 43 = .ok (.bipush 12, 2) := by decide +kernel
theorem dX2_transpose_45 : decode cX2_transpose 45 = .ok (.iload_n 1, 1) := by decide +kernel
theorem dX2_transpose_46 : decode cX2_transpose 46 = .ok (.imul, 1) := by decide +kernel
theorem dX2_transpose_47 : decode cX2_transpose 47 = .ok (.isub, 1) := by decide +kernel
theorem dX2_transpose_48 : decode cX2_transpose 48 = .ok (.istore_n 3, 1) := by decide +kernel
theorem dX2_transpose_49 : decode cX2_transpose 49 = .ok (.iload_n 3, 1) := by decide +kernel
theorem dX2_transpose_50 : decode cX2_transpose 50 = .ok (.invokestatic 60, 3) := by decide +kernel
theorem dX2_transpose_53 : decode cX2_transpose 53 = .ok (.ifCond .ne 13, 3) := by decide +kernel
theorem dX2_transpose_56 : decode cX2_transpose 56 = .ok (.new 55, 3) := by decide +kernel
theorem dX2_transpose_59 : decode cX2_transpose 59 = .ok (.dup, 1) := by decide +kernel
theorem dX2_transpose_60 : decode cX2_transpose 60 = .ok (.ldc 154, 2) := by decide +kernel
theorem dX2_transpose_62 : decode cX2_transpose 62 = .ok (.invokespecial 59, 3) := by decide +kernel
theorem dX2_transpose_65 : decode cX2_transpose 65 = .ok (.athrow, 1) := by decide +kernel
theorem dX2_transpose_66 : decode cX2_transpose 66 = .ok (.iconst 0, 1) := by decide +kernel
theorem dX2_transpose_67 : decode cX2_transpose 67 = .ok (.istore 4, 2) := by decide +kernel
theorem dX2_transpose_69 : decode cX2_transpose 69 = .ok (.iload 4, 2) := by decide +kernel
theorem dX2_transpose_71 : decode cX2_transpose 71 = .ok (.aload_n 0, 1) := by decide +kernel
theorem dX2_transpose_72 : decode cX2_transpose 72 = .ok (.getfield 26, 3) := by decide +kernel
theorem dX2_transpose_75 : decode cX2_transpose 75 = .ok (.if_icmp .ge 34, 3) := by decide +kernel
theorem dX2_transpose_78 : decode cX2_transpose 78 = .ok (.aload_n 0, 1) := by decide +kernel
theorem dX2_transpose_79 : decode cX2_transpose 79 = .ok (.getfield 11, 3) := by decide +kernel
theorem dX2_transpose_82 : decode cX2_transpose 82 = .ok (.iload 4, 2) := by decide +kernel
theorem dX2_transpose_84 : decode cX2_transpose 84 = .ok (.aaload, 1) := by decide +kernel
theorem dX2_transpose_85 : decode cX2_transpose 85 = .ok (.iload_n 1, 1) := by decide +kernel
theorem dX2_transpose_86 : decode cX2_transpose 86 = .ok (.iload_n 2, 1) := by decide +kernel
theorem dX2_transpose_87 : decode cX2_transpose 87 = .ok (.invokevirtual 156, 3) := by decide +kernel
theorem dX2_transpose_90 : decode cX2_transpose 90 = .ok (.ifCond .ne 13, 3) := by decide +kernel
theorem dX2_transpose_93 : decode cX2_transpose 93 = .ok (.new 55, 3) := by decide +kernel
theorem dX2_transpose_96 : decode cX2_transpose 96 = .ok (.dup, 1) := by decide +kernel
theorem dX2_transpose_97 : decode cX2_transpose 97 = .ok (.ldc 160, 2) := by decide +kernel
theorem dX2_transpose_99 : decode cX2_transpose 99 = .ok (.invokespecial 59, 3) := by decide +kernel
theorem dX2_transpose_102 : decode cX2_transpose 102 = .ok (.athrow, 1) := by decide +kernel
theorem dX2_transpose_103 : decode cX2_transpose 103 = .ok (.iinc 4 1, 3) := by decide +kernel
theorem dX2_transpose_106 : decode cX2_transpose 106 = .ok (.goto (-37), 3) := by decide +kernel
theorem dX2_transpose_109 : decode cX2_transpose 109 = .ok (.iconst 0, 1) := by decide +kernel
theorem dX2_transpose_110 : decode cX2_transpose 110 = .ok (.istore 4, 2) := by decide +kernel
theorem dX2_transpose_112 : decode cX2_transpose 112 = .ok (.iload 4, 2) := by decide +kernel
theorem dX2_transpose_114 : decode cX2_transpose 114 = .ok (.aload_n 0, 1) := by decide +kernel
theorem dX2_transpose_115 : decode cX2_transpose 115 = .ok (.getfield 26, 3) := by decide +kernel
theorem dX2_transpose_118 : decode cX2_transpose 118 = .ok (.if_icmp .ge 21, 3) := by decide +kernel
theorem dX2_transpose_121 : decode cX2_transpose 121 = .ok (.aload_n 0, 1) := by decide +kernel
theorem dX2_transpose_122 : decode cX2_transpose 122 = .ok (.getfield 11, 3) := by decide +kernel
theorem dX2_transpose_125 : decode cX2_transpose 125 = .ok (.iload 4, 2) := by decide +kernel
theorem dX2_transpose_127 : decode cX2_transpose 127 = .ok (.aaload, 1) := by decide +kernel
theorem dX2_transpose_128 : decode cX2_transpose 128 = .ok (.iload_n 1, 1) := by decide +kernel
theorem dX2_transpose_129 : decode cX2_transpose 129 = .ok (.iload_n 2, 1) := by decide +kernel
theorem dX2_transpose_130 : decode cX2_transpose 130 = .ok (.invokevirtual 162, 3) := by decide +kernel
theorem dX2_transpose_133 : decode cX2_transpose 133 = .ok (.iinc 4 1, 3) := by decide +kernel
theorem dX2_transpose_136 : decode cX2_transpose 136 = .ok (.goto (-24), 3) := by decide +kernel
theorem dX2_transpose_139 : decode cX2_transpose 139 = .ok (.aload_n 0, 1) := by decide +kernel
theorem dX2_transpose_140 : decode cX2_transpose 140 = .ok (.iload_n 3, 1) := by decide +kernel
theorem dX2_transpose_141 : decode cX2_transpose 141 = .ok (.putfield 36, 3) := by decide +kernel
theorem dX2_transpose_144 : decode cX2_transpose 144 = .ok (.aload_n 0, 1) := by decide +kernel
theorem dX2_transpose_145 : decode cX2_transpose 145 = .ok (.invokevirtual 66, 3) := by decide +kernel
theorem dX2_transpose_148 : decode cX2_transpose 148 = .ok (.aload_n 0, 1) := by decide +kernel
theorem dX2_transpose_149 : decode cX2_transpose 149 = .ok (.getfield 36, 3) := by decide +kernel
theorem dX2_transpose_152 : decode cX2_transpose 152 = .ok (.ireturn, 1) := by decide +kernel
theorem dX2_faults_0 : decode cX2_faults 0 = .ok (.aload_n 0, 1) := by decide +kernel
theorem dX2_faults_1 : decode cX2_faults 1 = .ok (.invokevirtual 76, 3) := by decide +kernel
theorem dX2_faults_4 : decode cX2_faults 4 = .ok (.istore_n 1, 1) := by decide +kernel
theorem dX2_faults_5 : decode cX2_faults 5 = .ok (.iconst 0, 1) := by decide +kernel
theorem dX2_faults_6 : decode cX2_faults 6 = .ok (.istore_n 2, 1) := by decide +kernel
theorem dX2_faults_7 : decode cX2_faults 7 = .ok (.iconst 0, 1) := by decide +kernel
theorem dX2_faults_8 : decode cX2_faults 8 = .ok (.istore_n 3, 1) := by decide +kernel
theorem dX2_faults_9 : decode cX2_faults 9 = .ok (.iload_n 3, 1) := by decide +kernel
theorem dX2_faults_10 : decode cX2_faults 10 = .ok (.aload_n 0, 1) := by decide +kernel
theorem dX2_faults_11 : decode cX2_faults 11 = .ok (.getfield 26, 3) := by decide +kernel
theorem dX2_faults_14 : decode cX2_faults 14 = .ok (.if_icmp .ge 81, 3) := by decide +kernel
theorem dX2_faults_17 : decode cX2_faults 17 = .ok (.iload_n 2, 1) := by decide +kernel
theorem dX2_faults_18 : decode cX2_faults 18 = .ok (.iload_n 1, 1) := by decide +kernel
theorem dX2_faults_19 : decode cX2_faults 19 = .ok (.aload_n 0, 1) := by decide +kernel
theorem dX2_faults_20 : decode cX2_faults 20 = .ok (.getfield 11, 3) := by decide +kernel
theorem dX2_faults_23 : decode cX2_faults 23 = .ok (.iload_n 3, 1) := by decide +kernel
theorem dX2_faults_24 : decode cX2_faults 24 = .ok (.aaload, 1) := by decide +kernel
theorem dX2_faults_25 : decode cX2_faults 25 = .ok (.getfield 165, 3) := by decide +kernel
theorem dX2_faults_28 : decode cX2_faults 28 = .ok (.aload_n 0, 1) := by decide +kernel
theorem dX2_faults_29 : decode cX2_faults 29 = .ok (.getfield 33, 3) := by decide +kernel
theorem dX2_faults_32 : decode cX2_faults 32 = .ok (.invokestatic 168, 3) := by decide +kernel
theorem dX2_faults_35 : decode cX2_faults 35 = .ok (.isub, 1) := by decide +kernel
theorem dX2_faults_36 : decode cX2_faults 36 = .ok (.iadd, 1) := by decide +kernel
theorem dX2_faults_37 : decode cX2_faults 37 = .ok (.istore_n 2, 1) := by decide +kernel
theorem dX2_faults_38 : decode cX2_faults 38 = .ok (.iload_n 2, 1) := by decide +kernel
theorem dX2_faults_39 : decode cX2_faults 39 = .ok (.aload_n 0, 1) := by decide +kernel
theorem dX2_faults_40 : decode cX2_faults 40 = .ok (.getfield 11, 3) := by decide +kernel
theorem dX2_faults_43 : decode cX2_faults 43 = .ok (.iload_n 3, 1) := by decide +kernel
theorem dX2_faults_44 : decode cX2_faults 44 = .ok (.aaload, 1) := by decide +kernel
theorem dX2_faults_45 : decode cX2_faults 45 = .ok (.invokevirtual 171, 3) := by decide +kernel
theorem dX2_faults_48 : decode cX2_faults 48 = .ok (.iadd, 1) := by decide +kernel
theorem dX2_faults_49 : decode cX2_faults 49 = .ok (.istore_n 2, 1) := by decide +kernel
theorem dX2_faults_50 : decode cX2_faults 50 = .ok (.iload_n 3, 1) := by decide +kernel
theorem dX2_faults_51 : decode cX2_faults 51 = .ok (.iconst 1, 1) := by decide +kernel
theorem dX2_faults_52 : decode cX2_faults 52 = .ok (.iadd, 1) := by decide +kernel
theorem dX2_faults_53 : decode cX2_faults 53 = .ok (.istore 4, 2) := by decide +kernel
theorem dX2_faults_55 : decode cX2_faults 55 = .ok (.iload 4, 2) := by decide +kernel
theorem dX2_faults_57 : decode cX2_faults 57 = .ok (.aload_n 0, 1) := by decide +kernel
theorem dX2_faults_58 : decode cX2_faults 58 = .ok (.getfield 26, 3) := by decide +kernel
theorem dX2_faults_61 : decode cX2_faults 61 = .ok (.if_icmp .ge 28, 3) := by decide +kernel
theorem dX2_faults_64 : decode cX2_faults 64 = .ok (.iload_n 2, 1) := by decide +kernel
theorem dX2_faults_65 : decode cX2_faults 65 = .ok (.aload_n 0, 1) := by decide +kernel
theorem dX2_faults_66 : decode cX2_faults 66 = .ok (.getfield 11, 3) := by decide +kernel
theorem dX2_faults_69 : decode cX2_faults 69 = .ok (.iload_n 3, 1) := by decide +kernel
theorem dX2_faults_70 : decode cX2_faults 70 = .ok (.aaload, 1) := by decide +kernel
theorem dX2_faults_71 : decode cX2_faults 71 = .ok (.aload_n 0, 1) := by decide +kernel
theorem dX2_faults_72 : decode cX2_faults 72 = .ok (.getfield 11, 3) := by decide +kernel
theorem dX2_faults_75 : decode cX2_faults 75 = .ok (.iload 4, 2) := by decide +kernel
theorem dX2_faults_77 : decode cX2_faults 77 = .ok (.aaload, 1) := by decide +kernel
theorem dX2_faults_78 : decode cX2_faults 78 = .ok (.invokestatic 174, 3) := by decide +kernel
theorem dX2_faults_81 : decode cX2_faults 81 = .ok (.iadd, 1) := by decide +kernel
theorem dX2_faults_82 : decode cX2_faults 82 = .ok (.istore_n 2, 1) := by decide +kernel
theorem dX2_faults_83 : decode cX2_faults 83 = .ok (.iinc 4 1, 3) := by decide +kernel
theorem dX2_faults_86 : decode cX2_faults 86 = .ok (.goto (-31), 3) := by decide +kernel
theorem dX2_faults_89 : decode cX2_faults 89 = .ok (.iinc 3 1, 3) := by decide +kernel
theorem dX2_faults_92 : decode cX2_faults 92 = .ok (.goto (-83), 3) := by decide +kernel
theorem dX2_faults_95 : decode cX2_faults 95 = .ok (.iload_n 2, 1) := by decide +kernel
theorem dX2_faults_96 : decode cX2_faults 96 = .ok (.ireturn, 1) := by decide +kernel
theorem dX2_interval_0 : decode cX2_interval 0 = .ok (.aload_n 0, 1) := by decide +kernel
theorem dX2_interval_1 : decode cX2_interval 1 = .ok (.iload_n 1, 1) := by decide +kernel
theorem dX2_interval_2 : decode cX2_interval 2 = .ok (.invokevirtual 93, 3) := by decide +kernel
theorem dX2_interval_5 : decode cX2_interval 5 = .ok (.aload_n 0, 1) := by decide +kernel
theorem dX2_interval_6 : decode cX2_interval 6 = .ok (.iload_n 2, 1) := by decide +kernel
theorem dX2_interval_7 : decode cX2_interval 7 = .ok (.invokevirtual 93, 3) := by decide +kernel
theorem dX2_interval_10 : decode cX2_interval 10 = .ok (.iload_n 3, 1) := by decide +kernel
theorem dX2_interval_11 : decode cX2_interval 11 = .ok (.ifCond .ge 13, 3) := by decide +kernel
theorem dX2_interval_14 : decode cX2_interval 14 = .ok (.new 44, 3) := by decide +kernel
theorem dX2_interval_17 : decode cX2_interval 17 = .ok (.dup, 1) := by decide +kernel
theorem dX2_interval_18 : decode cX2_interval 18 = .ok (.ldc 178, 2) := by decide +kernel
theorem dX2_interval_20 : decode cX2_interval 20 = .ok (.invokespecial 48, 3) := by decide +kernel
theorem dX2_interval_23 : decode cX2_interval 23 = .ok (.athrow, 1) := by decide +kernel
theorem dX2_interval_24 : decode cX2_interval 24 = .ok (.aload_n 0, 1) := by decide +kernel
theorem dX2_interval_25 : decode cX2_interval 25 = .ok (.getfield 11, 3) := by decide +kernel
theorem dX2_interval_28 : decode cX2_interval 28 = .ok (.iload_n 1, 1) := by decide +kernel
theorem dX2_interval_29 : decode cX2_interval 29 = .ok (.aaload, 1) := by decide +kernel
theorem dX2_interval_30 : decode cX2_interval 30 = .ok (.iload_n 3, 1) := by decide +kernel
theorem dX2_interval_31 : decode cX2_interval 31 = .ok (.invokevirtual 180, 3) := by decide +kernel
theorem dX2_interval_34 : decode cX2_interval 34 = .ok (.istore 4, 2) := by decide +kernel
theorem dX2_interval_36 : decode cX2_interval 36 = .ok (.aload_n 0, 1) := by decide +kernel
theorem dX2_interval_37 : decode cX2_interval 37 = .ok (.getfield 11, 3) := by decide +kernel
theorem dX2_interval_40 : decode cX2_interval 40 = .ok (.iload_n 2, 1) := by decide +kernel
theorem dX2_interval_41 : decode cX2_interval 41 = .ok (.aaload, 1) := by decide +kernel
theorem dX2_interval_42 : decode cX2_interval 42 = .ok (.iload_n 3, 1) := by decide +kernel
theorem dX2_interval_43 : decode cX2_interval 43 = .ok (.invokevirtual 180, 3) := by decide +kernel
theorem dX2_interval_46 : decode cX2_interval 46 = .ok (.istore 5, 2) := by decide +kernel
theorem dX2_interval_48 : decode cX2_interval 48 = .ok (.iload 4, 2) := by decide +kernel
theorem dX2_interval_50 : decode cX2_interval 50 = .ok (.iconst (-1), 1) := by decide +kernel
theorem dX2_interval_51 : decode cX2_interval 51 = .ok (.if_icmp .eq 9, 3) := by decide +kernel
theorem dX2_interval_54 : decode cX2_interval 54 = .ok (.iload 5, 2) := by decide +kernel
theorem dX2_interval_56 : decode cX2_interval 56 = .ok (.iconst (-1), 1) := by decide +kernel
theorem dX2_interval_57 : decode cX2_interval 57 = .ok (.if_icmp .ne 8, 3) := by decide +kernel
theorem dX2_interval_60 : decode cX2_interval 60 = .ok (.bipush (-100), 2) := by decide +kernel
theorem dX2_interval_62 : decode cX2_interval 62 = .ok (.goto 8, 3) := by decide +kernel
theorem dX2_interval_65 : decode cX2_interval 65 = .ok (.iload 5, 2) := by decide +kernel
theorem dX2_interval_67 : decode cX2_interval 67 = .ok (.iload 4, 2) := by decide +kernel
theorem dX2_interval_69 : decode cX2_interval 69 = .ok (.isub, 1) := by decide +kernel
theorem dX2_interval_70 : decode cX2_interval 70 = .ok (.ireturn, 1) := by decide +kernel
theorem dX2_event_0 : decode cX2_event 0 = .ok (.iload_n 1, 1) := by decide +kernel
theorem dX2_event_1 : decode cX2_event 1 = .ok (.ifCond .lt 11, 3) := by decide +kernel
theorem dX2_event_4 : decode cX2_event 4 = .ok (.iload_n 1, 1) := by decide +kernel
theorem dX2_event_5 : decode cX2_event 5 = .ok (.aload_n 0, 1) := by decide +kernel
theorem dX2_event_6 : decode cX2_event 6 = .ok (.invokevirtual 183, 3) := by decide +kernel
theorem dX2_event_9 : decode cX2_event 9 = .ok (.if_icmp .lt 13, 3) := by decide +kernel
theorem dX2_event_12 : decode cX2_event 12 = .ok (.new 71, 3) := by decide +kernel
theorem dX2_event_15 : decode cX2_event 15 = .ok (.dup, 1) := by decide +kernel
theorem dX2_event_16 : decode cX2_event 16 = .ok (.ldc 186, 2) := by decide +kernel
theorem dX2_event_18 : decode cX2_event 18 = .ok (.invokespecial 75, 3) := by decide +kernel
theorem dX2_event_21 : decode cX2_event 21 = .ok (.athrow, 1) := by decide +kernel
theorem dX2_event_22 : decode cX2_event 22 = .ok (.iload_n 2, 1) := by decide +kernel
theorem dX2_event_23 : decode cX2_event 23 = .ok (.ifCond .lt 8, 3) := by decide +kernel
theorem dX2_event_26 : decode cX2_event 26 = .ok (.iload_n 2, 1) := by decide +kernel
theorem dX2_event_27 : decode cX2_event 27 = .ok (.iconst 4, 1) := by decide +kernel
theorem dX2_event_28 : decode cX2_event 28 = .ok (.if_icmp .lt 13, 3) := by decide +kernel
theorem dX2_event_31 : decode cX2_event 31 = .ok (.new 71, 3) := by decide +kernel
theorem dX2_event_34 : decode cX2_event 34 = .ok (.dup, 1) := by decide +kernel
theorem dX2_event_35 : decode cX2_event 35 = .ok (.ldc 188, 2) := by decide +kernel
theorem dX2_event_37 : decode cX2_event 37 = .ok (.invokespecial 75, 3) := by decide +kernel
theorem dX2_event_40 : decode cX2_event 40 = .ok (.athrow, 1) := by decide +kernel
theorem dX2_event_41 : decode cX2_event 41 = .ok (.aload_n 0, 1) := by decide +kernel
theorem dX2_event_42 : decode cX2_event 42 = .ok (.invokevirtual 190, 3) := by decide +kernel
theorem dX2_event_45 : decode cX2_event 45 = .ok (.aload_n 0, 1) := by decide +kernel
theorem dX2_event_46 : decode cX2_event 46 = .ok (.getfield 18, 3) := by decide +kernel
theorem dX2_event_49 : decode cX2_event 49 = .ok (.getfield 193, 3) := by decide +kernel
theorem dX2_event_52 : decode cX2_event 52 = .ok (.iload_n 2, 1) := by decide +kernel
theorem dX2_event_53 : decode cX2_event 53 = .ok (.aaload, 1) := by decide +kernel
theorem dX2_event_54 : decode cX2_event 54 = .ok (.iload_n 1, 1) := by decide +kernel
theorem dX2_event_55 : decode cX2_event 55 = .ok (.iaload, 1) := by decide +kernel
theorem dX2_event_56 : decode cX2_event 56 = .ok (.ireturn, 1) := by decide +kernel
theorem dX2_events_0 : decode cX2_events 0 = .ok (.aload_n 0, 1) := by decide +kernel
theorem dX2_events_1 : decode cX2_events 1 = .ok (.invokevirtual 183, 3) := by decide +kernel
theorem dX2_events_4 : decode cX2_events 4 = .ok (.ireturn, 1) := by decide +kernel
theorem dX2_time_0 : decode cX2_time 0 = .ok (.iload_n 1, 1) := by decide +kernel
theorem dX2_time_1 : decode cX2_time 1 = .ok (.ifCond .lt 22, 3) := by decide +kernel
theorem dX2_time_4 : decode cX2_time 4 = .ok (.iload_n 1, 1) := by decide +kernel
theorem dX2_time_5 : decode cX2_time 5 = .ok (.ldc 194, 2) := by decide +kernel
theorem dX2_time_7 : decode cX2_time 7 = .ok (.if_icmp .gt 16, 3) := by decide +kernel
theorem dX2_time_10 : decode cX2_time 10 = .ok (.iload_n 2, 1) := by decide +kernel
theorem dX2_time_11 : decode cX2_time 11 = .ok (.bipush 10, 2) := by decide +kernel
theorem dX2_time_13 : decode cX2_time 13 = .ok (.if_icmp .lt 10, 3) := by decide +kernel
theorem dX2_time_16 : decode cX2_time 16 = .ok (.iload_n 2, 1) := by decide +kernel
theorem dX2_time_17 : decode cX2_time 17 = .ok (.sipush 400, 3) := by decide +kernel
theorem dX2_time_20 : decode cX2_time 20 = .ok (.if_icmp .le 13, 3) := by decide +kernel
theorem dX2_time_23 : decode cX2_time 23 = .ok (.new 44, 3) := by decide +kernel
theorem dX2_time_26 : decode cX2_time 26 = .ok (.dup, 1) := by decide +kernel
theorem dX2_time_27 : decode cX2_time 27 = .ok (.ldc 195, 2) := by decide +kernel
theorem dX2_time_29 : decode cX2_time 29 = .ok (.invokespecial 48, 3) := by decide +kernel
theorem dX2_time_32 : decode cX2_time 32 = .ok (.athrow, 1) := by decide +kernel
theorem dX2_time_33 : decode cX2_time 33 = .ok (.iload_n 1, 1) := by decide +kernel
theorem dX2_time_34 : decode cX2_time 34 = .ok (.i2l, 1) := by decide +kernel
theorem dX2_time_35 : decode cX2_time 35 = .ok (.ldc2_w 197, 3) := by decide +kernel
theorem dX2_time_38 : decode cX2_time 38 = .ok (.lmul, 1) := by decide +kernel
theorem dX2_time_39 : decode cX2_time 39 = .ok (.iload_n 2, 1) := by decide +kernel
theorem dX2_time_40 : decode cX2_time 40 = .ok (.i2l, 1) := by decide +kernel
theorem dX2_time_41 : decode cX2_time 41 = .ok (.ldiv, 1) := by decide +kernel
theorem dX2_time_42 : decode cX2_time 42 = .ok (.lreturn, 1) := by decide +kernel
theorem dX2_meanTone_0 : decode cX2_meanTone 0 = .ok (.lconst 0, 1) := by decide +kernel
theorem dX2_meanTone_1 : decode cX2_meanTone 1 = .ok (.lstore_n 1, 1) := by decide +kernel
theorem dX2_meanTone_2 : decode cX2_meanTone 2 = .ok (.lconst 0, 1) := by decide +kernel
theorem dX2_meanTone_3 : decode cX2_meanTone 3 = .ok (.lstore_n 3, 1) := by decide +kernel
theorem dX2_meanTone_4 : decode cX2_meanTone 4 = .ok (.iconst 0, 1) := by decide +kernel
theorem dX2_meanTone_5 : decode cX2_meanTone 5 = .ok (.istore 5, 2) := by decide +kernel
theorem dX2_meanTone_7 : decode cX2_meanTone 7 = .ok (.iload 5, 2) := by decide +kernel
theorem dX2_meanTone_9 : decode cX2_meanTone 9 = .ok (.aload_n 0, 1) := by decide +kernel
theorem dX2_meanTone_10 : decode cX2_meanTone 10 = .ok (.getfield 26, 3) := by decide +kernel
theorem dX2_meanTone_13 : decode cX2_meanTone 13 = .ok (.if_icmp .ge 87, 3) := by decide +kernel
theorem dX2_meanTone_16 : decode cX2_meanTone 16 = .ok (.aload_n 0, 1) := by decide +kernel
theorem dX2_meanTone_17 : decode cX2_meanTone 17 = .ok (.getfield 11, 3) := by decide +kernel
theorem dX2_meanTone_20 : decode cX2_meanTone 20 = .ok (.iload 5, 2) := by decide +kernel
theorem dX2_meanTone_22 : decode cX2_meanTone 22 = .ok (.aaload, 1) := by decide +kernel
theorem dX2_meanTone_23 : decode cX2_meanTone 23 = .ok (.astore 6, 2) := by decide +kernel
theorem dX2_meanTone_25 : decode cX2_meanTone 25 = .ok (.iconst 0, 1) := by decide +kernel
theorem dX2_meanTone_26 : decode cX2_meanTone 26 = .ok (.istore 7, 2) := by decide +kernel
theorem dX2_meanTone_28 : decode cX2_meanTone 28 = .ok (.iload 7, 2) := by decide +kernel
theorem dX2_meanTone_30 : decode cX2_meanTone 30 = .ok (.aload 6, 2) := by decide +kernel
theorem dX2_meanTone_32 : decode cX2_meanTone 32 = .ok (.getfield 103, 3) := by decide +kernel
theorem dX2_meanTone_35 : decode cX2_meanTone 35 = .ok (.if_icmp .ge 59, 3) := by decide +kernel
theorem dX2_meanTone_38 : decode cX2_meanTone 38 = .ok (.aload 6, 2) := by decide +kernel
theorem dX2_meanTone_40 : decode cX2_meanTone 40 = .ok (.iload 7, 2) := by decide +kernel
theorem dX2_meanTone_42 : decode cX2_meanTone 42 = .ok (.invokevirtual 131, 3) := by decide +kernel
theorem dX2_meanTone_45 : decode cX2_meanTone 45 = .ok (.ifCond .eq 43, 3) := by decide +kernel
theorem dX2_meanTone_48 : decode cX2_meanTone 48 = .ok (.lload_n 1, 1) := by decide +kernel
theorem dX2_meanTone_49 : decode cX2_meanTone 49 = .ok (.aload 6, 2) := by decide +kernel
theorem dX2_meanTone_51 : decode cX2_meanTone 51 = .ok (.getfield 114, 3) := by decide +kernel
theorem dX2_meanTone_54 : decode cX2_meanTone 54 = .ok (.iconst 4, 1) := by decide +kernel
theorem dX2_meanTone_55 : decode cX2_meanTone 55 = .ok (.aaload, 1) := by decide +kernel
theorem dX2_meanTone_56 : decode cX2_meanTone 56 = .ok (.iload 7, 2) := by decide +kernel
theorem dX2_meanTone_58 : decode cX2_meanTone 58 = .ok (.iaload, 1) := by decide +kernel
theorem dX2_meanTone_59 : decode cX2_meanTone 59 = .ok (.i2l, 1) := by decide +kernel
theorem dX2_meanTone_60 : decode cX2_meanTone 60 = .ok (.aload 6, 2) := by decide +kernel
theorem dX2_meanTone_62 : decode cX2_meanTone 62 = .ok (.getfield 114, 3) := by decide +kernel
theorem dX2_meanTone_65 : decode cX2_meanTone 65 = .ok (.iconst 1, 1) := by decide +kernel
theorem dX2_meanTone_66 : decode cX2_meanTone 66 = .ok (.aaload, 1) := by decide +kernel
theorem dX2_meanTone_67 : decode cX2_meanTone 67 = .ok (.iload 7, 2) := by decide +kernel
theorem dX2_meanTone_69 : decode cX2_meanTone 69 = .ok (.iaload, 1) := by decide +kernel
theorem dX2_meanTone_70 : decode cX2_meanTone 70 = .ok (.i2l, 1) := by decide +kernel
theorem dX2_meanTone_71 : decode cX2_meanTone 71 = .ok (.lmul, 1) := by decide +kernel
theorem dX2_meanTone_72 : decode cX2_meanTone 72 = .ok (.ladd, 1) := by decide +kernel
theorem dX2_meanTone_73 : decode cX2_meanTone 73 = .ok (.lstore_n 1, 1) := by decide +kernel
theorem dX2_meanTone_74 : decode cX2_meanTone 74 = .ok (.lload_n 3, 1) := by decide +kernel
theorem dX2_meanTone_75 : decode cX2_meanTone 75 = .ok (.aload 6, 2) := by decide +kernel
theorem dX2_meanTone_77 : decode cX2_meanTone 77 = .ok (.getfield 114, 3) := by decide +kernel
theorem dX2_meanTone_80 : decode cX2_meanTone 80 = .ok (.iconst 1, 1) := by decide +kernel
theorem dX2_meanTone_81 : decode cX2_meanTone 81 = .ok (.aaload, 1) := by decide +kernel
theorem dX2_meanTone_82 : decode cX2_meanTone 82 = .ok (.iload 7, 2) := by decide +kernel
theorem dX2_meanTone_84 : decode cX2_meanTone 84 = .ok (.iaload, 1) := by decide +kernel
theorem dX2_meanTone_85 : decode cX2_meanTone 85 = .ok (.i2l, 1) := by decide +kernel
theorem dX2_meanTone_86 : decode cX2_meanTone 86 = .ok (.ladd, 1) := by decide +kernel
theorem dX2_meanTone_87 : decode cX2_meanTone 87 = .ok (.lstore_n 3, 1) := by decide +kernel
theorem dX2_meanTone_88 : decode cX2_meanTone 88 = .ok (.iinc 7 1, 3) := by decide +kernel
theorem dX2_meanTone_91 : decode cX2_meanTone 91 = .ok (.goto (-63), 3) := by decide +kernel
theorem dX2_meanTone_94 : decode cX2_meanTone 94 = .ok (.iinc 5 1, 3) := by decide +kernel
theorem dX2_meanTone_97 : decode cX2_meanTone 97 = .ok (.goto (-90), 3) := by decide +kernel
theorem dX2_meanTone_100 : decode cX2_meanTone 100 = .ok (.lload_n 3, 1) := by decide +kernel
theorem dX2_meanTone_101 : decode cX2_meanTone 101 = .ok (.lconst 0, 1) := by decide +kernel
theorem dX2_meanTone_102 : decode cX2_meanTone 102 = .ok (.lcmp, 1) := by decide +kernel
theorem dX2_meanTone_103 : decode cX2_meanTone 103 = .ok (.ifCond .le 11, 3) := by decide +kernel
theorem dX2_meanTone_106 : decode cX2_meanTone 106 = .ok (.lload_n 1, 1) := by decide +kernel
theorem dX2_meanTone_107 : decode cX2_meanTone 107 = .ok (.l2d, 1) := by decide +kernel
theorem dX2_meanTone_108 : decode cX2_meanTone 108 = .ok (.lload_n 3, 1) := by decide +kernel
theorem dX2_meanTone_109 : decode cX2_meanTone 109 = .ok (.l2d, 1) := by decide +kernel
theorem dX2_meanTone_110 : decode cX2_meanTone 110 = .ok (.ddiv, 1) := by decide +kernel
theorem dX2_meanTone_111 : decode cX2_meanTone 111 = .ok (.goto 4, 3) := by decide +kernel
theorem dX2_meanTone_114 : decode cX2_meanTone 114 = .ok (.dconst 0, 1) := by decide +kernel
theorem dX2_meanTone_115 : decode cX2_meanTone 115 = .ok (.dreturn, 1) := by decide +kernel
theorem dX2_digest_0 : decode cX2_digest 0 = .ok (.ldc2_w 199, 3) := by decide +kernel
theorem dX2_digest_3 : decode cX2_digest 3 = .ok (.lstore_n 1, 1) := by decide +kernel
theorem dX2_digest_4 : decode cX2_digest 4 = .ok (.iconst 0, 1) := by decide +kernel
theorem dX2_digest_5 : decode cX2_digest 5 = .ok (.istore_n 3, 1) := by decide +kernel
theorem dX2_digest_6 : decode cX2_digest 6 = .ok (.iload_n 3, 1) := by decide +kernel
theorem dX2_digest_7 : decode cX2_digest 7 = .ok (.iconst 5, 1) := by decide +kernel
theorem dX2_digest_8 : decode cX2_digest 8 = .ok (.if_icmp .ge 22, 3) := by decide +kernel
theorem dX2_digest_11 : decode cX2_digest 11 = .ok (.lload_n 1, 1) := by decide +kernel
theorem dX2_digest_12 : decode cX2_digest 12 = .ok (.ldc2_w 201, 3) := by decide +kernel
theorem dX2_digest_15 : decode cX2_digest 15 = .ok (.lmul, 1) := by decide +kernel
theorem dX2_digest_16 : decode cX2_digest 16 = .ok (.aload_n 0, 1) := by decide +kernel
theorem dX2_digest_17 : decode cX2_digest 17 = .ok (.iload_n 3, 1) := by decide +kernel
theorem dX2_digest_18 : decode cX2_digest 18 = .ok (.invokevirtual 203, 3) := by decide +kernel
theorem dX2_digest_21 : decode cX2_digest 21 = .ok (.i2l, 1) := by decide +kernel
theorem dX2_digest_22 : decode cX2_digest 22 = .ok (.ladd, 1) := by decide +kernel
theorem dX2_digest_23 : decode cX2_digest 23 = .ok (.lstore_n 1, 1) := by decide +kernel
theorem dX2_digest_24 : decode cX2_digest 24 = .ok (.iinc 3 1, 3) := by decide +kernel
theorem dX2_digest_27 : decode cX2_digest 27 = .ok (.goto (-21), 3) := by decide +kernel
theorem dX2_digest_30 : decode cX2_digest 30 = .ok (.iconst 0, 1) := by decide +kernel
theorem dX2_digest_31 : decode cX2_digest 31 = .ok (.istore_n 3, 1) := by decide +kernel
theorem dX2_digest_32 : decode cX2_digest 32 = .ok (.iload_n 3, 1) := by decide +kernel
theorem dX2_digest_33 : decode cX2_digest 33 = .ok (.aload_n 0, 1) := by decide +kernel
theorem dX2_digest_34 : decode cX2_digest 34 = .ok (.getfield 26, 3) := by decide +kernel
theorem dX2_digest_37 : decode cX2_digest 37 = .ok (.if_icmp .ge 20, 3) := by decide +kernel
theorem dX2_digest_40 : decode cX2_digest 40 = .ok (.lload_n 1, 1) := by decide +kernel
theorem dX2_digest_41 : decode cX2_digest 41 = .ok (.aload_n 0, 1) := by decide +kernel
theorem dX2_digest_42 : decode cX2_digest 42 = .ok (.getfield 11, 3) := by decide +kernel
theorem dX2_digest_45 : decode cX2_digest 45 = .ok (.iload_n 3, 1) := by decide +kernel
theorem dX2_digest_46 : decode cX2_digest 46 = .ok (.aaload, 1) := by decide +kernel
theorem dX2_digest_47 : decode cX2_digest 47 = .ok (.invokestatic 206, 3) := by decide +kernel
theorem dX2_digest_50 : decode cX2_digest 50 = .ok (.lstore_n 1, 1) := by decide +kernel
theorem dX2_digest_51 : decode cX2_digest 51 = .ok (.iinc 3 1, 3) := by decide +kernel
theorem dX2_digest_54 : decode cX2_digest 54 = .ok (.goto (-22), 3) := by decide +kernel
theorem dX2_digest_57 : decode cX2_digest 57 = .ok (.lload_n 1, 1) := by decide +kernel
theorem dX2_digest_58 : decode cX2_digest 58 = .ok (.ldc2_w 201, 3) := by decide +kernel
theorem dX2_digest_61 : decode cX2_digest 61 = .ok (.lmul, 1) := by decide +kernel
theorem dX2_digest_62 : decode cX2_digest 62 = .ok (.aload_n 0, 1) := by decide +kernel
theorem dX2_digest_63 : decode cX2_digest 63 = .ok (.invokevirtual 210, 3) := by decide +kernel
theorem dX2_digest_66 : decode cX2_digest 66 = .ok (.i2l, 1) := by decide +kernel
theorem dX2_digest_67 : decode cX2_digest 67 = .ok (.ladd, 1) := by decide +kernel
theorem dX2_digest_68 : decode cX2_digest 68 = .ok (.lstore_n 1, 1) := by decide +kernel
theorem dX2_digest_69 : decode cX2_digest 69 = .ok (.lload_n 1, 1) := by decide +kernel
theorem dX2_digest_70 : decode cX2_digest 70 = .ok (.ldc2_w 201, 3) := by decide +kernel
theorem dX2_digest_73 : decode cX2_digest 73 = .ok (.lmul, 1) := by decide +kernel
theorem dX2_digest_74 : decode cX2_digest 74 = .ok (.aload_n 0, 1) := by decide +kernel
theorem dX2_digest_75 : decode cX2_digest 75 = .ok (.invokevirtual 183, 3) := by decide +kernel
theorem dX2_digest_78 : decode cX2_digest 78 = .ok (.i2l, 1) := by decide +kernel
theorem dX2_digest_79 : decode cX2_digest 79 = .ok (.ladd, 1) := by decide +kernel
theorem dX2_digest_80 : decode cX2_digest 80 = .ok (.lstore_n 1, 1) := by decide +kernel
theorem dX2_digest_81 : decode cX2_digest 81 = .ok (.aload_n 0, 1) := by decide +kernel
theorem dX2_digest_82 : decode cX2_digest 82 = .ok (.lload_n 1, 1) := by decide +kernel
theorem dX2_digest_83 : decode cX2_digest 83 = .ok (.invokevirtual 213, 3) := by decide +kernel
theorem dX2_digest_86 : decode cX2_digest 86 = .ok (.lreturn, 1) := by decide +kernel
theorem dX2_requireVoice_0 : decode cX2_requireVoice 0 = .ok (.iload_n 1, 1) := by decide +kernel
theorem dX2_requireVoice_1 : decode cX2_requireVoice 1 = .ok (.ifCond .lt 11, 3) := by decide +kernel
theorem dX2_requireVoice_4 : decode cX2_requireVoice 4 = .ok (.iload_n 1, 1) := by decide +kernel
theorem dX2_requireVoice_5 : decode cX2_requireVoice 5 = .ok (.aload_n 0, 1) := by decide +kernel
theorem dX2_requireVoice_6 : decode cX2_requireVoice 6 = .ok (.getfield 26, 3) := by decide +kernel
theorem dX2_requireVoice_9 : decode cX2_requireVoice 9 = .ok (.if_icmp .lt 13, 3) := by decide +kernel
theorem dX2_requireVoice_12 : decode cX2_requireVoice 12 = .ok (.new 71, 3) := by decide +kernel
theorem dX2_requireVoice_15 : decode cX2_requireVoice 15 = .ok (.dup, 1) := by decide +kernel
theorem dX2_requireVoice_16 : decode cX2_requireVoice 16 = .ok (.ldc 217, 2) := by decide +kernel
theorem dX2_requireVoice_18 : decode cX2_requireVoice 18 = .ok (.invokespecial 75, 3) := by decide +kernel
theorem dX2_requireVoice_21 : decode cX2_requireVoice 21 = .ok (.athrow, 1) := by decide +kernel
theorem dX2_requireVoice_22 : decode cX2_requireVoice 22 = .ok (.return_, 1) := by decide +kernel
theorem dX2_requireElement_0 : decode cX2_requireElement 0 = .ok (.aload_n 0, 1) := by decide +kernel
theorem dX2_requireElement_1 : decode cX2_requireElement 1 = .ok (.iload_n 1, 1) := by decide +kernel
theorem dX2_requireElement_2 : decode cX2_requireElement 2 = .ok (.invokevirtual 93, 3) := by decide +kernel
theorem dX2_requireElement_5 : decode cX2_requireElement 5 = .ok (.iload_n 2, 1) := by decide +kernel
theorem dX2_requireElement_6 : decode cX2_requireElement 6 = .ok (.ifCond .lt 16, 3) := by decide +kernel
theorem dX2_requireElement_9 : decode cX2_requireElement 9 = .ok (.iload_n 2, 1) := by decide +kernel
theorem dX2_requireElement_10 : decode cX2_requireElement 10 = .ok (.aload_n 0, 1) := by decide +kernel
theorem dX2_requireElement_11 : decode cX2_requireElement 11 = .ok (.getfield 11, 3) := by decide +kernel
theorem dX2_requireElement_14 : decode cX2_requireElement 14 = .ok (.iload_n 1, 1) := by decide +kernel
theorem dX2_requireElement_15 : decode cX2_requireElement 15 = .ok (.aaload, 1) := by decide +kernel
theorem dX2_requireElement_16 : decode cX2_requireElement 16 = .ok (.getfield 103, 3) := by decide +kernel
theorem dX2_requireElement_19 : decode cX2_requireElement 19 = .ok (.if_icmp .lt 13, 3) := by decide +kernel
theorem dX2_requireElement_22 : decode cX2_requireElement 22 = .ok (.new 71, 3) := by decide +kernel
theorem dX2_requireElement_25 : decode cX2_requireElement 25 = .ok (.dup, 1) := by decide +kernel
theorem dX2_requireElement_26 : decode cX2_requireElement 26 = .ok (.ldc 219, 2) := by decide +kernel
theorem dX2_requireElement_28 : decode cX2_requireElement 28 = .ok (.invokespecial 75, 3) := by decide +kernel
theorem dX2_requireElement_31 : decode cX2_requireElement 31 = .ok (.athrow, 1) := by decide +kernel
theorem dX2_requireElement_32 : decode cX2_requireElement 32 = .ok (.return_, 1) := by decide +kernel
theorem dX2_greatestEnd_0 : decode cX2_greatestEnd 0 = .ok (.iconst 0, 1) := by decide +kernel
theorem dX2_greatestEnd_1 : decode cX2_greatestEnd 1 = .ok (.istore_n 1, 1) := by decide +kernel
theorem dX2_greatestEnd_2 : decode cX2_greatestEnd 2 = .ok (.iconst 0, 1) := by decide +kernel
theorem dX2_greatestEnd_3 : decode cX2_greatestEnd 3 = .ok (.istore_n 2, 1) := by decide +kernel
theorem dX2_greatestEnd_4 : decode cX2_greatestEnd 4 = .ok (.iload_n 2, 1) := by decide +kernel
theorem dX2_greatestEnd_5 : decode cX2_greatestEnd 5 = .ok (.aload_n 0, 1) := by decide +kernel
theorem dX2_greatestEnd_6 : decode cX2_greatestEnd 6 = .ok (.getfield 26, 3) := by decide +kernel
theorem dX2_greatestEnd_9 : decode cX2_greatestEnd 9 = .ok (.if_icmp .ge 23, 3) := by decide +kernel
theorem dX2_greatestEnd_12 : decode cX2_greatestEnd 12 = .ok (.iload_n 1, 1) := by decide +kernel
theorem dX2_greatestEnd_13 : decode cX2_greatestEnd 13 = .ok (.aload_n 0, 1) := by decide +kernel
theorem dX2_greatestEnd_14 : decode cX2_greatestEnd 14 = .ok (.getfield 11, 3) := by decide +kernel
theorem dX2_greatestEnd_17 : decode cX2_greatestEnd 17 = .ok (.iload_n 2, 1) := by decide +kernel
theorem dX2_greatestEnd_18 : decode cX2_greatestEnd 18 = .ok (.aaload, 1) := by decide +kernel
theorem dX2_greatestEnd_19 : decode cX2_greatestEnd 19 = .ok (.getfield 165, 3) := by decide +kernel
theorem dX2_greatestEnd_22 : decode cX2_greatestEnd 22 = .ok (.invokestatic 221, 3) := by decide +kernel
theorem dX2_greatestEnd_25 : decode cX2_greatestEnd 25 = .ok (.istore_n 1, 1) := by decide +kernel
theorem dX2_greatestEnd_26 : decode cX2_greatestEnd 26 = .ok (.iinc 2 1, 3) := by decide +kernel
theorem dX2_greatestEnd_29 : decode cX2_greatestEnd 29 = .ok (.goto (-25), 3) := by decide +kernel
theorem dX2_greatestEnd_32 : decode cX2_greatestEnd 32 = .ok (.iload_n 1, 1) := by decide +kernel
theorem dX2_greatestEnd_33 : decode cX2_greatestEnd 33 = .ok (.ireturn, 1) := by decide +kernel
theorem dX2_barsBegun_0 : decode cX2_barsBegun 0 = .ok (.iconst 0, 1) := by decide +kernel
theorem dX2_barsBegun_1 : decode cX2_barsBegun 1 = .ok (.istore_n 1, 1) := by decide +kernel
theorem dX2_barsBegun_2 : decode cX2_barsBegun 2 = .ok (.iconst 0, 1) := by decide +kernel
theorem dX2_barsBegun_3 : decode cX2_barsBegun 3 = .ok (.istore_n 2, 1) := by decide +kernel
theorem dX2_barsBegun_4 : decode cX2_barsBegun 4 = .ok (.iload_n 2, 1) := by decide +kernel
theorem dX2_barsBegun_5 : decode cX2_barsBegun 5 = .ok (.aload_n 0, 1) := by decide +kernel
theorem dX2_barsBegun_6 : decode cX2_barsBegun 6 = .ok (.getfield 26, 3) := by decide +kernel
theorem dX2_barsBegun_9 : decode cX2_barsBegun 9 = .ok (.if_icmp .ge 44, 3) := by decide +kernel
theorem dX2_barsBegun_12 : decode cX2_barsBegun 12 = .ok (.aload_n 0, 1) := by decide +kernel
theorem dX2_barsBegun_13 : decode cX2_barsBegun 13 = .ok (.getfield 11, 3) := by decide +kernel
theorem dX2_barsBegun_16 : decode cX2_barsBegun 16 = .ok (.iload_n 2, 1) := by decide +kernel
theorem dX2_barsBegun_17 : decode cX2_barsBegun 17 = .ok (.aaload, 1) := by decide +kernel
theorem dX2_barsBegun_18 : decode cX2_barsBegun 18 = .ok (.astore_n 3, 1) := by decide +kernel
theorem dX2_barsBegun_19 : decode cX2_barsBegun 19 = .ok (.aload_n 3, 1) := by decide +kernel
theorem dX2_barsBegun_20 : decode cX2_barsBegun 20 = .ok (.getfield 103, 3) := by decide +kernel
theorem dX2_barsBegun_23 : decode cX2_barsBegun 23 = .ok (.ifCond .le 24, 3) := by decide +kernel
theorem dX2_barsBegun_26 : decode cX2_barsBegun 26 = .ok (.iload_n 1, 1) := by decide +kernel
theorem dX2_barsBegun_27 : decode cX2_barsBegun 27 = .ok (.aload_n 3, 1) := by decide +kernel
theorem dX2_barsBegun_28 : decode cX2_barsBegun 28 = .ok (.getfield 114, 3) := by decide +kernel
theorem dX2_barsBegun_31 : decode cX2_barsBegun 31 = .ok (.bipush 6, 2) := by decide +kernel
theorem dX2_barsBegun_33 : decode cX2_barsBegun 33 = .ok (.aaload, 1) := by decide +kernel
theorem dX2_barsBegun_34 : decode cX2_barsBegun 34 = .ok (.aload_n 3, 1) := by decide +kernel
theorem dX2_barsBegun_35 : decode cX2_barsBegun 35 = .ok (.getfield 103, 3) := by decide +kernel
theorem dX2_barsBegun_38 : decode cX2_barsBegun 38 = .ok (.iconst 1, 1) := by decide +kernel
theorem dX2_barsBegun_39 : decode cX2_barsBegun 39 = .ok (.isub, 1) := by decide +kernel
theorem dX2_barsBegun_40 : decode cX2_barsBegun 40 = .ok (.iaload, 1) := by decide +kernel
theorem dX2_barsBegun_41 : decode cX2_barsBegun 41 = .ok (.iconst 1, 1) := by decide +kernel
theorem dX2_barsBegun_42 : decode cX2_barsBegun 42 = .ok (.iadd, 1) := by decide +kernel
theorem dX2_barsBegun_43 : decode cX2_barsBegun 43 = .ok (.invokestatic 221, 3) := by decide +kernel
theorem dX2_barsBegun_46 : decode cX2_barsBegun 46 = .ok (.istore_n 1, 1) := by decide +kernel
theorem dX2_barsBegun_47 : decode cX2_barsBegun 47 = .ok (.iinc 2 1, 3) := by decide +kernel
theorem dX2_barsBegun_50 : decode cX2_barsBegun 50 = .ok (.goto (-46), 3) := by decide +kernel
theorem dX2_barsBegun_53 : decode cX2_barsBegun 53 = .ok (.iload_n 1, 1) := by decide +kernel
theorem dX2_barsBegun_54 : decode cX2_barsBegun 54 = .ok (.ireturn, 1) := by decide +kernel
theorem dX2_arrangeOne_0 : decode cX2_arrangeOne 0 = .ok (.aload_n 1, 1) := by decide +kernel
theorem dX2_arrangeOne_1 : decode cX2_arrangeOne 1 = .ok (.aload_n 0, 1) := by decide +kernel
theorem dX2_arrangeOne_2 : decode cX2_arrangeOne 2 = .ok (.getfield 36, 3) := by decide +kernel
theorem dX2_arrangeOne_5 : decode cX2_arrangeOne 5 = .ok (.aload_n 0, 1) := by decide +kernel
theorem dX2_arrangeOne_6 : decode cX2_arrangeOne 6 = .ok (.getfield 30, 3) := by decide +kernel
theorem dX2_arrangeOne_9 : decode cX2_arrangeOne 9 = .ok (.invokevirtual 226, 3) := by decide +kernel
theorem dX2_arrangeOne_12 : decode cX2_arrangeOne 12 = .ok (.aload_n 0, 1) := by decide +kernel
theorem dX2_arrangeOne_13 : decode cX2_arrangeOne 13 = .ok (.iconst 0, 1) := by decide +kernel
theorem dX2_arrangeOne_14 : decode cX2_arrangeOne 14 = .ok (.putfield 39, 3) := by decide +kernel
theorem dX2_arrangeOne_17 : decode cX2_arrangeOne 17 = .ok (.return_, 1) := by decide +kernel
theorem dX2_arrangeAll_0 : decode cX2_arrangeAll 0 = .ok (.iconst 0, 1) := by decide +kernel
theorem dX2_arrangeAll_1 : decode cX2_arrangeAll 1 = .ok (.istore_n 1, 1) := by decide +kernel
theorem dX2_arrangeAll_2 : decode cX2_arrangeAll 2 = .ok (.iload_n 1, 1) := by decide +kernel
theorem dX2_arrangeAll_3 : decode cX2_arrangeAll 3 = .ok (.aload_n 0, 1) := by decide +kernel
theorem dX2_arrangeAll_4 : decode cX2_arrangeAll 4 = .ok (.getfield 26, 3) := by decide +kernel
theorem dX2_arrangeAll_7 : decode cX2_arrangeAll 7 = .ok (.if_icmp .ge 26, 3) := by decide +kernel
theorem dX2_arrangeAll_10 : decode cX2_arrangeAll 10 = .ok (.aload_n 0, 1) := by decide +kernel
theorem dX2_arrangeAll_11 : decode cX2_arrangeAll 11 = .ok (.getfield 11, 3) := by decide +kernel
theorem dX2_arrangeAll_14 : decode cX2_arrangeAll 14 = .ok (.iload_n 1, 1) := by decide +kernel
theorem dX2_arrangeAll_15 : decode cX2_arrangeAll 15 = .ok (.aaload, 1) := by decide +kernel
theorem dX2_arrangeAll_16 : decode cX2_arrangeAll 16 = .ok (.aload_n 0, 1) := by decide +kernel
theorem dX2_arrangeAll_17 : decode cX2_arrangeAll 17 = .ok (.getfield 36, 3) := by decide +kernel
theorem dX2_arrangeAll_20 : decode cX2_arrangeAll 20 = .ok (.aload_n 0, 1) := by decide +kernel
theorem dX2_arrangeAll_21 : decode cX2_arrangeAll 21 = .ok (.getfield 30, 3) := by decide +kernel
theorem dX2_arrangeAll_24 : decode cX2_arrangeAll 24 = .ok (.invokevirtual 226, 3) := by decide +kernel
theorem dX2_arrangeAll_27 : decode cX2_arrangeAll 27 = .ok (.iinc 1 1, 3) := by decide +kernel
theorem dX2_arrangeAll_30 : decode cX2_arrangeAll 30 = .ok (.goto (-28), 3) := by decide +kernel
theorem dX2_arrangeAll_33 : decode cX2_arrangeAll 33 = .ok (.aload_n 0, 1) := by decide +kernel
theorem dX2_arrangeAll_34 : decode cX2_arrangeAll 34 = .ok (.iconst 0, 1) := by decide +kernel
theorem dX2_arrangeAll_35 : decode cX2_arrangeAll 35 = .ok (.putfield 39, 3) := by decide +kernel
theorem dX2_arrangeAll_38 : decode cX2_arrangeAll 38 = .ok (.return_, 1) := by decide +kernel
theorem dX2_addPieces_0 : decode cX2_addPieces 0 = .ok (.aload_n 0, 1) := by decide +kernel
theorem dX2_addPieces_1 : decode cX2_addPieces 1 = .ok (.aload_n 1, 1) := by decide +kernel
theorem dX2_addPieces_2 : decode cX2_addPieces 2 = .ok (.getfield 165, 3) := by decide +kernel
theorem dX2_addPieces_5 : decode cX2_addPieces 5 = .ok (.getstatic 90, 3) := by decide +kernel
theorem dX2_addPieces_8 : decode cX2_addPieces 8 = .ok (.iload_n 2, 1) := by decide +kernel
theorem dX2_addPieces_9 : decode cX2_addPieces 9 = .ok (.iaload, 1) := by decide +kernel
theorem dX2_addPieces_10 : decode cX2_addPieces 10 = .ok (.invokevirtual 229, 3) := by decide +kernel
theorem dX2_addPieces_13 : decode cX2_addPieces 13 = .ok (.istore_n 3, 1) := by decide +kernel
theorem dX2_addPieces_14 : decode cX2_addPieces 14 = .ok (.aload_n 1, 1) := by decide +kernel
theorem dX2_addPieces_15 : decode cX2_addPieces 15 = .ok (.getfield 103, 3) := by decide +kernel
theorem dX2_addPieces_18 : decode cX2_addPieces 18 = .ok (.iload_n 3, 1) := by decide +kernel
theorem dX2_addPieces_19 : decode cX2_addPieces 19 = .ok (.iadd, 1) := by decide +kernel
theorem dX2_addPieces_20 : decode cX2_addPieces 20 = .ok (.sipush 200, 3) := by decide +kernel
theorem dX2_addPieces_23 : decode cX2_addPieces 23 = .ok (.if_icmp .le 13, 3) := by decide +kernel
theorem dX2_addPieces_26 : decode cX2_addPieces 26 = .ok (.new 55, 3) := by decide +kernel
theorem dX2_addPieces_29 : decode cX2_addPieces 29 = .ok (.dup, 1) := by decide +kernel
theorem dX2_addPieces_30 : decode cX2_addPieces 30 = .ok (.ldc 232, 2) := by decide +kernel
theorem dX2_addPieces_32 : decode cX2_addPieces 32 = .ok (.invokespecial 59, 3) := by decide +kernel
theorem dX2_addPieces_35 : decode cX2_addPieces 35 = .ok (.athrow, 1) := by decide +kernel
theorem dX2_addPieces_36 : decode cX2_addPieces 36 = .ok (.aload_n 1, 1) := by decide +kernel
theorem dX2_addPieces_37 : decode cX2_addPieces 37 = .ok (.getfield 165, 3) := by decide +kernel
theorem dX2_addPieces_40 : decode cX2_addPieces 40 = .ok (.getstatic 90, 3) := by decide +kernel
theorem dX2_addPieces_43 : decode cX2_addPieces 43 = .ok (.iload_n 2, 1) := by decide +kernel
theorem dX2_addPieces_44 : decode cX2_addPieces 44 = .ok (.iaload, 1) := by decide +kernel
theorem dX2_addPieces_45 : decode cX2_addPieces 45 = .ok (.iadd, 1) := by decide +kernel
theorem dX2_addPieces_46 : decode cX2_addPieces 46 = .ok (.bipush 100, 2) := by decide +kernel
theorem dX2_addPieces_48 : decode cX2_addPieces 48 = .ok (.aload_n 0, 1) := by decide +kernel
theorem dX2_addPieces_49 : decode cX2_addPieces 49 = .ok (.getfield 33, 3) := by decide +kernel
theorem dX2_addPieces_52 : decode cX2_addPieces 52 = .ok (.imul, 1) := by decide +kernel
theorem dX2_addPieces_53 : decode cX2_addPieces 53 = .ok (.if_icmp .le 13, 3) := by decide +kernel
theorem dX2_addPieces_56 : decode cX2_addPieces 56 = .ok (.new 55, 3) := by decide +kernel
theorem dX2_addPieces_59 : decode cX2_addPieces 59 = .ok (.dup, 1) := by decide +kernel
theorem dX2_addPieces_60 : decode cX2_addPieces 60 = .ok (.ldc 234, 2) := by decide +kernel
theorem dX2_addPieces_62 : decode cX2_addPieces 62 = .ok (.invokespecial 59, 3) := by decide +kernel
theorem dX2_addPieces_65 : decode cX2_addPieces 65 = .ok (.athrow, 1) := by decide +kernel
theorem dX2_addPieces_66 : decode cX2_addPieces 66 = .ok (.iconst 0, 1) := by decide +kernel
theorem dX2_addPieces_67 : decode cX2_addPieces 67 = .ok (.istore 4, 2) := by decide +kernel
theorem dX2_addPieces_69 : decode cX2_addPieces 69 = .ok (.iload 4, 2) := by decide +kernel
theorem dX2_addPieces_71 : decode cX2_addPieces 71 = .ok (.iload_n 3, 1) := by decide +kernel
theorem dX2_addPieces_72 : decode cX2_addPieces 72 = .ok (.if_icmp .ge 31, 3) := by decide +kernel
theorem dX2_addPieces_75 : decode cX2_addPieces 75 = .ok (.aload_n 1, 1) := by decide +kernel
theorem dX2_addPieces_76 : decode cX2_addPieces 76 = .ok (.aload_n 0, 1) := by decide +kernel
theorem dX2_addPieces_77 : decode cX2_addPieces 77 = .ok (.getfield 22, 3) := by decide +kernel
theorem dX2_addPieces_80 : decode cX2_addPieces 80 = .ok (.iload 4, 2) := by decide +kernel
theorem dX2_addPieces_82 : decode cX2_addPieces 82 = .ok (.iaload, 1) := by decide +kernel
theorem dX2_addPieces_83 : decode cX2_addPieces 83 = .ok (.aload_n 1, 1) := by decide +kernel
theorem dX2_addPieces_84 : decode cX2_addPieces 84 = .ok (.getfield 165, 3) := by decide +kernel
theorem dX2_addPieces_87 : decode cX2_addPieces 87 = .ok (.aload_n 0, 1) := by decide +kernel
theorem dX2_addPieces_88 : decode cX2_addPieces 88 = .ok (.getfield 33, 3) := by decide +kernel
theorem dX2_addPieces_91 : decode cX2_addPieces 91 = .ok (.invokestatic 168, 3) := by decide +kernel
theorem dX2_addPieces_94 : decode cX2_addPieces 94 = .ok (.invokevirtual 236, 3) := by decide +kernel
theorem dX2_addPieces_97 : decode cX2_addPieces 97 = .ok (.iinc 4 1, 3) := by decide +kernel
theorem dX2_addPieces_100 : decode cX2_addPieces 100 = .ok (.goto (-31), 3) := by decide +kernel
theorem dX2_addPieces_103 : decode cX2_addPieces 103 = .ok (.iload_n 3, 1) := by decide +kernel
theorem dX2_addPieces_104 : decode cX2_addPieces 104 = .ok (.ireturn, 1) := by decide +kernel
theorem dX2_planPieces_0 : decode cX2_planPieces 0 = .ok (.iload_n 2, 1) := by decide +kernel
theorem dX2_planPieces_1 : decode cX2_planPieces 1 = .ok (.istore_n 3, 1) := by decide +kernel
theorem dX2_planPieces_2 : decode cX2_planPieces 2 = .ok (.aload_n 0, 1) := by decide +kernel
theorem dX2_planPieces_3 : decode cX2_planPieces 3 = .ok (.getfield 33, 3) := by decide +kernel
theorem dX2_planPieces_6 : decode cX2_planPieces 6 = .ok (.iload_n 1, 1) := by decide +kernel
theorem dX2_planPieces_7 : decode cX2_planPieces 7 = .ok (.iload_n 1, 1) := by decide +kernel
theorem dX2_planPieces_8 : decode cX2_planPieces 8 = .ok (.aload_n 0, 1) := by decide +kernel
theorem dX2_planPieces_9 : decode cX2_planPieces 9 = .ok (.getfield 33, 3) := by decide +kernel
theorem dX2_planPieces_12 : decode cX2_planPieces 12 = .ok (.invokestatic 168, 3) := by decide +kernel
theorem dX2_planPieces_15 : decode cX2_planPieces 15 = .ok (.aload_n 0, 1) := by decide +kernel
theorem dX2_planPieces_16 : decode cX2_planPieces 16 = .ok (.getfield 33, 3) := by decide +kernel
theorem dX2_planPieces_19 : decode cX2_planPieces 19 = .ok (.imul, 1) := by decide +kernel
theorem dX2_planPieces_20 : decode cX2_planPieces 20 = .ok (.isub, 1) := by decide +kernel
theorem dX2_planPieces_21 : decode cX2_planPieces 21 = .ok (.isub, 1) := by decide +kernel
theorem dX2_planPieces_22 : decode cX2_planPieces 22 = .ok (.istore 4, 2) := by decide +kernel
theorem dX2_planPieces_24 : decode cX2_planPieces 24 = .ok (.iconst 0, 1) := by decide +kernel
theorem dX2_planPieces_25 : decode cX2_planPieces 25 = .ok (.istore 5, 2) := by decide +kernel
theorem dX2_planPieces_27 : decode cX2_planPieces 27 = .ok (.iload_n 3, 1) := by decide +kernel
theorem dX2_planPieces_28 : decode cX2_planPieces 28 = .ok (.ifCond .le 67, 3) := by decide +kernel
theorem dX2_planPieces_31 : decode cX2_planPieces 31 = .ok (.iload 5, 2) := by decide +kernel
theorem dX2_planPieces_33 : decode cX2_planPieces 33 = .ok (.bipush 56, 2) := by decide +kernel
theorem dX2_planPieces_35 : decode cX2_planPieces 35 = .ok (.if_icmp .ge 60, 3) := by decide +kernel
theorem dX2_planPieces_38 : decode cX2_planPieces 38 = .ok (.iload_n 3, 1) := by decide +kernel
theorem dX2_planPieces_39 : decode cX2_planPieces 39 = .ok (.iload 4, 2) := by decide +kernel
theorem dX2_planPieces_41 : decode cX2_planPieces 41 = .ok (.invokestatic 239, 3) := by decide +kernel
theorem dX2_planPieces_44 : decode cX2_planPieces 44 = .ok (.invokestatic 242, 3) := by decide +kernel
theorem dX2_planPieces_47 : decode cX2_planPieces 47 = .ok (.istore 6, 2) := by decide +kernel
theorem dX2_planPieces_49 : decode cX2_planPieces 49 = .ok (.aload_n 0, 1) := by decide +kernel
theorem dX2_planPieces_50 : decode cX2_planPieces 50 = .ok (.getfield 22, 3) := by decide +kernel
theorem dX2_planPieces_53 : decode cX2_planPieces 53 = .ok (.iload 5, 2) := by decide +kernel
theorem dX2_planPieces_55 : decode cX2_planPieces 55 = .ok (.iload 6, 2) := by decide +kernel
theorem dX2_planPieces_57 : decode cX2_planPieces 57 = .ok (.iastore, 1) := by decide +kernel
theorem dX2_planPieces_58 : decode cX2_planPieces 58 = .ok (.iinc 5 1, 3) := by decide +kernel
theorem dX2_planPieces_61 : decode cX2_planPieces 61 = .ok (.iload_n 3, 1) := by decide +kernel
theorem dX2_planPieces_62 : decode cX2_planPieces 62 = .ok (.getstatic 90, 3) := by decide +kernel
theorem dX2_planPieces_65 : decode cX2_planPieces 65 = .ok (.iload 6, 2) := by decide +kernel
theorem dX2_planPieces_67 : decode cX2_planPieces 67 = .ok (.iaload, 1) := by decide +kernel
theorem dX2_planPieces_68 : decode cX2_planPieces 68 = .ok (.isub, 1) := by decide +kernel
theorem dX2_planPieces_69 : decode cX2_planPieces 69 = .ok (.istore_n 3, 1) := by decide +kernel
theorem dX2_planPieces_70 : decode cX2_planPieces 70 = .ok (.iload 4, 2) := by decide +kernel
theorem dX2_planPieces_72 : decode cX2_planPieces 72 = .ok (.getstatic 90, 3) := by decide +kernel
theorem dX2_planPieces_75 : decode cX2_planPieces 75 = .ok (.iload 6, 2) := by decide +kernel
theorem dX2_planPieces_77 : decode cX2_planPieces 77 = .ok (.iaload, 1) := by decide +kernel
theorem dX2_planPieces_78 : decode cX2_planPieces 78 = .ok (.isub, 1) := by decide +kernel
theorem dX2_planPieces_79 : decode cX2_planPieces 79 = .ok (.istore 4, 2) := by decide +kernel
theorem dX2_planPieces_81 : decode cX2_planPieces 81 = .ok (.iload 4, 2) := by decide +kernel
theorem dX2_planPieces_83 : decode cX2_planPieces 83 = .ok (.ifCond .gt 9, 3) := by decide +kernel
theorem dX2_planPieces_86 : decode cX2_planPieces 86 = .ok (.aload_n 0, 1) := by decide +kernel
theorem dX2_planPieces_87 : decode cX2_planPieces 87 = .ok (.getfield 33, 3) := by decide +kernel
theorem dX2_planPieces_90 : decode cX2_planPieces 90 = .ok (.istore 4, 2) := by decide +kernel
theorem dX2_planPieces_92 : decode cX2_planPieces 92 = .ok (.goto (-65), 3) := by decide +kernel
theorem dX2_planPieces_95 : decode cX2_planPieces 95 = .ok (.iload 5, 2) := by decide +kernel
theorem dX2_planPieces_97 : decode cX2_planPieces 97 = .ok (.ireturn, 1) := by decide +kernel
theorem dX2_greatestValue_0 : decode cX2_greatestValue 0 = .ok (.iconst 0, 1) := by decide +kernel
theorem dX2_greatestValue_1 : decode cX2_greatestValue 1 = .ok (.istore_n 1, 1) := by decide +kernel
theorem dX2_greatestValue_2 : decode cX2_greatestValue 2 = .ok (.iload_n 1, 1) := by decide +kernel
theorem dX2_greatestValue_3 : decode cX2_greatestValue 3 = .ok (.getstatic 90, 3) := by decide +kernel
theorem dX2_greatestValue_6 : decode cX2_greatestValue 6 = .ok (.arraylength, 1) := by decide +kernel
theorem dX2_greatestValue_7 : decode cX2_greatestValue 7 = .ok (.if_icmp .ge 20, 3) := by decide +kernel
theorem dX2_greatestValue_10 : decode cX2_greatestValue 10 = .ok (.getstatic 90, 3) := by decide +kernel
theorem dX2_greatestValue_13 : decode cX2_greatestValue 13 = .ok (.iload_n 1, 1) := by decide +kernel
theorem dX2_greatestValue_14 : decode cX2_greatestValue 14 = .ok (.iaload, 1) := by decide +kernel
theorem dX2_greatestValue_15 : decode cX2_greatestValue 15 = .ok (.iload_n 0, 1) := by decide +kernel
theorem dX2_greatestValue_16 : decode cX2_greatestValue 16 = .ok (.if_icmp .gt 5, 3) := by decide +kernel
theorem dX2_greatestValue_19 : decode cX2_greatestValue 19 = .ok (.iload_n 1, 1) := by decide +kernel
theorem dX2_greatestValue_20 : decode cX2_greatestValue 20 = .ok (.ireturn, 1) := by decide +kernel
theorem dX2_greatestValue_21 : decode cX2_greatestValue 21 = .ok (.iinc 1 1, 3) := by decide +kernel
theorem dX2_greatestValue_24 : decode cX2_greatestValue 24 = .ok (.goto (-22), 3) := by decide +kernel
theorem dX2_greatestValue_27 : decode cX2_greatestValue 27 = .ok (.getstatic 90, 3) := by decide +kernel
theorem dX2_greatestValue_30 : decode cX2_greatestValue 30 = .ok (.arraylength, 1) := by decide +kernel
theorem dX2_greatestValue_31 : decode cX2_greatestValue 31 = .ok (.iconst 1, 1) := by decide +kernel
theorem dX2_greatestValue_32 : decode cX2_greatestValue 32 = .ok (.isub, 1) := by decide +kernel
theorem dX2_greatestValue_33 : decode cX2_greatestValue 33 = .ok (.ireturn, 1) := by decide +kernel
theorem dX2_findValue_0 : decode cX2_findValue 0 = .ok (.iconst 0, 1) := by decide +kernel
theorem dX2_findValue_1 : decode cX2_findValue 1 = .ok (.istore_n 2, 1) := by decide +kernel
theorem dX2_findValue_2 : decode cX2_findValue 2 = .ok (.iload_n 2, 1) := by decide +kernel
theorem dX2_findValue_3 : decode cX2_findValue 3 = .ok (.getstatic 90, 3) := by decide +kernel
theorem dX2_findValue_6 : decode cX2_findValue 6 = .ok (.arraylength, 1) := by decide +kernel
theorem dX2_findValue_7 : decode cX2_findValue 7 = .ok (.if_icmp .ge 29, 3) := by decide +kernel
theorem dX2_findValue_10 : decode cX2_findValue 10 = .ok (.getstatic 245, 3) := by decide +kernel
theorem dX2_findValue_13 : decode cX2_findValue 13 = .ok (.iload_n 2, 1) := by decide +kernel
theorem dX2_findValue_14 : decode cX2_findValue 14 = .ok (.iaload, 1) := by decide +kernel
theorem dX2_findValue_15 : decode cX2_findValue 15 = .ok (.iload_n 0, 1) := by decide +kernel
theorem dX2_findValue_16 : decode cX2_findValue 16 = .ok (.if_icmp .ne 14, 3) := by decide +kernel
theorem dX2_findValue_19 : decode cX2_findValue 19 = .ok (.getstatic 248, 3) := by decide +kernel
theorem dX2_findValue_22 : decode cX2_findValue 22 = .ok (.iload_n 2, 1) := by decide +kernel
theorem dX2_findValue_23 : decode cX2_findValue 23 = .ok (.iaload, 1) := by decide +kernel
theorem dX2_findValue_24 : decode cX2_findValue 24 = .ok (.iload_n 1, 1) := by decide +kernel
theorem dX2_findValue_25 : decode cX2_findValue 25 = .ok (.if_icmp .ne 5, 3) := by decide +kernel
theorem dX2_findValue_28 : decode cX2_findValue 28 = .ok (.iload_n 2, 1) := by decide +kernel
theorem dX2_findValue_29 : decode cX2_findValue 29 = .ok (.ireturn, 1) := by decide +kernel
theorem dX2_findValue_30 : decode cX2_findValue 30 = .ok (.iinc 2 1, 3) := by decide +kernel
theorem dX2_findValue_33 : decode cX2_findValue 33 = .ok (.goto (-31), 3) := by decide +kernel
theorem dX2_findValue_36 : decode cX2_findValue 36 = .ok (.iconst (-1), 1) := by decide +kernel
theorem dX2_findValue_37 : decode cX2_findValue 37 = .ok (.ireturn, 1) := by decide +kernel
theorem dX2_wholeParts_0 : decode cX2_wholeParts 0 = .ok (.iload_n 1, 1) := by decide +kernel
theorem dX2_wholeParts_1 : decode cX2_wholeParts 1 = .ok (.ifCond .le 9, 3) := by decide +kernel
theorem dX2_wholeParts_4 : decode cX2_wholeParts 4 = .ok (.iload_n 0, 1) := by decide +kernel
theorem dX2_wholeParts_5 : decode cX2_wholeParts 5 = .ok (.iload_n 1, 1) := by decide +kernel
theorem dX2_wholeParts_6 : decode cX2_wholeParts 6 = .ok (.idiv, 1) := by decide +kernel
theorem dX2_wholeParts_7 : decode cX2_wholeParts 7 = .ok (.goto 4, 3) := by decide +kernel
theorem dX2_wholeParts_10 : decode cX2_wholeParts 10 = .ok (.iconst 0, 1) := by decide +kernel
theorem dX2_wholeParts_11 : decode cX2_wholeParts 11 = .ok (.ireturn, 1) := by decide +kernel
theorem dX2_isKey_0 : decode cX2_isKey 0 = .ok (.iload_n 0, 1) := by decide +kernel
theorem dX2_isKey_1 : decode cX2_isKey 1 = .ok (.bipush (-7), 2) := by decide +kernel
theorem dX2_isKey_3 : decode cX2_isKey 3 = .ok (.if_icmp .lt 13, 3) := by decide +kernel
theorem dX2_isKey_6 : decode cX2_isKey 6 = .ok (.iload_n 0, 1) := by decide +kernel
theorem dX2_isKey_7 : decode cX2_isKey 7 = .ok (.bipush 7, 2) := by decide +kernel
theorem dX2_isKey_9 : decode cX2_isKey 9 = .ok (.if_icmp .gt 7, 3) := by decide +kernel
theorem dX2_isKey_12 : decode cX2_isKey 12 = .ok (.iconst 1, 1) := by decide +kernel
theorem dX2_isKey_13 : decode cX2_isKey 13 = .ok (.goto 4, 3) := by decide +kernel
theorem dX2_isKey_16 : decode cX2_isKey 16 = .ok (.iconst 0, 1) := by decide +kernel
theorem dX2_isKey_17 : decode cX2_isKey 17 = .ok (.ireturn, 1) := by decide +kernel
theorem dX2_signOfKey_0 : decode cX2_signOfKey 0 = .ok (.getstatic 251, 3) := by decide +kernel
theorem dX2_signOfKey_3 : decode cX2_signOfKey 3 = .ok (.iload_n 1, 1) := by decide +kernel
theorem dX2_signOfKey_4 : decode cX2_signOfKey 4 = .ok (.iaload, 1) := by decide +kernel
theorem dX2_signOfKey_5 : decode cX2_signOfKey 5 = .ok (.istore_n 2, 1) := by decide +kernel
theorem dX2_signOfKey_6 : decode cX2_signOfKey 6 = .ok (.bipush 6, 2) := by decide +kernel
theorem dX2_signOfKey_8 : decode cX2_signOfKey 8 = .ok (.iload_n 2, 1) := by decide +kernel
theorem dX2_signOfKey_9 : decode cX2_signOfKey 9 = .ok (.isub, 1) := by decide +kernel
theorem dX2_signOfKey_10 : decode cX2_signOfKey 10 = .ok (.istore_n 3, 1) := by decide +kernel
theorem dX2_signOfKey_11 : decode cX2_signOfKey 11 = .ok (.iload_n 2, 1) := by decide +kernel
theorem dX2_signOfKey_12 : decode cX2_signOfKey 12 = .ok (.iload_n 0, 1) := by decide +kernel
theorem dX2_signOfKey_13 : decode cX2_signOfKey 13 = .ok (.if_icmp .ge 5, 3) := by decide +kernel
theorem dX2_signOfKey_16 : decode cX2_signOfKey 16 = .ok (.iconst 1, 1) := by decide +kernel
theorem dX2_signOfKey_17 : decode cX2_signOfKey 17 = .ok (.ireturn, 1) := by decide +kernel
theorem dX2_signOfKey_18 : decode cX2_signOfKey 18 = .ok (.iload_n 3, 1) := by decide +kernel
theorem dX2_signOfKey_19 : decode cX2_signOfKey 19 = .ok (.iload_n 0, 1) := by decide +kernel
theorem dX2_signOfKey_20 : decode cX2_signOfKey 20 = .ok (.ineg, 1) := by decide +kernel
theorem dX2_signOfKey_21 : decode cX2_signOfKey 21 = .ok (.if_icmp .ge 7, 3) := by decide +kernel
theorem dX2_signOfKey_24 : decode cX2_signOfKey 24 = .ok (.iconst (-1), 1) := by decide +kernel
theorem dX2_signOfKey_25 : decode cX2_signOfKey 25 = .ok (.goto 4, 3) := by decide +kernel
theorem dX2_signOfKey_28 : decode cX2_signOfKey 28 = .ok (.iconst 0, 1) := by decide +kernel
theorem dX2_signOfKey_29 : decode cX2_signOfKey 29 = .ok (.ireturn, 1) := by decide +kernel
theorem dX2_toneOf_0 : decode cX2_toneOf 0 = .ok (.bipush 12, 2) := by decide +kernel
theorem dX2_toneOf_2 : decode cX2_toneOf 2 = .ok (.iload_n 2, 1) := by decide +kernel
theorem dX2_toneOf_3 : decode cX2_toneOf 3 = .ok (.imul, 1) := by decide +kernel
theorem dX2_toneOf_4 : decode cX2_toneOf 4 = .ok (.getstatic 254, 3) := by decide +kernel
theorem dX2_toneOf_7 : decode cX2_toneOf 7 = .ok (.iload_n 0, 1) := by decide +kernel
theorem dX2_toneOf_8 : decode cX2_toneOf 8 = .ok (.iaload, 1) := by decide +kernel
theorem dX2_toneOf_9 : decode cX2_toneOf 9 = .ok (.iadd, 1) := by decide +kernel
theorem dX2_toneOf_10 : decode cX2_toneOf 10 = .ok (.iload_n 1, 1) := by decide +kernel
theorem dX2_toneOf_11 : decode cX2_toneOf 11 = .ok (.iadd, 1) := by decide +kernel
theorem dX2_toneOf_12 : decode cX2_toneOf 12 = .ok (.ireturn, 1) := by decide +kernel
theorem dX2_stepAt_0 : decode cX2_stepAt 0 = .ok (.iload_n 0, 1) := by decide +kernel
theorem dX2_stepAt_1 : decode cX2_stepAt 1 = .ok (.bipush 7, 2) := by decide +kernel
theorem dX2_stepAt_3 : decode cX2_stepAt 3 = .ok (.invokestatic 257, 3) := by decide +kernel
theorem dX2_stepAt_6 : decode cX2_stepAt 6 = .ok (.ireturn, 1) := by decide +kernel
theorem dX2_octaveAt_0 : decode cX2_octaveAt 0 = .ok (.iload_n 0, 1) := by decide +kernel
theorem dX2_octaveAt_1 : decode cX2_octaveAt 1 = .ok (.bipush 7, 2) := by decide +kernel
theorem dX2_octaveAt_3 : decode cX2_octaveAt 3 = .ok (.invokestatic 260, 3) := by decide +kernel
theorem dX2_octaveAt_6 : decode cX2_octaveAt 6 = .ok (.ireturn, 1) := by decide +kernel
theorem dX2_signAt_0 : decode cX2_signAt 0 = .ok (.iload_n 1, 1) := by decide +kernel
theorem dX2_signAt_1 : decode cX2_signAt 1 = .ok (.iload_n 0, 1) := by decide +kernel
theorem dX2_signAt_2 : decode cX2_signAt 2 = .ok (.invokestatic 263, 3) := by decide +kernel
theorem dX2_signAt_5 : decode cX2_signAt 5 = .ok (.iconst 0, 1) := by decide +kernel
theorem dX2_signAt_6 : decode cX2_signAt 6 = .ok (.iload_n 0, 1) := by decide +kernel
theorem dX2_signAt_7 : decode cX2_signAt 7 = .ok (.invokestatic 266, 3) := by decide +kernel
theorem dX2_signAt_10 : decode cX2_signAt 10 = .ok (.invokestatic 269, 3) := by decide +kernel
theorem dX2_signAt_13 : decode cX2_signAt 13 = .ok (.isub, 1) := by decide +kernel
theorem dX2_signAt_14 : decode cX2_signAt 14 = .ok (.ireturn, 1) := by decide +kernel
theorem dX2_isPitch_0 : decode cX2_isPitch 0 = .ok (.iload_n 0, 1) := by decide +kernel
theorem dX2_isPitch_1 : decode cX2_isPitch 1 = .ok (.ifCond .lt 19, 3) := by decide +kernel
theorem dX2_isPitch_4 : decode cX2_isPitch 4 = .ok (.iload_n 0, 1) := by decide +kernel
theorem dX2_isPitch_5 : decode cX2_isPitch 5 = .ok (.bipush 7, 2) := by decide +kernel
theorem dX2_isPitch_7 : decode cX2_isPitch 7 = .ok (.if_icmp .ge 13, 3) := by decide +kernel
theorem dX2_isPitch_10 : decode cX2_isPitch 10 = .ok (.iload_n 2, 1) := by decide +kernel
theorem dX2_isPitch_11 : decode cX2_isPitch 11 = .ok (.ifCond .lt 9, 3) := by decide +kernel
theorem dX2_isPitch_14 : decode cX2_isPitch 14 = .ok (.iload_n 2, 1) := by decide +kernel
theorem dX2_isPitch_15 : decode cX2_isPitch 15 = .ok (.bipush 9, 2) := by decide +kernel
theorem dX2_isPitch_17 : decode cX2_isPitch 17 = .ok (.if_icmp .lt 5, 3) := by decide +kernel
theorem dX2_isPitch_20 : decode cX2_isPitch 20 = .ok (.iconst 0, 1) := by decide +kernel
theorem dX2_isPitch_21 : decode cX2_isPitch 21 = .ok (.ireturn, 1) := by decide +kernel
theorem dX2_isPitch_22 : decode cX2_isPitch 22 = .ok (.iload_n 1, 1) := by decide +kernel
theorem dX2_isPitch_23 : decode cX2_isPitch 23 = .ok (.bipush (-2), 2) := by decide +kernel
theorem dX2_isPitch_25 : decode cX2_isPitch 25 = .ok (.if_icmp .lt 21, 3) := by decide +kernel
theorem dX2_isPitch_28 : decode cX2_isPitch 28 = .ok (.iload_n 1, 1) := by decide +kernel
theorem dX2_isPitch_29 : decode cX2_isPitch 29 = .ok (.iconst 2, 1) := by decide +kernel
theorem dX2_isPitch_30 : decode cX2_isPitch 30 = .ok (.if_icmp .gt 16, 3) := by decide +kernel
theorem dX2_isPitch_33 : decode cX2_isPitch 33 = .ok (.iload_n 0, 1) := by decide +kernel
theorem dX2_isPitch_34 : decode cX2_isPitch 34 = .ok (.iload_n 1, 1) := by decide +kernel
theorem dX2_isPitch_35 : decode cX2_isPitch 35 = .ok (.iload_n 2, 1) := by decide +kernel
theorem dX2_isPitch_36 : decode cX2_isPitch 36 = .ok (.invokestatic 269, 3) := by decide +kernel
theorem dX2_isPitch_39 : decode cX2_isPitch 39 = .ok (.ifCond .lt 7, 3) := by decide +kernel
theorem dX2_isPitch_42 : decode cX2_isPitch 42 = .ok (.iconst 1, 1) := by decide +kernel
theorem dX2_isPitch_43 : decode cX2_isPitch 43 = .ok (.goto 4, 3) := by decide +kernel
theorem dX2_isPitch_46 : decode cX2_isPitch 46 = .ok (.iconst 0, 1) := by decide +kernel
theorem dX2_isPitch_47 : decode cX2_isPitch 47 = .ok (.ireturn, 1) := by decide +kernel
theorem dX2_countParallels_0 : decode cX2_countParallels 0 = .ok (.iconst 0, 1) := by decide +kernel
theorem dX2_countParallels_1 : decode cX2_countParallels 1 = .ok (.istore_n 2, 1) := by decide +kernel
theorem dX2_countParallels_2 : decode cX2_countParallels 2 = .ok (.iconst (-1), 1) := by decide +kernel
theorem dX2_countParallels_3 : decode cX2_countParallels 3 = .ok (.istore_n 3, 1) := by decide +kernel
theorem dX2_countParallels_4 : decode cX2_countParallels 4 = .ok (.iconst (-1), 1) := by decide +kernel
theorem dX2_countParallels_5 : decode cX2_countParallels 5 = .ok (.istore 4, 2) := by decide +kernel
theorem dX2_countParallels_7 : decode cX2_countParallels 7 = .ok (.iconst 0, 1) := by decide +kernel
theorem dX2_countParallels_8 : decode cX2_countParallels 8 = .ok (.istore 5, 2) := by decide +kernel
theorem dX2_countParallels_10 : decode cX2_countParallels 10 = .ok (.iconst 0, 1) := by decide +kernel
theorem dX2_countParallels_11 : decode cX2_countParallels 11 = .ok (.istore 6, 2) := by decide +kernel
theorem dX2_countParallels_13 : decode cX2_countParallels 13 = .ok (.iload 6, 2) := by decide +kernel
theorem dX2_countParallels_15 : decode cX2_countParallels 15 = .ok (.aload_n 0, 1) := by decide +kernel
theorem dX2_countParallels_16 : decode cX2_countParallels 16 = .ok (.getfield 103, 3) := by decide +kernel
theorem dX2_countParallels_19 : decode cX2_countParallels 19 = .ok (.if_icmp .ge 152, 3) := by decide +kernel
theorem dX2_countParallels_22 : decode cX2_countParallels 22 = .ok (.aload_n 0, 1) := by decide +kernel
theorem dX2_countParallels_23 : decode cX2_countParallels 23 = .ok (.getfield 114, 3) := by decide +kernel
theorem dX2_countParallels_26 : decode cX2_countParallels 26 = .ok (.iconst 0, 1) := by decide +kernel
theorem dX2_countParallels_27 : decode cX2_countParallels 27 = .ok (.aaload, 1) := by decide +kernel
theorem dX2_countParallels_28 : decode cX2_countParallels 28 = .ok (.iload 6, 2) := by decide +kernel
theorem dX2_countParallels_30 : decode cX2_countParallels 30 = .ok (.iaload, 1) := by decide +kernel
theorem dX2_countParallels_31 : decode cX2_countParallels 31 = .ok (.istore 7, 2) := by decide +kernel
theorem dX2_countParallels_33 : decode cX2_countParallels 33 = .ok (.iload 5, 2) := by decide +kernel
theorem dX2_countParallels_35 : decode cX2_countParallels 35 = .ok (.aload_n 1, 1) := by decide +kernel
theorem dX2_countParallels_36 : decode cX2_countParallels 36 = .ok (.getfield 103, 3) := by decide +kernel
theorem dX2_countParallels_39 : decode cX2_countParallels 39 = .ok (.if_icmp .ge 23, 3) := by decide +kernel
theorem dX2_countParallels_42 : decode cX2_countParallels 42 = .ok (.aload_n 1, 1) := by decide +kernel
theorem dX2_countParallels_43 : decode cX2_countParallels 43 = .ok (.getfield 114, 3) := by decide +kernel
theorem dX2_countParallels_46 : decode cX2_countParallels 46 = .ok (.iconst 0, 1) := by decide +kernel
theorem dX2_countParallels_47 : decode cX2_countParallels 47 = .ok (.aaload, 1) := by decide +kernel
theorem dX2_countParallels_48 : decode cX2_countParallels 48 = .ok (.iload 5, 2) := by decide +kernel
theorem dX2_countParallels_50 : decode cX2_countParallels 50 = .ok (.iaload, 1) := by decide +kernel
theorem dX2_countParallels_51 : decode cX2_countParallels 51 = .ok (.iload 7, 2) := by decide +kernel
theorem dX2_countParallels_53 : decode cX2_countParallels 53 = .ok (.if_icmp .ge 9, 3) := by decide +kernel
theorem dX2_countParallels_56 : decode cX2_countParallels 56 = .ok (.iinc 5 1, 3) := by decide +kernel
theorem dX2_countParallels_59 : decode cX2_countParallels 59 = .ok (.goto (-26), 3) := by decide +kernel
theorem dX2_countParallels_62 : decode cX2_countParallels 62 = .ok (.iload 5, 2) := by decide +kernel
theorem dX2_countParallels_64 : decode cX2_countParallels 64 = .ok (.aload_n 1, 1) := by decide +kernel
theorem dX2_countParallels_65 : decode cX2_countParallels 65 = .ok (.getfield 103, 3) := by decide +kernel
theorem dX2_countParallels_68 : decode cX2_countParallels 68 = .ok (.if_icmp .ge 21, 3) := by decide +kernel
theorem dX2_countParallels_71 : decode cX2_countParallels 71 = .ok (.aload_n 1, 1) := by decide +kernel
theorem dX2_countParallels_72 : decode cX2_countParallels 72 = .ok (.getfield 114, 3) := by decide +kernel
theorem dX2_countParallels_75 : decode cX2_countParallels 75 = .ok (.iconst 0, 1) := by decide +kernel
theorem dX2_countParallels_76 : decode cX2_countParallels 76 = .ok (.aaload, 1) := by decide +kernel
theorem dX2_countParallels_77 : decode cX2_countParallels 77 = .ok (.iload 5, 2) := by decide +kernel
theorem dX2_countParallels_79 : decode cX2_countParallels 79 = .ok (.iaload, 1) := by decide +kernel
theorem dX2_countParallels_80 : decode cX2_countParallels 80 = .ok (.iload 7, 2) := by decide +kernel
theorem dX2_countParallels_82 : decode cX2_countParallels 82 = .ok (.if_icmp .ne 7, 3) := by decide +kernel
theorem dX2_countParallels_85 : decode cX2_countParallels 85 = .ok (.iconst 1, 1) := by decide +kernel
theorem dX2_countParallels_86 : decode cX2_countParallels 86 = .ok (.goto 4, 3) := by decide +kernel
theorem dX2_countParallels_89 : decode cX2_countParallels 89 = .ok (.iconst 0, 1) := by decide +kernel
theorem dX2_countParallels_90 : decode cX2_countParallels 90 = .ok (.istore 8, 2) := by decide +kernel
theorem dX2_countParallels_92 : decode cX2_countParallels 92 = .ok (.iload 8, 2) := by decide +kernel
theorem dX2_countParallels_94 : decode cX2_countParallels 94 = .ok (.ifCond .eq 71, 3) := by decide +kernel
theorem dX2_countParallels_97 : decode cX2_countParallels 97 = .ok (.aload_n 0, 1) := by decide +kernel
theorem dX2_countParallels_98 : decode cX2_countParallels 98 = .ok (.iload 6, 2) := by decide +kernel
theorem dX2_countParallels_100 : decode cX2_countParallels 100 = .ok (.invokevirtual 131, 3) := by decide +kernel
theorem dX2_countParallels_103 : decode cX2_countParallels 103 = .ok (.ifCond .eq 62, 3) := by decide +kernel
theorem dX2_countParallels_106 : decode cX2_countParallels 106 = .ok (.aload_n 1, 1) := by decide +kernel
theorem dX2_countParallels_107 : decode cX2_countParallels 107 = .ok (.iload 5, 2) := by decide +kernel
theorem dX2_countParallels_109 : decode cX2_countParallels 109 = .ok (.invokevirtual 131, 3) := by decide +kernel
theorem dX2_countParallels_112 : decode cX2_countParallels 112 = .ok (.ifCond .eq 53, 3) := by decide +kernel
theorem dX2_countParallels_115 : decode cX2_countParallels 115 = .ok (.aload_n 0, 1) := by decide +kernel
theorem dX2_countParallels_116 : decode cX2_countParallels 116 = .ok (.getfield 114, 3) := by decide +kernel
theorem dX2_countParallels_119 : decode cX2_countParallels 119 = .ok (.iconst 4, 1) := by decide +kernel
theorem dX2_countParallels_120 : decode cX2_countParallels 120 = .ok (.aaload, 1) := by decide +kernel
theorem dX2_countParallels_121 : decode cX2_countParallels 121 = .ok (.iload 6, 2) := by decide +kernel
theorem dX2_countParallels_123 : decode cX2_countParallels 123 = .ok (.iaload, 1) := by decide +kernel
theorem dX2_countParallels_124 : decode cX2_countParallels 124 = .ok (.istore 9, 2) := by decide +kernel
theorem dX2_countParallels_126 : decode cX2_countParallels 126 = .ok (.aload_n 1, 1) := by decide +kernel
theorem dX2_countParallels_127 : decode cX2_countParallels 127 = .ok (.getfield 114, 3) := by decide +kernel
theorem dX2_countParallels_130 : decode cX2_countParallels 130 = .ok (.iconst 4, 1) := by decide +kernel
theorem dX2_countParallels_131 : decode cX2_countParallels 131 = .ok (.aaload, 1) := by decide +kernel
theorem dX2_countParallels_132 : decode cX2_countParallels 132 = .ok (.iload 5, 2) := by decide +kernel
theorem dX2_countParallels_134 : decode cX2_countParallels 134 = .ok (.iaload, 1) := by decide +kernel
theorem dX2_countParallels_135 : decode cX2_countParallels 135 = .ok (.istore 10, 2) := by decide +kernel
theorem dX2_countParallels_137 : decode cX2_countParallels 137 = .ok (.iload_n 3, 1) := by decide +kernel
theorem dX2_countParallels_138 : decode cX2_countParallels 138 = .ok (.iconst (-1), 1) := by decide +kernel
theorem dX2_countParallels_139 : decode cX2_countParallels 139 = .ok (.if_icmp .eq 19, 3) := by decide +kernel
theorem dX2_countParallels_142 : decode cX2_countParallels 142 = .ok (.iload_n 3, 1) := by decide +kernel
theorem dX2_countParallels_143 : decode cX2_countParallels 143 = .ok (.iload 4, 2) := by decide +kernel
theorem dX2_countParallels_145 : decode cX2_countParallels 145 = .ok (.iload 9, 2) := by decide +kernel
theorem dX2_countParallels_147 : decode cX2_countParallels 147 = .ok (.iload 10, 2) := by decide +kernel
theorem dX2_countParallels_149 : decode cX2_countParallels 149 = .ok (.invokestatic 273, 3) := by decide +kernel
theorem dX2_countParallels_152 : decode cX2_countParallels 152 = .ok (.ifCond .eq 6, 3) := by decide +kernel
theorem dX2_countParallels_155 : decode cX2_countParallels 155 = .ok (.iinc 2 1, 3) := by decide +kernel
theorem dX2_countParallels_158 : decode cX2_countParallels 158 = .ok (.iload 9, 2) := by decide +kernel
theorem dX2_countParallels_160 : decode cX2_countParallels 160 = .ok (.istore_n 3, 1) := by decide +kernel
theorem dX2_countParallels_161 : decode cX2_countParallels 161 = .ok (.iload 10, 2) := by decide +kernel
theorem dX2_countParallels_163 : decode cX2_countParallels 163 = .ok (.istore 4, 2) := by decide +kernel
theorem dX2_countParallels_165 : decode cX2_countParallels 165 = .ok (.iinc 6 1, 3) := by decide +kernel
theorem dX2_countParallels_168 : decode cX2_countParallels 168 = .ok (.goto (-155), 3) := by decide +kernel
theorem dX2_countParallels_171 : decode cX2_countParallels 171 = .ok (.iload_n 2, 1) := by decide +kernel
theorem dX2_countParallels_172 : decode cX2_countParallels 172 = .ok (.ireturn, 1) := by decide +kernel
theorem dX2_isParallel_0 : decode cX2_isParallel 0 = .ok (.iload_n 3, 1) := by decide +kernel
theorem dX2_isParallel_1 : decode cX2_isParallel 1 = .ok (.iload_n 2, 1) := by decide +kernel
theorem dX2_isParallel_2 : decode cX2_isParallel 2 = .ok (.isub, 1) := by decide +kernel
theorem dX2_isParallel_3 : decode cX2_isParallel 3 = .ok (.bipush 12, 2) := by decide +kernel
theorem dX2_isParallel_5 : decode cX2_isParallel 5 = .ok (.invokestatic 257, 3) := by decide +kernel
theorem dX2_isParallel_8 : decode cX2_isParallel 8 = .ok (.istore 4, 2) := by decide +kernel
theorem dX2_isParallel_10 : decode cX2_isParallel 10 = .ok (.iload 4, 2) := by decide +kernel
theorem dX2_isParallel_12 : decode cX2_isParallel 12 = .ok (.ifCond .eq 12, 3) := by decide +kernel
theorem dX2_isParallel_15 : decode cX2_isParallel 15 = .ok (.iload 4, 2) := by decide +kernel
theorem dX2_isParallel_17 : decode cX2_isParallel 17 = .ok (.bipush 7, 2) := by decide +kernel
theorem dX2_isParallel_19 : decode cX2_isParallel 19 = .ok (.if_icmp .eq 5, 3) := by decide +kernel
theorem dX2_isParallel_22 : decode cX2_isParallel 22 = .ok (.iconst 0, 1) := by decide +kernel
theorem dX2_isParallel_23 : decode cX2_isParallel 23 = .ok (.ireturn, 1) := by decide +kernel
theorem dX2_isParallel_24 : decode cX2_isParallel 24 = .ok (.iload 4, 2) := by decide +kernel
theorem dX2_isParallel_26 : decode cX2_isParallel 26 = .ok (.iload_n 1, 1) := by decide +kernel
theorem dX2_isParallel_27 : decode cX2_isParallel 27 = .ok (.iload_n 0, 1) := by decide +kernel
theorem dX2_isParallel_28 : decode cX2_isParallel 28 = .ok (.isub, 1) := by decide +kernel
theorem dX2_isParallel_29 : decode cX2_isParallel 29 = .ok (.bipush 12, 2) := by decide +kernel
theorem dX2_isParallel_31 : decode cX2_isParallel 31 = .ok (.invokestatic 257, 3) := by decide +kernel
theorem dX2_isParallel_34 : decode cX2_isParallel 34 = .ok (.if_icmp .eq 5, 3) := by decide +kernel
theorem dX2_isParallel_37 : decode cX2_isParallel 37 = .ok (.iconst 0, 1) := by decide +kernel
theorem dX2_isParallel_38 : decode cX2_isParallel 38 = .ok (.ireturn, 1) := by decide +kernel
theorem dX2_isParallel_39 : decode cX2_isParallel 39 = .ok (.iload_n 2, 1) := by decide +kernel
theorem dX2_isParallel_40 : decode cX2_isParallel 40 = .ok (.iload_n 0, 1) := by decide +kernel
theorem dX2_isParallel_41 : decode cX2_isParallel 41 = .ok (.if_icmp .le 12, 3) := by decide +kernel
theorem dX2_isParallel_44 : decode cX2_isParallel 44 = .ok (.iload_n 3, 1) := by decide +kernel
theorem dX2_isParallel_45 : decode cX2_isParallel 45 = .ok (.iload_n 1, 1) := by decide +kernel
theorem dX2_isParallel_46 : decode cX2_isParallel 46 = .ok (.if_icmp .le 7, 3) := by decide +kernel
theorem dX2_isParallel_49 : decode cX2_isParallel 49 = .ok (.iconst 1, 1) := by decide +kernel
theorem dX2_isParallel_50 : decode cX2_isParallel 50 = .ok (.goto 4, 3) := by decide +kernel
theorem dX2_isParallel_53 : decode cX2_isParallel 53 = .ok (.iconst 0, 1) := by decide +kernel
theorem dX2_isParallel_54 : decode cX2_isParallel 54 = .ok (.istore 5, 2) := by decide +kernel
theorem dX2_isParallel_56 : decode cX2_isParallel 56 = .ok (.iload_n 2, 1) := by decide +kernel
theorem dX2_isParallel_57 : decode cX2_isParallel 57 = .ok (.iload_n 0, 1) := by decide +kernel
theorem dX2_isParallel_58 : decode cX2_isParallel 58 = .ok (.if_icmp .ge 12, 3) := by decide +kernel
theorem dX2_isParallel_61 : decode cX2_isParallel 61 = .ok (.iload_n 3, 1) := by decide +kernel
theorem dX2_isParallel_62 : decode cX2_isParallel 62 = .ok (.iload_n 1, 1) := by decide +kernel
theorem dX2_isParallel_63 : decode cX2_isParallel 63 = .ok (.if_icmp .ge 7, 3) := by decide +kernel
theorem dX2_isParallel_66 : decode cX2_isParallel 66 = .ok (.iconst 1, 1) := by decide +kernel
theorem dX2_isParallel_67 : decode cX2_isParallel 67 = .ok (.goto 4, 3) := by decide +kernel
theorem dX2_isParallel_70 : decode cX2_isParallel 70 = .ok (.iconst 0, 1) := by decide +kernel
theorem dX2_isParallel_71 : decode cX2_isParallel 71 = .ok (.istore 6, 2) := by decide +kernel
theorem dX2_isParallel_73 : decode cX2_isParallel 73 = .ok (.iload 5, 2) := by decide +kernel
theorem dX2_isParallel_75 : decode cX2_isParallel 75 = .ok (.ifCond .ne 8, 3) := by decide +kernel
theorem dX2_isParallel_78 : decode cX2_isParallel 78 = .ok (.iload 6, 2) := by decide +kernel
theorem dX2_isParallel_80 : decode cX2_isParallel 80 = .ok (.ifCond .eq 7, 3) := by decide +kernel
theorem dX2_isParallel_83 : decode cX2_isParallel 83 = .ok (.iconst 1, 1) := by decide +kernel
theorem dX2_isParallel_84 : decode cX2_isParallel 84 = .ok (.goto 4, 3) := by decide +kernel
theorem dX2_isParallel_87 : decode cX2_isParallel 87 = .ok (.iconst 0, 1) := by decide +kernel
theorem dX2_isParallel_88 : decode cX2_isParallel 88 = .ok (.ireturn, 1) := by decide +kernel
theorem dX2_countEvents_0 : decode cX2_countEvents 0 = .ok (.iconst 0, 1) := by decide +kernel
theorem dX2_countEvents_1 : decode cX2_countEvents 1 = .ok (.istore_n 1, 1) := by decide +kernel
theorem dX2_countEvents_2 : decode cX2_countEvents 2 = .ok (.iconst 0, 1) := by decide +kernel
theorem dX2_countEvents_3 : decode cX2_countEvents 3 = .ok (.istore_n 2, 1) := by decide +kernel
theorem dX2_countEvents_4 : decode cX2_countEvents 4 = .ok (.iload_n 2, 1) := by decide +kernel
theorem dX2_countEvents_5 : decode cX2_countEvents 5 = .ok (.aload_n 0, 1) := by decide +kernel
theorem dX2_countEvents_6 : decode cX2_countEvents 6 = .ok (.getfield 26, 3) := by decide +kernel
theorem dX2_countEvents_9 : decode cX2_countEvents 9 = .ok (.if_icmp .ge 21, 3) := by decide +kernel
theorem dX2_countEvents_12 : decode cX2_countEvents 12 = .ok (.iload_n 1, 1) := by decide +kernel
theorem dX2_countEvents_13 : decode cX2_countEvents 13 = .ok (.aload_n 0, 1) := by decide +kernel
theorem dX2_countEvents_14 : decode cX2_countEvents 14 = .ok (.getfield 11, 3) := by decide +kernel
theorem dX2_countEvents_17 : decode cX2_countEvents 17 = .ok (.iload_n 2, 1) := by decide +kernel
theorem dX2_countEvents_18 : decode cX2_countEvents 18 = .ok (.aaload, 1) := by decide +kernel
theorem dX2_countEvents_19 : decode cX2_countEvents 19 = .ok (.getfield 277, 3) := by decide +kernel
theorem dX2_countEvents_22 : decode cX2_countEvents 22 = .ok (.iadd, 1) := by decide +kernel
theorem dX2_countEvents_23 : decode cX2_countEvents 23 = .ok (.istore_n 1, 1) := by decide +kernel
theorem dX2_countEvents_24 : decode cX2_countEvents 24 = .ok (.iinc 2 1, 3) := by decide +kernel
theorem dX2_countEvents_27 : decode cX2_countEvents 27 = .ok (.goto (-23), 3) := by decide +kernel
theorem dX2_countEvents_30 : decode cX2_countEvents 30 = .ok (.iconst 2, 1) := by decide +kernel
theorem dX2_countEvents_31 : decode cX2_countEvents 31 = .ok (.iload_n 1, 1) := by decide +kernel
theorem dX2_countEvents_32 : decode cX2_countEvents 32 = .ok (.imul, 1) := by decide +kernel
theorem dX2_countEvents_33 : decode cX2_countEvents 33 = .ok (.ireturn, 1) := by decide +kernel
theorem dX2_refreshEvents_0 : decode cX2_refreshEvents 0 = .ok (.aload_n 0, 1) := by decide +kernel
theorem dX2_refreshEvents_1 : decode cX2_refreshEvents 1 = .ok (.getfield 39, 3) := by decide +kernel
theorem dX2_refreshEvents_4 : decode cX2_refreshEvents 4 = .ok (.ifCond .ne 27, 3) := by decide +kernel
theorem dX2_refreshEvents_7 : decode cX2_refreshEvents 7 = .ok (.aload_n 0, 1) := by decide +kernel
theorem dX2_refreshEvents_8 : decode cX2_refreshEvents 8 = .ok (.getfield 18, 3) := by decide +kernel
theorem dX2_refreshEvents_11 : decode cX2_refreshEvents 11 = .ok (.aload_n 0, 1) := by decide +kernel
theorem dX2_refreshEvents_12 : decode cX2_refreshEvents 12 = .ok (.getfield 11, 3) := by decide +kernel
theorem dX2_refreshEvents_15 : decode cX2_refreshEvents 15 = .ok (.aload_n 0, 1) := by decide +kernel
theorem dX2_refreshEvents_16 : decode cX2_refreshEvents 16 = .ok (.getfield 26, 3) := by decide +kernel
theorem dX2_refreshEvents_19 : decode cX2_refreshEvents 19 = .ok (.aload_n 0, 1) := by decide +kernel
theorem dX2_refreshEvents_20 : decode cX2_refreshEvents 20 = .ok (.invokevirtual 183, 3) := by decide +kernel
theorem dX2_refreshEvents_23 : decode cX2_refreshEvents 23 = .ok (.invokevirtual 280, 3) := by decide +kernel
theorem dX2_refreshEvents_26 : decode cX2_refreshEvents 26 = .ok (.aload_n 0, 1) := by decide +kernel
theorem dX2_refreshEvents_27 : decode cX2_refreshEvents 27 = .ok (.iconst 1, 1) := by decide +kernel
theorem dX2_refreshEvents_28 : decode cX2_refreshEvents 28 = .ok (.putfield 39, 3) := by decide +kernel
theorem dX2_refreshEvents_31 : decode cX2_refreshEvents 31 = .ok (.return_, 1) := by decide +kernel
theorem dX2_digestVoice_0 : decode cX2_digestVoice 0 = .ok (.lload_n 0, 1) := by decide +kernel
theorem dX2_digestVoice_1 : decode cX2_digestVoice 1 = .ok (.lstore_n 3, 1) := by decide +kernel
theorem dX2_digestVoice_2 : decode cX2_digestVoice 2 = .ok (.iconst 0, 1) := by decide +kernel
theorem dX2_digestVoice_3 : decode cX2_digestVoice 3 = .ok (.istore 5, 2) := by decide +kernel
theorem dX2_digestVoice_5 : decode cX2_digestVoice 5 = .ok (.iload 5, 2) := by decide +kernel
theorem dX2_digestVoice_7 : decode cX2_digestVoice 7 = .ok (.bipush 7, 2) := by decide +kernel
theorem dX2_digestVoice_9 : decode cX2_digestVoice 9 = .ok (.if_icmp .ge 23, 3) := by decide +kernel
theorem dX2_digestVoice_12 : decode cX2_digestVoice 12 = .ok (.lload_n 3, 1) := by decide +kernel
theorem dX2_digestVoice_13 : decode cX2_digestVoice 13 = .ok (.ldc2_w 201, 3) := by decide +kernel
theorem dX2_digestVoice_16 : decode cX2_digestVoice 16 = .ok (.lmul, 1) := by decide +kernel
theorem dX2_digestVoice_17 : decode cX2_digestVoice 17 = .ok (.aload_n 2, 1) := by decide +kernel
theorem dX2_digestVoice_18 : decode cX2_digestVoice 18 = .ok (.iload 5, 2) := by decide +kernel
theorem dX2_digestVoice_20 : decode cX2_digestVoice 20 = .ok (.invokevirtual 148, 3) := by decide +kernel
theorem dX2_digestVoice_23 : decode cX2_digestVoice 23 = .ok (.i2l, 1) := by decide +kernel
theorem dX2_digestVoice_24 : decode cX2_digestVoice 24 = .ok (.ladd, 1) := by decide +kernel
theorem dX2_digestVoice_25 : decode cX2_digestVoice 25 = .ok (.lstore_n 3, 1) := by decide +kernel
theorem dX2_digestVoice_26 : decode cX2_digestVoice 26 = .ok (.iinc 5 1, 3) := by decide +kernel
theorem dX2_digestVoice_29 : decode cX2_digestVoice 29 = .ok (.goto (-24), 3) := by decide +kernel
theorem dX2_digestVoice_32 : decode cX2_digestVoice 32 = .ok (.iconst 0, 1) := by decide +kernel
theorem dX2_digestVoice_33 : decode cX2_digestVoice 33 = .ok (.istore 5, 2) := by decide +kernel
theorem dX2_digestVoice_35 : decode cX2_digestVoice 35 = .ok (.iload 5, 2) := by decide +kernel
theorem dX2_digestVoice_37 : decode cX2_digestVoice 37 = .ok (.aload_n 2, 1) := by decide +kernel
theorem dX2_digestVoice_38 : decode cX2_digestVoice 38 = .ok (.getfield 103, 3) := by decide +kernel
theorem dX2_digestVoice_41 : decode cX2_digestVoice 41 = .ok (.if_icmp .ge 43, 3) := by decide +kernel
theorem dX2_digestVoice_44 : decode cX2_digestVoice 44 = .ok (.iconst 0, 1) := by decide +kernel
theorem dX2_digestVoice_45 : decode cX2_digestVoice 45 = .ok (.istore 6, 2) := by decide +kernel
theorem dX2_digestVoice_47 : decode cX2_digestVoice 47 = .ok (.iload 6, 2) := by decide +kernel
theorem dX2_digestVoice_49 : decode cX2_digestVoice 49 = .ok (.bipush 9, 2) := by decide +kernel
theorem dX2_digestVoice_51 : decode cX2_digestVoice 51 = .ok (.if_icmp .ge 27, 3) := by decide +kernel
theorem dX2_digestVoice_54 : decode cX2_digestVoice 54 = .ok (.lload_n 3, 1) := by decide +kernel
theorem dX2_digestVoice_55 : decode cX2_digestVoice 55 = .ok (.ldc2_w 201, 3) := by decide +kernel
theorem dX2_digestVoice_58 : decode cX2_digestVoice 58 = .ok (.lmul, 1) := by decide +kernel
theorem dX2_digestVoice_59 : decode cX2_digestVoice 59 = .ok (.aload_n 2, 1) := by decide +kernel
theorem dX2_digestVoice_60 : decode cX2_digestVoice 60 = .ok (.getfield 114, 3) := by decide +kernel
theorem dX2_digestVoice_63 : decode cX2_digestVoice 63 = .ok (.iload 6, 2) := by decide +kernel
theorem dX2_digestVoice_65 : decode cX2_digestVoice 65 = .ok (.aaload, 1) := by decide +kernel
theorem dX2_digestVoice_66 : decode cX2_digestVoice 66 = .ok (.iload 5, 2) := by decide +kernel
theorem dX2_digestVoice_68 : decode cX2_digestVoice 68 = .ok (.iaload, 1) := by decide +kernel
theorem dX2_digestVoice_69 : decode cX2_digestVoice 69 = .ok (.i2l, 1) := by decide +kernel
theorem dX2_digestVoice_70 : decode cX2_digestVoice 70 = .ok (.ladd, 1) := by decide +kernel
theorem dX2_digestVoice_71 : decode cX2_digestVoice 71 = .ok (.lstore_n 3, 1) := by decide +kernel
theorem dX2_digestVoice_72 : decode cX2_digestVoice 72 = .ok (.iinc 6 1, 3) := by decide +kernel
theorem dX2_digestVoice_75 : decode cX2_digestVoice 75 = .ok (.goto (-28), 3) := by decide +kernel
theorem dX2_digestVoice_78 : decode cX2_digestVoice 78 = .ok (.iinc 5 1, 3) := by decide +kernel
theorem dX2_digestVoice_81 : decode cX2_digestVoice 81 = .ok (.goto (-46), 3) := by decide +kernel
theorem dX2_digestVoice_84 : decode cX2_digestVoice 84 = .ok (.lload_n 3, 1) := by decide +kernel
theorem dX2_digestVoice_85 : decode cX2_digestVoice 85 = .ok (.lreturn, 1) := by decide +kernel
theorem dX2_digestEvents_0 : decode cX2_digestEvents 0 = .ok (.aload_n 0, 1) := by decide +kernel
theorem dX2_digestEvents_1 : decode cX2_digestEvents 1 = .ok (.invokevirtual 190, 3) := by decide +kernel
theorem dX2_digestEvents_4 : decode cX2_digestEvents 4 = .ok (.lload_n 1, 1) := by decide +kernel
theorem dX2_digestEvents_5 : decode cX2_digestEvents 5 = .ok (.lstore_n 3, 1) := by decide +kernel
theorem dX2_digestEvents_6 : decode cX2_digestEvents 6 = .ok (.aload_n 0, 1) := by decide +kernel
theorem dX2_digestEvents_7 : decode cX2_digestEvents 7 = .ok (.invokevirtual 183, 3) := by decide +kernel
theorem dX2_digestEvents_10 : decode cX2_digestEvents 10 = .ok (.istore 5, 2) := by decide +kernel
theorem dX2_digestEvents_12 : decode cX2_digestEvents 12 = .ok (.iconst 0, 1) := by decide +kernel
theorem dX2_digestEvents_13 : decode cX2_digestEvents 13 = .ok (.istore 6, 2) := by decide +kernel
theorem dX2_digestEvents_15 : decode cX2_digestEvents 15 = .ok (.iload 6, 2) := by decide +kernel
theorem dX2_digestEvents_17 : decode cX2_digestEvents 17 = .ok (.iload 5, 2) := by decide +kernel
theorem dX2_digestEvents_19 : decode cX2_digestEvents 19 = .ok (.if_icmp .ge 45, 3) := by decide +kernel
theorem dX2_digestEvents_22 : decode cX2_digestEvents 22 = .ok (.iconst 0, 1) := by decide +kernel
theorem dX2_digestEvents_23 : decode cX2_digestEvents 23 = .ok (.istore 7, 2) := by decide +kernel
theorem dX2_digestEvents_25 : decode cX2_digestEvents 25 = .ok (.iload 7, 2) := by decide +kernel
theorem dX2_digestEvents_27 : decode cX2_digestEvents 27 = .ok (.iconst 4, 1) := by decide +kernel
theorem dX2_digestEvents_28 : decode cX2_digestEvents 28 = .ok (.if_icmp .ge 30, 3) := by decide +kernel
theorem dX2_digestEvents_31 : decode cX2_digestEvents 31 = .ok (.lload_n 3, 1) := by decide +kernel
theorem dX2_digestEvents_32 : decode cX2_digestEvents 32 = .ok (.ldc2_w 201, 3) := by decide +kernel
theorem dX2_digestEvents_35 : decode cX2_digestEvents 35 = .ok (.lmul, 1) := by decide +kernel
theorem dX2_digestEvents_36 : decode cX2_digestEvents 36 = .ok (.aload_n 0, 1) := by decide +kernel
theorem dX2_digestEvents_37 : decode cX2_digestEvents 37 = .ok (.getfield 18, 3) := by decide +kernel
theorem dX2_digestEvents_40 : decode cX2_digestEvents 40 = .ok (.getfield 193, 3) := by decide +kernel
theorem dX2_digestEvents_43 : decode cX2_digestEvents 43 = .ok (.iload 7, 2) := by decide +kernel
theorem dX2_digestEvents_45 : decode cX2_digestEvents 45 = .ok (.aaload, 1) := by decide +kernel
theorem dX2_digestEvents_46 : decode cX2_digestEvents 46 = .ok (.iload 6, 2) := by decide +kernel
theorem dX2_digestEvents_48 : decode cX2_digestEvents 48 = .ok (.iaload, 1) := by decide +kernel
theorem dX2_digestEvents_49 : decode cX2_digestEvents 49 = .ok (.i2l, 1) := by decide +kernel
theorem dX2_digestEvents_50 : decode cX2_digestEvents 50 = .ok (.ladd, 1) := by decide +kernel
theorem dX2_digestEvents_51 : decode cX2_digestEvents 51 = .ok (.lstore_n 3, 1) := by decide +kernel
theorem dX2_digestEvents_52 : decode cX2_digestEvents 52 = .ok (.iinc 7 1, 3) := by decide +kernel
theorem dX2_digestEvents_55 : decode cX2_digestEvents 55 = .ok (.goto (-30), 3) := by decide +kernel
theorem dX2_digestEvents_58 : decode cX2_digestEvents 58 = .ok (.iinc 6 1, 3) := by decide +kernel
theorem dX2_digestEvents_61 : decode cX2_digestEvents 61 = .ok (.goto (-46), 3) := by decide +kernel
theorem dX2_digestEvents_64 : decode cX2_digestEvents 64 = .ok (.lload_n 3, 1) := by decide +kernel
theorem dX2_digestEvents_65 : decode cX2_digestEvents 65 = .ok (.lreturn, 1) := by decide +kernel
theorem dX3_init_0 : decode cX3_init 0 = .ok (.aload_n 0, 1) := by decide +kernel
theorem dX3_init_1 : decode cX3_init 1 = .ok (.invokespecial 1, 3) := by decide +kernel
theorem dX3_init_4 : decode cX3_init 4 = .ok (.aload_n 0, 1) := by decide +kernel
theorem dX3_init_5 : decode cX3_init 5 = .ok (.iconst 4, 1) := by decide +kernel
theorem dX3_init_6 : decode cX3_init 6 = .ok (.putfield 7, 3) := by decide +kernel
theorem dX3_init_9 : decode cX3_init 9 = .ok (.aload_n 0, 1) := by decide +kernel
theorem dX3_init_10 : decode cX3_init 10 = .ok (.iconst 4, 1) := by decide +kernel
theorem dX3_init_11 : decode cX3_init 11 = .ok (.putfield 13, 3) := by decide +kernel
theorem dX3_init_14 : decode cX3_init 14 = .ok (.aload_n 0, 1) := by decide +kernel
theorem dX3_init_15 : decode cX3_init 15 = .ok (.iconst 4, 1) := by decide +kernel
theorem dX3_init_16 : decode cX3_init 16 = .ok (.newarray .int, 2) := by decide +kernel
theorem dX3_init_18 : decode cX3_init 18 = .ok (.putfield 16, 3) := by decide +kernel
theorem dX3_init_21 : decode cX3_init 21 = .ok (.aload_n 0, 1) := by decide +kernel
theorem dX3_init_22 : decode cX3_init 22 = .ok (.iconst 4, 1) := by decide +kernel
theorem dX3_init_23 : decode cX3_init 23 = .ok (.sipush 2000, 3) := by decide +kernel
theorem dX3_init_26 : decode cX3_init 26 = .ok (.multianewarray 20 2, 4) := by decide +kernel
theorem dX3_init_30 : decode cX3_init 30 = .ok (.putfield 22, 3) := by decide +kernel
theorem dX3_init_33 : decode cX3_init 33 = .ok (.aload_n 0, 1) := by decide +kernel
theorem dX3_init_34 : decode cX3_init 34 = .ok (.iconst 4, 1) := by decide +kernel
theorem dX3_init_35 : decode cX3_init 35 = .ok (.newarray .int, 2) := by decide +kernel
theorem dX3_init_37 : decode cX3_init 37 = .ok (.putfield 25, 3) := by decide +kernel
theorem dX3_init_40 : decode cX3_init 40 = .ok (.aload_n 0, 1) := by decide +kernel
theorem dX3_init_41 : decode cX3_init 41 = .ok (.iconst 4, 1) := by decide +kernel
theorem dX3_init_42 : decode cX3_init 42 = .ok (.newarray .int, 2) := by decide +kernel
theorem dX3_init_44 : decode cX3_init 44 = .ok (.putfield 28, 3) := by decide +kernel
theorem dX3_init_47 : decode cX3_init 47 = .ok (.aload_n 0, 1) := by decide +kernel
theorem dX3_init_48 : decode cX3_init 48 = .ok (.bipush 63, 2) := by decide +kernel
theorem dX3_init_50 : decode cX3_init 50 = .ok (.newarray .int, 2) := by decide +kernel
theorem dX3_init_52 : decode cX3_init 52 = .ok (.putfield 31, 3) := by decide +kernel
theorem dX3_init_55 : decode cX3_init 55 = .ok (.aload_n 0, 1) := by decide +kernel
theorem dX3_init_56 : decode cX3_init 56 = .ok (.sipush 6400, 3) := by decide +kernel
theorem dX3_init_59 : decode cX3_init 59 = .ok (.newarray .int, 2) := by decide +kernel
theorem dX3_init_61 : decode cX3_init 61 = .ok (.putfield 34, 3) := by decide +kernel
theorem dX3_init_64 : decode cX3_init 64 = .ok (.return_, 1) := by decide +kernel
theorem dX3_thrown_0 : decode cX3_thrown 0 = .ok (.aload_n 0, 1) := by decide +kernel
theorem dX3_thrown_1 : decode cX3_thrown 1 = .ok (.getfield 37, 3) := by decide +kernel
theorem dX3_thrown_4 : decode cX3_thrown 4 = .ok (.ireturn, 1) := by decide +kernel
theorem dX3_fail_0 : decode cX3_fail 0 = .ok (.aload_n 0, 1) := by decide +kernel
theorem dX3_fail_1 : decode cX3_fail 1 = .ok (.iload_n 1, 1) := by decide +kernel
theorem dX3_fail_2 : decode cX3_fail 2 = .ok (.putfield 37, 3) := by decide +kernel
theorem dX3_fail_5 : decode cX3_fail 5 = .ok (.iconst 0, 1) := by decide +kernel
theorem dX3_fail_6 : decode cX3_fail 6 = .ok (.ireturn, 1) := by decide +kernel
theorem dX3_isIn_0 : decode cX3_isIn 0 = .ok (.iload_n 0, 1) := by decide +kernel
theorem dX3_isIn_1 : decode cX3_isIn 1 = .ok (.iload_n 1, 1) := by decide +kernel
theorem dX3_isIn_2 : decode cX3_isIn 2 = .ok (.if_icmp .lt 12, 3) := by decide +kernel
theorem dX3_isIn_5 : decode cX3_isIn 5 = .ok (.iload_n 0, 1) := by decide +kernel
theorem dX3_isIn_6 : decode cX3_isIn 6 = .ok (.iload_n 2, 1) := by decide +kernel
theorem dX3_isIn_7 : decode cX3_isIn 7 = .ok (.if_icmp .gt 7, 3) := by decide +kernel
theorem dX3_isIn_10 : decode cX3_isIn 10 = .ok (.iconst 1, 1) := by decide +kernel
theorem dX3_isIn_11 : decode cX3_isIn 11 = .ok (.goto 4, 3) := by decide +kernel
theorem dX3_isIn_14 : decode cX3_isIn 14 = .ok (.iconst 0, 1) := by decide +kernel
theorem dX3_isIn_15 : decode cX3_isIn 15 = .ok (.ireturn, 1) := by decide +kernel
theorem dX3_isVoice_0 : decode cX3_isVoice 0 = .ok (.iload_n 1, 1) := by decide +kernel
theorem dX3_isVoice_1 : decode cX3_isVoice 1 = .ok (.iconst 0, 1) := by decide +kernel
theorem dX3_isVoice_2 : decode cX3_isVoice 2 = .ok (.aload_n 0, 1) := by decide +kernel
theorem dX3_isVoice_3 : decode cX3_isVoice 3 = .ok (.getfield 40, 3) := by decide +kernel
theorem dX3_isVoice_6 : decode cX3_isVoice 6 = .ok (.iconst 1, 1) := by decide +kernel
theorem dX3_isVoice_7 : decode cX3_isVoice 7 = .ok (.isub, 1) := by decide +kernel
theorem dX3_isVoice_8 : decode cX3_isVoice 8 = .ok (.invokestatic 43, 3) := by decide +kernel
theorem dX3_isVoice_11 : decode cX3_isVoice 11 = .ok (.ireturn, 1) := by decide +kernel
theorem dX3_isElement_0 : decode cX3_isElement 0 = .ok (.aload_n 0, 1) := by decide +kernel
theorem dX3_isElement_1 : decode cX3_isElement 1 = .ok (.iload_n 1, 1) := by decide +kernel
theorem dX3_isElement_2 : decode cX3_isElement 2 = .ok (.invokevirtual 47, 3) := by decide +kernel
theorem dX3_isElement_5 : decode cX3_isElement 5 = .ok (.ifCond .eq 23, 3) := by decide +kernel
theorem dX3_isElement_8 : decode cX3_isElement 8 = .ok (.iload_n 2, 1) := by decide +kernel
theorem dX3_isElement_9 : decode cX3_isElement 9 = .ok (.iconst 0, 1) := by decide +kernel
theorem dX3_isElement_10 : decode cX3_isElement 10 = .ok (.aload_n 0, 1) := by decide +kernel
theorem dX3_isElement_11 : decode cX3_isElement 11 = .ok (.getfield 16, 3) := by decide +kernel
theorem dX3_isElement_14 : decode cX3_isElement 14 = .ok (.iload_n 1, 1) := by decide +kernel
theorem dX3_isElement_15 : decode cX3_isElement 15 = .ok (.iaload, 1) := by decide +kernel
theorem dX3_isElement_16 : decode cX3_isElement 16 = .ok (.iconst 1, 1) := by decide +kernel
theorem dX3_isElement_17 : decode cX3_isElement 17 = .ok (.isub, 1) := by decide +kernel
theorem dX3_isElement_18 : decode cX3_isElement 18 = .ok (.invokestatic 43, 3) := by decide +kernel
theorem dX3_isElement_21 : decode cX3_isElement 21 = .ok (.ifCond .eq 7, 3) := by decide +kernel
theorem dX3_isElement_24 : decode cX3_isElement 24 = .ok (.iconst 1, 1) := by decide +kernel
theorem dX3_isElement_25 : decode cX3_isElement 25 = .ok (.goto 4, 3) := by decide +kernel
theorem dX3_isElement_28 : decode cX3_isElement 28 = .ok (.iconst 0, 1) := by decide +kernel
theorem dX3_isElement_29 : decode cX3_isElement 29 = .ok (.ireturn, 1) := by decide +kernel
theorem dX3_get_0 : decode cX3_get 0 = .ok (.aload_n 0, 1) := by decide +kernel
theorem dX3_get_1 : decode cX3_get 1 = .ok (.getfield 22, 3) := by decide +kernel
theorem dX3_get_4 : decode cX3_get 4 = .ok (.iload_n 1, 1) := by decide +kernel
theorem dX3_get_5 : decode cX3_get 5 = .ok (.aaload, 1) := by decide +kernel
theorem dX3_get_6 : decode cX3_get 6 = .ok (.bipush 10, 2) := by decide +kernel
theorem dX3_get_8 : decode cX3_get 8 = .ok (.iload_n 2, 1) := by decide +kernel
theorem dX3_get_9 : decode cX3_get 9 = .ok (.imul, 1) := by decide +kernel
theorem dX3_get_10 : decode cX3_get 10 = .ok (.iload_n 3, 1) := by decide +kernel
theorem dX3_get_11 : decode cX3_get 11 = .ok (.iadd, 1) := by decide +kernel
theorem dX3_get_12 : decode cX3_get 12 = .ok (.iaload, 1) := by decide +kernel
theorem dX3_get_13 : decode cX3_get 13 = .ok (.ireturn, 1) := by decide +kernel
theorem dX3_bar_0 : decode cX3_bar 0 = .ok (.aload_n 0, 1) := by decide +kernel
theorem dX3_bar_1 : decode cX3_bar 1 = .ok (.getfield 7, 3) := by decide +kernel
theorem dX3_bar_4 : decode cX3_bar 4 = .ok (.sipush 384, 3) := by decide +kernel
theorem dX3_bar_7 : decode cX3_bar 7 = .ok (.imul, 1) := by decide +kernel
theorem dX3_bar_8 : decode cX3_bar 8 = .ok (.aload_n 0, 1) := by decide +kernel
theorem dX3_bar_9 : decode cX3_bar 9 = .ok (.getfield 13, 3) := by decide +kernel
theorem dX3_bar_12 : decode cX3_bar 12 = .ok (.idiv, 1) := by decide +kernel
theorem dX3_bar_13 : decode cX3_bar 13 = .ok (.ireturn, 1) := by decide +kernel
theorem dX3_isValue_0 : decode cX3_isValue 0 = .ok (.iconst 0, 1) := by decide +kernel
theorem dX3_isValue_1 : decode cX3_isValue 1 = .ok (.istore_n 2, 1) := by decide +kernel
theorem dX3_isValue_2 : decode cX3_isValue 2 = .ok (.iconst 0, 1) := by decide +kernel
theorem dX3_isValue_3 : decode cX3_isValue 3 = .ok (.istore_n 3, 1) := by decide +kernel
theorem dX3_isValue_4 : decode cX3_isValue 4 = .ok (.iload_n 3, 1) := by decide +kernel
theorem dX3_isValue_5 : decode cX3_isValue 5 = .ok (.getstatic 51, 3) := by decide +kernel
theorem dX3_isValue_8 : decode cX3_isValue 8 = .ok (.arraylength, 1) := by decide +kernel
theorem dX3_isValue_9 : decode cX3_isValue 9 = .ok (.if_icmp .ge 37, 3) := by decide +kernel
theorem dX3_isValue_12 : decode cX3_isValue 12 = .ok (.iload_n 2, 1) := by decide +kernel
theorem dX3_isValue_13 : decode cX3_isValue 13 = .ok (.ifCond .ne 21, 3) := by decide +kernel
theorem dX3_isValue_16 : decode cX3_isValue 16 = .ok (.getstatic 51, 3) := by decide +kernel
theorem dX3_isValue_19 : decode cX3_isValue 19 = .ok (.iload_n 3, 1) := by decide +kernel
theorem dX3_isValue_20 : decode cX3_isValue 20 = .ok (.iaload, 1) := by decide +kernel
theorem dX3_isValue_21 : decode cX3_isValue 21 = .ok (.iload_n 0, 1) := by decide +kernel
theorem dX3_isValue_22 : decode cX3_isValue 22 = .ok (.if_icmp .ne 16, 3) := by decide +kernel
theorem dX3_isValue_25 : decode cX3_isValue 25 = .ok (.getstatic 54, 3) := by decide +kernel
theorem dX3_isValue_28 : decode cX3_isValue 28 = .ok (.iload_n 3, 1) := by decide +kernel
theorem dX3_isValue_29 : decode cX3_isValue 29 = .ok (.iaload, 1) := by decide +kernel
theorem dX3_isValue_30 : decode cX3_isValue 30 = .ok (.iload_n 1, 1) := by decide +kernel
theorem dX3_isValue_31 : decode cX3_isValue 31 = .ok (.if_icmp .ne 7, 3) := by decide +kernel
theorem dX3_isValue_34 : decode cX3_isValue 34 = .ok (.iconst 1, 1) := by decide +kernel
theorem dX3_isValue_35 : decode cX3_isValue 35 = .ok (.goto 4, 3) := by decide +kernel
theorem dX3_isValue_38 : decode cX3_isValue 38 = .ok (.iconst 0, 1) := by decide +kernel
theorem dX3_isValue_39 : decode cX3_isValue 39 = .ok (.istore_n 2, 1) := by decide +kernel
theorem dX3_isValue_40 : decode cX3_isValue 40 = .ok (.iinc 3 1, 3) := by decide +kernel
theorem dX3_isValue_43 : decode cX3_isValue 43 = .ok (.goto (-39), 3) := by decide +kernel
theorem dX3_isValue_46 : decode cX3_isValue 46 = .ok (.iload_n 2, 1) := by decide +kernel
theorem dX3_isValue_47 : decode cX3_isValue 47 = .ok (.ireturn, 1) := by decide +kernel
theorem dX3_ticksOf_0 : decode cX3_ticksOf 0 = .ok (.sipush 384, 3) := by decide +kernel
theorem dX3_ticksOf_3 : decode cX3_ticksOf 3 = .ok (.iload_n 0, 1) := by decide +kernel
theorem dX3_ticksOf_4 : decode cX3_ticksOf 4 = .ok (.idiv, 1) := by decide +kernel
theorem dX3_ticksOf_5 : decode cX3_ticksOf 5 = .ok (.istore_n 2, 1) := by decide +kernel
theorem dX3_ticksOf_6 : decode cX3_ticksOf 6 = .ok (.iload_n 2, 1) := by decide +kernel
theorem dX3_ticksOf_7 : decode cX3_ticksOf 7 = .ok (.iload_n 1, 1) := by decide +kernel
theorem dX3_ticksOf_8 : decode cX3_ticksOf 8 = .ok (.ifCond .le 9, 3) := by decide +kernel
theorem dX3_ticksOf_11 : decode cX3_ticksOf 11 = .ok (.iload_n 2, 1) := by decide +kernel
theorem dX3_ticksOf_12 : decode cX3_ticksOf 12 = .ok (.iconst 2, 1) := by decide +kernel
theorem dX3_ticksOf_13 : decode cX3_ticksOf 13 = .ok (.idiv, 1) := by decide +kernel
theorem dX3_ticksOf_14 : decode cX3_ticksOf 14 = .ok (.goto 4, 3) := by decide +kernel
theorem dX3_ticksOf_17 : decode cX3_ticksOf 17 = .ok (.iconst 0, 1) := by decide +kernel
theorem dX3_ticksOf_18 : decode cX3_ticksOf 18 = .ok (.iadd, 1) := by decide +kernel
theorem dX3_ticksOf_19 : decode cX3_ticksOf 19 = .ok (.iload_n 1, 1) := by decide +kernel
theorem dX3_ticksOf_20 : decode cX3_ticksOf 20 = .ok (.iconst 1, 1) := by decide +kernel
theorem dX3_ticksOf_21 : decode cX3_ticksOf 21 = .ok (.if_icmp .le 9, 3) := by decide +kernel
theorem dX3_ticksOf_24 : decode cX3_ticksOf 24 = .ok (.iload_n 2, 1) := by decide +kernel
theorem dX3_ticksOf_25 : decode cX3_ticksOf 25 = .ok (.iconst 4, 1) := by decide +kernel
theorem dX3_ticksOf_26 : decode cX3_ticksOf 26 = .ok (.idiv, 1) := by decide +kernel
theorem dX3_ticksOf_27 : decode cX3_ticksOf 27 = .ok (.goto 4, 3) := by decide +kernel
theorem dX3_ticksOf_30 : decode cX3_ticksOf 30 = .ok (.iconst 0, 1) := by decide +kernel
theorem dX3_ticksOf_31 : decode cX3_ticksOf 31 = .ok (.iadd, 1) := by decide +kernel
theorem dX3_ticksOf_32 : decode cX3_ticksOf 32 = .ok (.ireturn, 1) := by decide +kernel
theorem dX3_length_0 : decode cX3_length 0 = .ok (.aload_n 0, 1) := by decide +kernel
theorem dX3_length_1 : decode cX3_length 1 = .ok (.iload_n 1, 1) := by decide +kernel
theorem dX3_length_2 : decode cX3_length 2 = .ok (.iload_n 2, 1) := by decide +kernel
theorem dX3_length_3 : decode cX3_length 3 = .ok (.iconst 0, 1) := by decide +kernel
theorem dX3_length_4 : decode cX3_length 4 = .ok (.invokevirtual 57, 3) := by decide +kernel
theorem dX3_length_7 : decode cX3_length 7 = .ok (.aload_n 0, 1) := by decide +kernel
theorem dX3_length_8 : decode cX3_length 8 = .ok (.iload_n 1, 1) := by decide +kernel
theorem dX3_length_9 : decode cX3_length 9 = .ok (.iload_n 2, 1) := by decide +kernel
theorem dX3_length_10 : decode cX3_length 10 = .ok (.iconst 1, 1) := by decide +kernel
theorem dX3_length_11 : decode cX3_length 11 = .ok (.invokevirtual 57, 3) := by decide +kernel
theorem dX3_length_14 : decode cX3_length 14 = .ok (.invokestatic 61, 3) := by decide +kernel
theorem dX3_length_17 : decode cX3_length 17 = .ok (.ireturn, 1) := by decide +kernel
theorem dX3_tone_0 : decode cX3_tone 0 = .ok (.aload_n 0, 1) := by decide +kernel
theorem dX3_tone_1 : decode cX3_tone 1 = .ok (.iload_n 1, 1) := by decide +kernel
theorem dX3_tone_2 : decode cX3_tone 2 = .ok (.iload_n 2, 1) := by decide +kernel
theorem dX3_tone_3 : decode cX3_tone 3 = .ok (.iconst 2, 1) := by decide +kernel
theorem dX3_tone_4 : decode cX3_tone 4 = .ok (.invokevirtual 57, 3) := by decide +kernel
theorem dX3_tone_7 : decode cX3_tone 7 = .ok (.ifCond .ne 7, 3) := by decide +kernel
theorem dX3_tone_10 : decode cX3_tone 10 = .ok (.iconst (-1), 1) := by decide +kernel
theorem dX3_tone_11 : decode cX3_tone 11 = .ok (.goto 27, 3) := by decide +kernel
theorem dX3_tone_14 : decode cX3_tone 14 = .ok (.aload_n 0, 1) := by decide +kernel
theorem dX3_tone_15 : decode cX3_tone 15 = .ok (.iload_n 1, 1) := by decide +kernel
theorem dX3_tone_16 : decode cX3_tone 16 = .ok (.iload_n 2, 1) := by decide +kernel
theorem dX3_tone_17 : decode cX3_tone 17 = .ok (.iconst 3, 1) := by decide +kernel
theorem dX3_tone_18 : decode cX3_tone 18 = .ok (.invokevirtual 57, 3) := by decide +kernel
theorem dX3_tone_21 : decode cX3_tone 21 = .ok (.aload_n 0, 1) := by decide +kernel
theorem dX3_tone_22 : decode cX3_tone 22 = .ok (.iload_n 1, 1) := by decide +kernel
theorem dX3_tone_23 : decode cX3_tone 23 = .ok (.iload_n 2, 1) := by decide +kernel
theorem dX3_tone_24 : decode cX3_tone 24 = .ok (.iconst 4, 1) := by decide +kernel
theorem dX3_tone_25 : decode cX3_tone 25 = .ok (.invokevirtual 57, 3) := by decide +kernel
theorem dX3_tone_28 : decode cX3_tone 28 = .ok (.aload_n 0, 1) := by decide +kernel
theorem dX3_tone_29 : decode cX3_tone 29 = .ok (.iload_n 1, 1) := by decide +kernel
theorem dX3_tone_30 : decode cX3_tone 30 = .ok (.iload_n 2, 1) := by decide +kernel
theorem dX3_tone_31 : decode cX3_tone 31 = .ok (.iconst 5, 1) := by decide +kernel
theorem dX3_tone_32 : decode cX3_tone 32 = .ok (.invokevirtual 57, 3) := by decide +kernel
theorem dX3_tone_35 : decode cX3_tone 35 = .ok (.invokestatic 65, 3) := by decide +kernel
theorem dX3_tone_38 : decode cX3_tone 38 = .ok (.ireturn, 1) := by decide +kernel
theorem dX3_toneOf_0 : decode cX3_toneOf 0 = .ok (.bipush 12, 2) := by decide +kernel
theorem dX3_toneOf_2 : decode cX3_toneOf 2 = .ok (.iload_n 2, 1) := by decide +kernel
theorem dX3_toneOf_3 : decode cX3_toneOf 3 = .ok (.imul, 1) := by decide +kernel
theorem dX3_toneOf_4 : decode cX3_toneOf 4 = .ok (.getstatic 68, 3) := by decide +kernel
theorem dX3_toneOf_7 : decode cX3_toneOf 7 = .ok (.iload_n 0, 1) := by decide +kernel
theorem dX3_toneOf_8 : decode cX3_toneOf 8 = .ok (.iaload, 1) := by decide +kernel
theorem dX3_toneOf_9 : decode cX3_toneOf 9 = .ok (.iadd, 1) := by decide +kernel
theorem dX3_toneOf_10 : decode cX3_toneOf 10 = .ok (.iload_n 1, 1) := by decide +kernel
theorem dX3_toneOf_11 : decode cX3_toneOf 11 = .ok (.iadd, 1) := by decide +kernel
theorem dX3_toneOf_12 : decode cX3_toneOf 12 = .ok (.ireturn, 1) := by decide +kernel
theorem dX3_isPitch_0 : decode cX3_isPitch 0 = .ok (.iload_n 0, 1) := by decide +kernel
theorem dX3_isPitch_1 : decode cX3_isPitch 1 = .ok (.iconst 0, 1) := by decide +kernel
theorem dX3_isPitch_2 : decode cX3_isPitch 2 = .ok (.bipush 6, 2) := by decide +kernel
theorem dX3_isPitch_4 : decode cX3_isPitch 4 = .ok (.invokestatic 43, 3) := by decide +kernel
theorem dX3_isPitch_7 : decode cX3_isPitch 7 = .ok (.ifCond .eq 36, 3) := by decide +kernel
theorem dX3_isPitch_10 : decode cX3_isPitch 10 = .ok (.iload_n 1, 1) := by decide +kernel
theorem dX3_isPitch_11 : decode cX3_isPitch 11 = .ok (.bipush (-2), 2) := by decide +kernel
theorem dX3_isPitch_13 : decode cX3_isPitch 13 = .ok (.iconst 2, 1) := by decide +kernel
theorem dX3_isPitch_14 : decode cX3_isPitch 14 = .ok (.invokestatic 43, 3) := by decide +kernel
theorem dX3_isPitch_17 : decode cX3_isPitch 17 = .ok (.ifCond .eq 26, 3) := by decide +kernel
theorem dX3_isPitch_20 : decode cX3_isPitch 20 = .ok (.iload_n 2, 1) := by decide +kernel
theorem dX3_isPitch_21 : decode cX3_isPitch 21 = .ok (.iconst 0, 1) := by decide +kernel
theorem dX3_isPitch_22 : decode cX3_isPitch 22 = .ok (.bipush 8, 2) := by decide +kernel
theorem dX3_isPitch_24 : decode cX3_isPitch 24 = .ok (.invokestatic 43, 3) := by decide +kernel
theorem dX3_isPitch_27 : decode cX3_isPitch 27 = .ok (.ifCond .eq 16, 3) := by decide +kernel
theorem dX3_isPitch_30 : decode cX3_isPitch 30 = .ok (.iload_n 0, 1) := by decide +kernel
theorem dX3_isPitch_31 : decode cX3_isPitch 31 = .ok (.iload_n 1, 1) := by decide +kernel
theorem dX3_isPitch_32 : decode cX3_isPitch 32 = .ok (.iload_n 2, 1) := by decide +kernel
theorem dX3_isPitch_33 : decode cX3_isPitch 33 = .ok (.invokestatic 65, 3) := by decide +kernel
theorem dX3_isPitch_36 : decode cX3_isPitch 36 = .ok (.ifCond .lt 7, 3) := by decide +kernel
theorem dX3_isPitch_39 : decode cX3_isPitch 39 = .ok (.iconst 1, 1) := by decide +kernel
theorem dX3_isPitch_40 : decode cX3_isPitch 40 = .ok (.goto 4, 3) := by decide +kernel
theorem dX3_isPitch_43 : decode cX3_isPitch 43 = .ok (.iconst 0, 1) := by decide +kernel
theorem dX3_isPitch_44 : decode cX3_isPitch 44 = .ok (.ireturn, 1) := by decide +kernel
theorem dX3_signOf_0 : decode cX3_signOf 0 = .ok (.iconst 0, 1) := by decide +kernel
theorem dX3_signOf_1 : decode cX3_signOf 1 = .ok (.istore_n 2, 1) := by decide +kernel
theorem dX3_signOf_2 : decode cX3_signOf 2 = .ok (.iload_n 2, 1) := by decide +kernel
theorem dX3_signOf_3 : decode cX3_signOf 3 = .ok (.bipush 7, 2) := by decide +kernel
theorem dX3_signOf_5 : decode cX3_signOf 5 = .ok (.if_icmp .ge 51, 3) := by decide +kernel
theorem dX3_signOf_8 : decode cX3_signOf 8 = .ok (.getstatic 71, 3) := by decide +kernel
theorem dX3_signOf_11 : decode cX3_signOf 11 = .ok (.iload_n 2, 1) := by decide +kernel
theorem dX3_signOf_12 : decode cX3_signOf 12 = .ok (.iaload, 1) := by decide +kernel
theorem dX3_signOf_13 : decode cX3_signOf 13 = .ok (.iload_n 1, 1) := by decide +kernel
theorem dX3_signOf_14 : decode cX3_signOf 14 = .ok (.if_icmp .eq 6, 3) := by decide +kernel
theorem dX3_signOf_17 : decode cX3_signOf 17 = .ok (.goto 33, 3) := by decide +kernel
theorem dX3_signOf_20 : decode cX3_signOf 20 = .ok (.iload_n 2, 1) := by decide +kernel
theorem dX3_signOf_21 : decode cX3_signOf 21 = .ok (.aload_n 0, 1) := by decide +kernel
theorem dX3_signOf_22 : decode cX3_signOf 22 = .ok (.getfield 74, 3) := by decide +kernel
theorem dX3_signOf_25 : decode cX3_signOf 25 = .ok (.if_icmp .ge 7, 3) := by decide +kernel
theorem dX3_signOf_28 : decode cX3_signOf 28 = .ok (.iconst 1, 1) := by decide +kernel
theorem dX3_signOf_29 : decode cX3_signOf 29 = .ok (.goto 20, 3) := by decide +kernel
theorem dX3_signOf_32 : decode cX3_signOf 32 = .ok (.bipush 6, 2) := by decide +kernel
theorem dX3_signOf_34 : decode cX3_signOf 34 = .ok (.iload_n 2, 1) := by decide +kernel
theorem dX3_signOf_35 : decode cX3_signOf 35 = .ok (.isub, 1) := by decide +kernel
theorem dX3_signOf_36 : decode cX3_signOf 36 = .ok (.aload_n 0, 1) := by decide +kernel
theorem dX3_signOf_37 : decode cX3_signOf 37 = .ok (.getfield 74, 3) := by decide +kernel
theorem dX3_signOf_40 : decode cX3_signOf 40 = .ok (.ineg, 1) := by decide +kernel
theorem dX3_signOf_41 : decode cX3_signOf 41 = .ok (.if_icmp .ge 7, 3) := by decide +kernel
theorem dX3_signOf_44 : decode cX3_signOf 44 = .ok (.iconst (-1), 1) := by decide +kernel
theorem dX3_signOf_45 : decode cX3_signOf 45 = .ok (.goto 4, 3) := by decide +kernel
theorem dX3_signOf_48 : decode cX3_signOf 48 = .ok (.iconst 0, 1) := by decide +kernel
theorem dX3_signOf_49 : decode cX3_signOf 49 = .ok (.ireturn, 1) := by decide +kernel
theorem dX3_signOf_50 : decode cX3_signOf 50 = .ok (.iinc 2 1, 3) := by decide +kernel
theorem dX3_signOf_53 : decode cX3_signOf 53 = .ok (.goto (-51), 3) := by decide +kernel
theorem dX3_signOf_56 : decode cX3_signOf 56 = .ok (.iconst 0, 1) := by decide +kernel
theorem dX3_signOf_57 : decode cX3_signOf 57 = .ok (.ireturn, 1) := by decide +kernel
theorem dX3_setBars_0 : decode cX3_setBars 0 = .ok (.aload_n 0, 1) := by decide +kernel
theorem dX3_setBars_1 : decode cX3_setBars 1 = .ok (.iconst 0, 1) := by decide +kernel
theorem dX3_setBars_2 : decode cX3_setBars 2 = .ok (.putfield 37, 3) := by decide +kernel
theorem dX3_setBars_5 : decode cX3_setBars 5 = .ok (.iload_n 1, 1) := by decide +kernel
theorem dX3_setBars_6 : decode cX3_setBars 6 = .ok (.iconst 1, 1) := by decide +kernel
theorem dX3_setBars_7 : decode cX3_setBars 7 = .ok (.bipush 12, 2) := by decide +kernel
theorem dX3_setBars_9 : decode cX3_setBars 9 = .ok (.invokestatic 43, 3) := by decide +kernel
theorem dX3_setBars_12 : decode cX3_setBars 12 = .ok (.ifCond .eq 19, 3) := by decide +kernel
theorem dX3_setBars_15 : decode cX3_setBars 15 = .ok (.iload_n 2, 1) := by decide +kernel
theorem dX3_setBars_16 : decode cX3_setBars 16 = .ok (.iconst 2, 1) := by decide +kernel
theorem dX3_setBars_17 : decode cX3_setBars 17 = .ok (.if_icmp .eq 20, 3) := by decide +kernel
theorem dX3_setBars_20 : decode cX3_setBars 20 = .ok (.iload_n 2, 1) := by decide +kernel
theorem dX3_setBars_21 : decode cX3_setBars 21 = .ok (.iconst 4, 1) := by decide +kernel
theorem dX3_setBars_22 : decode cX3_setBars 22 = .ok (.if_icmp .eq 15, 3) := by decide +kernel
theorem dX3_setBars_25 : decode cX3_setBars 25 = .ok (.iload_n 2, 1) := by decide +kernel
theorem dX3_setBars_26 : decode cX3_setBars 26 = .ok (.bipush 8, 2) := by decide +kernel
theorem dX3_setBars_28 : decode cX3_setBars 28 = .ok (.if_icmp .eq 9, 3) := by decide +kernel
theorem dX3_setBars_31 : decode cX3_setBars 31 = .ok (.aload_n 0, 1) := by decide +kernel
theorem dX3_setBars_32 : decode cX3_setBars 32 = .ok (.iconst 1, 1) := by decide +kernel
theorem dX3_setBars_33 : decode cX3_setBars 33 = .ok (.invokevirtual 77, 3) := by decide +kernel
theorem dX3_setBars_36 : decode cX3_setBars 36 = .ok (.ireturn, 1) := by decide +kernel
theorem dX3_setBars_37 : decode cX3_setBars 37 = .ok (.iconst 0, 1) := by decide +kernel
theorem dX3_setBars_38 : decode cX3_setBars 38 = .ok (.istore_n 3, 1) := by decide +kernel
theorem dX3_setBars_39 : decode cX3_setBars 39 = .ok (.iload_n 3, 1) := by decide +kernel
theorem dX3_setBars_40 : decode cX3_setBars 40 = .ok (.aload_n 0, 1) := by decide +kernel
theorem dX3_setBars_41 : decode cX3_setBars 41 = .ok (.getfield 40, 3) := by decide +kernel
theorem dX3_setBars_44 : decode cX3_setBars 44 = .ok (.if_icmp .ge 24, 3) := by decide +kernel
theorem dX3_setBars_47 : decode cX3_setBars 47 = .ok (.aload_n 0, 1) := by decide +kernel
theorem dX3_setBars_48 : decode cX3_setBars 48 = .ok (.getfield 16, 3) := by decide +kernel
theorem dX3_setBars_51 : decode cX3_setBars 51 = .ok (.iload_n 3, 1) := by decide +kernel
theorem dX3_setBars_52 : decode cX3_setBars 52 = .ok (.iaload, 1) := by decide +kernel
theorem dX3_setBars_53 : decode cX3_setBars 53 = .ok (.ifCond .le 9, 3) := by decide +kernel
theorem dX3_setBars_56 : decode cX3_setBars 56 = .ok (.aload_n 0, 1) := by decide +kernel
theorem dX3_setBars_57 : decode cX3_setBars 57 = .ok (.iconst 2, 1) := by decide +kernel
theorem dX3_setBars_58 : decode cX3_setBars 58 = .ok (.invokevirtual 77, 3) := by decide +kernel
theorem dX3_setBars_61 : decode cX3_setBars 61 = .ok (.ireturn, 1) := by decide +kernel
theorem dX3_setBars_62 : decode cX3_setBars 62 = .ok (.iinc 3 1, 3) := by decide +kernel
theorem dX3_setBars_65 : decode cX3_setBars 65 = .ok (.goto (-26), 3) := by decide +kernel
theorem dX3_setBars_68 : decode cX3_setBars 68 = .ok (.aload_n 0, 1) := by decide +kernel
theorem dX3_setBars_69 : decode cX3_setBars 69 = .ok (.iload_n 1, 1) := by decide +kernel
theorem dX3_setBars_70 : decode cX3_setBars 70 = .ok (.putfield 7, 3) := by decide +kernel
theorem dX3_setBars_73 : decode cX3_setBars 73 = .ok (.aload_n 0, 1) := by decide +kernel
theorem dX3_setBars_74 : decode cX3_setBars 74 = .ok (.iload_n 2, 1) := by decide +kernel
theorem dX3_setBars_75 : decode cX3_setBars 75 = .ok (.putfield 13, 3) := by decide +kernel
theorem dX3_setBars_78 : decode cX3_setBars 78 = .ok (.aload_n 0, 1) := by decide +kernel
theorem dX3_setBars_79 : decode cX3_setBars 79 = .ok (.invokevirtual 81, 3) := by decide +kernel
theorem dX3_setBars_82 : decode cX3_setBars 82 = .ok (.ireturn, 1) := by decide +kernel
theorem dX3_setKey_0 : decode cX3_setKey 0 = .ok (.aload_n 0, 1) := by decide +kernel
theorem dX3_setKey_1 : decode cX3_setKey 1 = .ok (.iconst 0, 1) := by decide +kernel
theorem dX3_setKey_2 : decode cX3_setKey 2 = .ok (.putfield 37, 3) := by decide +kernel
theorem dX3_setKey_5 : decode cX3_setKey 5 = .ok (.iload_n 1, 1) := by decide +kernel
theorem dX3_setKey_6 : decode cX3_setKey 6 = .ok (.bipush (-7), 2) := by decide +kernel
theorem dX3_setKey_8 : decode cX3_setKey 8 = .ok (.bipush 7, 2) := by decide +kernel
theorem dX3_setKey_10 : decode cX3_setKey 10 = .ok (.invokestatic 43, 3) := by decide +kernel
theorem dX3_setKey_13 : decode cX3_setKey 13 = .ok (.ifCond .ne 9, 3) := by decide +kernel
theorem dX3_setKey_16 : decode cX3_setKey 16 = .ok (.aload_n 0, 1) := by decide +kernel
theorem dX3_setKey_17 : decode cX3_setKey 17 = .ok (.iconst 1, 1) := by decide +kernel
theorem dX3_setKey_18 : decode cX3_setKey 18 = .ok (.invokevirtual 77, 3) := by decide +kernel
theorem dX3_setKey_21 : decode cX3_setKey 21 = .ok (.ireturn, 1) := by decide +kernel
theorem dX3_setKey_22 : decode cX3_setKey 22 = .ok (.aload_n 0, 1) := by decide +kernel
theorem dX3_setKey_23 : decode cX3_setKey 23 = .ok (.getfield 74, 3) := by decide +kernel
theorem dX3_setKey_26 : decode cX3_setKey 26 = .ok (.istore_n 2, 1) := by decide +kernel
theorem dX3_setKey_27 : decode cX3_setKey 27 = .ok (.aload_n 0, 1) := by decide +kernel
theorem dX3_setKey_28 : decode cX3_setKey 28 = .ok (.iload_n 1, 1) := by decide +kernel
theorem dX3_setKey_29 : decode cX3_setKey 29 = .ok (.putfield 74, 3) := by decide +kernel
theorem dX3_setKey_32 : decode cX3_setKey 32 = .ok (.iload_n 2, 1) := by decide +kernel
theorem dX3_setKey_33 : decode cX3_setKey 33 = .ok (.ireturn, 1) := by decide +kernel
theorem dX3_addVoice_0 : decode cX3_addVoice 0 = .ok (.aload_n 0, 1) := by decide +kernel
theorem dX3_addVoice_1 : decode cX3_addVoice 1 = .ok (.iconst 0, 1) := by decide +kernel
theorem dX3_addVoice_2 : decode cX3_addVoice 2 = .ok (.putfield 37, 3) := by decide +kernel
theorem dX3_addVoice_5 : decode cX3_addVoice 5 = .ok (.aload_n 0, 1) := by decide +kernel
theorem dX3_addVoice_6 : decode cX3_addVoice 6 = .ok (.getfield 40, 3) := by decide +kernel
theorem dX3_addVoice_9 : decode cX3_addVoice 9 = .ok (.iconst 4, 1) := by decide +kernel
theorem dX3_addVoice_10 : decode cX3_addVoice 10 = .ok (.if_icmp .ne 9, 3) := by decide +kernel
theorem dX3_addVoice_13 : decode cX3_addVoice 13 = .ok (.aload_n 0, 1) := by decide +kernel
theorem dX3_addVoice_14 : decode cX3_addVoice 14 = .ok (.iconst 1, 1) := by decide +kernel
theorem dX3_addVoice_15 : decode cX3_addVoice 15 = .ok (.invokevirtual 77, 3) := by decide +kernel
theorem dX3_addVoice_18 : decode cX3_addVoice 18 = .ok (.ireturn, 1) := by decide +kernel
theorem dX3_addVoice_19 : decode cX3_addVoice 19 = .ok (.aload_n 0, 1) := by decide +kernel
theorem dX3_addVoice_20 : decode cX3_addVoice 20 = .ok (.dup, 1) := by decide +kernel
theorem dX3_addVoice_21 : decode cX3_addVoice 21 = .ok (.getfield 40, 3) := by decide +kernel
theorem dX3_addVoice_24 : decode cX3_addVoice 24 = .ok (.iconst 1, 1) := by decide +kernel
theorem dX3_addVoice_25 : decode cX3_addVoice 25 = .ok (.iadd, 1) := by decide +kernel
theorem dX3_addVoice_26 : decode cX3_addVoice 26 = .ok (.putfield 40, 3) := by decide +kernel
theorem dX3_addVoice_29 : decode cX3_addVoice 29 = .ok (.aload_n 0, 1) := by decide +kernel
theorem dX3_addVoice_30 : decode cX3_addVoice 30 = .ok (.getfield 40, 3) := by decide +kernel
theorem dX3_addVoice_33 : decode cX3_addVoice 33 = .ok (.iconst 1, 1) := by decide +kernel
theorem dX3_addVoice_34 : decode cX3_addVoice 34 = .ok (.isub, 1) := by decide +kernel
theorem dX3_addVoice_35 : decode cX3_addVoice 35 = .ok (.ireturn, 1) := by decide +kernel
theorem dX3_findTimes_0 : decode cX3_findTimes 0 = .ok (.iconst 0, 1) := by decide +kernel
theorem dX3_findTimes_1 : decode cX3_findTimes 1 = .ok (.istore_n 2, 1) := by decide +kernel
theorem dX3_findTimes_2 : decode cX3_findTimes 2 = .ok (.iconst 0, 1) := by decide +kernel
theorem dX3_findTimes_3 : decode cX3_findTimes 3 = .ok (.istore_n 3, 1) := by decide +kernel
theorem dX3_findTimes_4 : decode cX3_findTimes 4 = .ok (.iload_n 3, 1) := by decide +kernel
theorem dX3_findTimes_5 : decode cX3_findTimes 5 = .ok (.aload_n 0, 1) := by decide +kernel
theorem dX3_findTimes_6 : decode cX3_findTimes 6 = .ok (.getfield 16, 3) := by decide +kernel
theorem dX3_findTimes_9 : decode cX3_findTimes 9 = .ok (.iload_n 1, 1) := by decide +kernel
theorem dX3_findTimes_10 : decode cX3_findTimes 10 = .ok (.iaload, 1) := by decide +kernel
theorem dX3_findTimes_11 : decode cX3_findTimes 11 = .ok (.if_icmp .ge 33, 3) := by decide +kernel
theorem dX3_findTimes_14 : decode cX3_findTimes 14 = .ok (.aload_n 0, 1) := by decide +kernel
theorem dX3_findTimes_15 : decode cX3_findTimes 15 = .ok (.getfield 22, 3) := by decide +kernel
theorem dX3_findTimes_18 : decode cX3_findTimes 18 = .ok (.iload_n 1, 1) := by decide +kernel
theorem dX3_findTimes_19 : decode cX3_findTimes 19 = .ok (.aaload, 1) := by decide +kernel
theorem dX3_findTimes_20 : decode cX3_findTimes 20 = .ok (.bipush 10, 2) := by decide +kernel
theorem dX3_findTimes_22 : decode cX3_findTimes 22 = .ok (.iload_n 3, 1) := by decide +kernel
theorem dX3_findTimes_23 : decode cX3_findTimes 23 = .ok (.imul, 1) := by decide +kernel
theorem dX3_findTimes_24 : decode cX3_findTimes 24 = .ok (.bipush 7, 2) := by decide +kernel
theorem dX3_findTimes_26 : decode cX3_findTimes 26 = .ok (.iadd, 1) := by decide +kernel
theorem dX3_findTimes_27 : decode cX3_findTimes 27 = .ok (.iload_n 2, 1) := by decide +kernel
theorem dX3_findTimes_28 : decode cX3_findTimes 28 = .ok (.iastore, 1) := by decide +kernel
theorem dX3_findTimes_29 : decode cX3_findTimes 29 = .ok (.iload_n 2, 1) := by decide +kernel
theorem dX3_findTimes_30 : decode cX3_findTimes 30 = .ok (.aload_n 0, 1) := by decide +kernel
theorem dX3_findTimes_31 : decode cX3_findTimes 31 = .ok (.iload_n 1, 1) := by decide +kernel
theorem dX3_findTimes_32 : decode cX3_findTimes 32 = .ok (.iload_n 3, 1) := by decide +kernel
theorem dX3_findTimes_33 : decode cX3_findTimes 33 = .ok (.invokevirtual 85, 3) := by decide +kernel
theorem dX3_findTimes_36 : decode cX3_findTimes 36 = .ok (.iadd, 1) := by decide +kernel
theorem dX3_findTimes_37 : decode cX3_findTimes 37 = .ok (.istore_n 2, 1) := by decide +kernel
theorem dX3_findTimes_38 : decode cX3_findTimes 38 = .ok (.iinc 3 1, 3) := by decide +kernel
theorem dX3_findTimes_41 : decode cX3_findTimes 41 = .ok (.goto (-37), 3) := by decide +kernel
theorem dX3_findTimes_44 : decode cX3_findTimes 44 = .ok (.aload_n 0, 1) := by decide +kernel
theorem dX3_findTimes_45 : decode cX3_findTimes 45 = .ok (.getfield 25, 3) := by decide +kernel
theorem dX3_findTimes_48 : decode cX3_findTimes 48 = .ok (.iload_n 1, 1) := by decide +kernel
theorem dX3_findTimes_49 : decode cX3_findTimes 49 = .ok (.iload_n 2, 1) := by decide +kernel
theorem dX3_findTimes_50 : decode cX3_findTimes 50 = .ok (.iastore, 1) := by decide +kernel
theorem dX3_findTimes_51 : decode cX3_findTimes 51 = .ok (.return_, 1) := by decide +kernel
theorem dX3_barsBegun_0 : decode cX3_barsBegun 0 = .ok (.iconst 0, 1) := by decide +kernel
theorem dX3_barsBegun_1 : decode cX3_barsBegun 1 = .ok (.istore_n 1, 1) := by decide +kernel
theorem dX3_barsBegun_2 : decode cX3_barsBegun 2 = .ok (.iconst 0, 1) := by decide +kernel
theorem dX3_barsBegun_3 : decode cX3_barsBegun 3 = .ok (.istore_n 2, 1) := by decide +kernel
theorem dX3_barsBegun_4 : decode cX3_barsBegun 4 = .ok (.iload_n 2, 1) := by decide +kernel
theorem dX3_barsBegun_5 : decode cX3_barsBegun 5 = .ok (.aload_n 0, 1) := by decide +kernel
theorem dX3_barsBegun_6 : decode cX3_barsBegun 6 = .ok (.getfield 40, 3) := by decide +kernel
theorem dX3_barsBegun_9 : decode cX3_barsBegun 9 = .ok (.if_icmp .ge 50, 3) := by decide +kernel
theorem dX3_barsBegun_12 : decode cX3_barsBegun 12 = .ok (.aload_n 0, 1) := by decide +kernel
theorem dX3_barsBegun_13 : decode cX3_barsBegun 13 = .ok (.iload_n 2, 1) := by decide +kernel
theorem dX3_barsBegun_14 : decode cX3_barsBegun 14 = .ok (.invokevirtual 88, 3) := by decide +kernel
theorem dX3_barsBegun_17 : decode cX3_barsBegun 17 = .ok (.aload_n 0, 1) := by decide +kernel
theorem dX3_barsBegun_18 : decode cX3_barsBegun 18 = .ok (.getfield 16, 3) := by decide +kernel
theorem dX3_barsBegun_21 : decode cX3_barsBegun 21 = .ok (.iload_n 2, 1) := by decide +kernel
theorem dX3_barsBegun_22 : decode cX3_barsBegun 22 = .ok (.iaload, 1) := by decide +kernel
theorem dX3_barsBegun_23 : decode cX3_barsBegun 23 = .ok (.ifCond .le 30, 3) := by decide +kernel
theorem dX3_barsBegun_26 : decode cX3_barsBegun 26 = .ok (.iload_n 1, 1) := by decide +kernel
theorem dX3_barsBegun_27 : decode cX3_barsBegun 27 = .ok (.aload_n 0, 1) := by decide +kernel
theorem dX3_barsBegun_28 : decode cX3_barsBegun 28 = .ok (.iload_n 2, 1) := by decide +kernel
theorem dX3_barsBegun_29 : decode cX3_barsBegun 29 = .ok (.aload_n 0, 1) := by decide +kernel
theorem dX3_barsBegun_30 : decode cX3_barsBegun 30 = .ok (.getfield 16, 3) := by decide +kernel
theorem dX3_barsBegun_33 : decode cX3_barsBegun 33 = .ok (.iload_n 2, 1) := by decide +kernel
theorem dX3_barsBegun_34 : decode cX3_barsBegun 34 = .ok (.iaload, 1) := by decide +kernel
theorem dX3_barsBegun_35 : decode cX3_barsBegun 35 = .ok (.iconst 1, 1) := by decide +kernel
theorem dX3_barsBegun_36 : decode cX3_barsBegun 36 = .ok (.isub, 1) := by decide +kernel
theorem dX3_barsBegun_37 : decode cX3_barsBegun 37 = .ok (.bipush 7, 2) := by decide +kernel
theorem dX3_barsBegun_39 : decode cX3_barsBegun 39 = .ok (.invokevirtual 57, 3) := by decide +kernel
theorem dX3_barsBegun_42 : decode cX3_barsBegun 42 = .ok (.aload_n 0, 1) := by decide +kernel
theorem dX3_barsBegun_43 : decode cX3_barsBegun 43 = .ok (.invokevirtual 81, 3) := by decide +kernel
theorem dX3_barsBegun_46 : decode cX3_barsBegun 46 = .ok (.idiv, 1) := by decide +kernel
theorem dX3_barsBegun_47 : decode cX3_barsBegun 47 = .ok (.iconst 1, 1) := by decide +kernel
theorem dX3_barsBegun_48 : decode cX3_barsBegun 48 = .ok (.iadd, 1) := by decide +kernel
theorem dX3_barsBegun_49 : decode cX3_barsBegun 49 = .ok (.invokestatic 92, 3) := by decide +kernel
theorem dX3_barsBegun_52 : decode cX3_barsBegun 52 = .ok (.istore_n 1, 1) := by decide +kernel
theorem dX3_barsBegun_53 : decode cX3_barsBegun 53 = .ok (.iinc 2 1, 3) := by decide +kernel
theorem dX3_barsBegun_56 : decode cX3_barsBegun 56 = .ok (.goto (-52), 3) := by decide +kernel
theorem dX3_barsBegun_59 : decode cX3_barsBegun 59 = .ok (.iload_n 1, 1) := by decide +kernel
theorem dX3_barsBegun_60 : decode cX3_barsBegun 60 = .ok (.ireturn, 1) := by decide +kernel
theorem dX3_scoreTold_0 : decode cX3_scoreTold 0 = .ok (.iload_n 1, 1) := by decide +kernel
theorem dX3_scoreTold_1 : decode cX3_scoreTold 1 = .ok (.iconst 3, 1) := by decide +kernel
theorem dX3_scoreTold_2 : decode cX3_scoreTold 2 = .ok (.if_icmp .ge 31, 3) := by decide +kernel
theorem dX3_scoreTold_5 : decode cX3_scoreTold 5 = .ok (.iload_n 1, 1) := by decide +kernel
theorem dX3_scoreTold_6 : decode cX3_scoreTold 6 = .ok (.ifCond .ne 10, 3) := by decide +kernel
theorem dX3_scoreTold_9 : decode cX3_scoreTold 9 = .ok (.aload_n 0, 1) := by decide +kernel
theorem dX3_scoreTold_10 : decode cX3_scoreTold 10 = .ok (.getfield 40, 3) := by decide +kernel
theorem dX3_scoreTold_13 : decode cX3_scoreTold 13 = .ok (.goto 19, 3) := by decide +kernel
theorem dX3_scoreTold_16 : decode cX3_scoreTold 16 = .ok (.iload_n 1, 1) := by decide +kernel
theorem dX3_scoreTold_17 : decode cX3_scoreTold 17 = .ok (.iconst 1, 1) := by decide +kernel
theorem dX3_scoreTold_18 : decode cX3_scoreTold 18 = .ok (.if_icmp .ne 10, 3) := by decide +kernel
theorem dX3_scoreTold_21 : decode cX3_scoreTold 21 = .ok (.aload_n 0, 1) := by decide +kernel
theorem dX3_scoreTold_22 : decode cX3_scoreTold 22 = .ok (.invokevirtual 81, 3) := by decide +kernel
theorem dX3_scoreTold_25 : decode cX3_scoreTold 25 = .ok (.goto 7, 3) := by decide +kernel
theorem dX3_scoreTold_28 : decode cX3_scoreTold 28 = .ok (.aload_n 0, 1) := by decide +kernel
theorem dX3_scoreTold_29 : decode cX3_scoreTold 29 = .ok (.getfield 74, 3) := by decide +kernel
theorem dX3_scoreTold_32 : decode cX3_scoreTold 32 = .ok (.ireturn, 1) := by decide +kernel
theorem dX3_scoreTold_33 : decode cX3_scoreTold 33 = .ok (.aload_n 0, 1) := by decide +kernel
theorem dX3_scoreTold_34 : decode cX3_scoreTold 34 = .ok (.invokevirtual 97, 3) := by decide +kernel
theorem dX3_scoreTold_37 : decode cX3_scoreTold 37 = .ok (.istore_n 2, 1) := by decide +kernel
theorem dX3_scoreTold_38 : decode cX3_scoreTold 38 = .ok (.iload_n 1, 1) := by decide +kernel
theorem dX3_scoreTold_39 : decode cX3_scoreTold 39 = .ok (.iconst 3, 1) := by decide +kernel
theorem dX3_scoreTold_40 : decode cX3_scoreTold 40 = .ok (.if_icmp .ne 5, 3) := by decide +kernel
theorem dX3_scoreTold_43 : decode cX3_scoreTold 43 = .ok (.iload_n 2, 1) := by decide +kernel
theorem dX3_scoreTold_44 : decode cX3_scoreTold 44 = .ok (.ireturn, 1) := by decide +kernel
theorem dX3_scoreTold_45 : decode cX3_scoreTold 45 = .ok (.iconst 0, 1) := by decide +kernel
theorem dX3_scoreTold_46 : decode cX3_scoreTold 46 = .ok (.istore_n 3, 1) := by decide +kernel
theorem dX3_scoreTold_47 : decode cX3_scoreTold 47 = .ok (.iconst 0, 1) := by decide +kernel
theorem dX3_scoreTold_48 : decode cX3_scoreTold 48 = .ok (.istore 4, 2) := by decide +kernel
theorem dX3_scoreTold_50 : decode cX3_scoreTold 50 = .ok (.iload 4, 2) := by decide +kernel
theorem dX3_scoreTold_52 : decode cX3_scoreTold 52 = .ok (.aload_n 0, 1) := by decide +kernel
theorem dX3_scoreTold_53 : decode cX3_scoreTold 53 = .ok (.getfield 40, 3) := by decide +kernel
theorem dX3_scoreTold_56 : decode cX3_scoreTold 56 = .ok (.if_icmp .ge 21, 3) := by decide +kernel
theorem dX3_scoreTold_59 : decode cX3_scoreTold 59 = .ok (.iload_n 3, 1) := by decide +kernel
theorem dX3_scoreTold_60 : decode cX3_scoreTold 60 = .ok (.aload_n 0, 1) := by decide +kernel
theorem dX3_scoreTold_61 : decode cX3_scoreTold 61 = .ok (.getfield 25, 3) := by decide +kernel
theorem dX3_scoreTold_64 : decode cX3_scoreTold 64 = .ok (.iload 4, 2) := by decide +kernel
theorem dX3_scoreTold_66 : decode cX3_scoreTold 66 = .ok (.iaload, 1) := by decide +kernel
theorem dX3_scoreTold_67 : decode cX3_scoreTold 67 = .ok (.invokestatic 92, 3) := by decide +kernel
theorem dX3_scoreTold_70 : decode cX3_scoreTold 70 = .ok (.istore_n 3, 1) := by decide +kernel
theorem dX3_scoreTold_71 : decode cX3_scoreTold 71 = .ok (.iinc 4 1, 3) := by decide +kernel
theorem dX3_scoreTold_74 : decode cX3_scoreTold 74 = .ok (.goto (-24), 3) := by decide +kernel
theorem dX3_scoreTold_77 : decode cX3_scoreTold 77 = .ok (.iload_n 3, 1) := by decide +kernel
theorem dX3_scoreTold_78 : decode cX3_scoreTold 78 = .ok (.ireturn, 1) := by decide +kernel
theorem dX3_score_0 : decode cX3_score 0 = .ok (.aload_n 0, 1) := by decide +kernel
theorem dX3_score_1 : decode cX3_score 1 = .ok (.iconst 0, 1) := by decide +kernel
theorem dX3_score_2 : decode cX3_score 2 = .ok (.putfield 37, 3) := by decide +kernel
theorem dX3_score_5 : decode cX3_score 5 = .ok (.iload_n 1, 1) := by decide +kernel
theorem dX3_score_6 : decode cX3_score 6 = .ok (.iconst 0, 1) := by decide +kernel
theorem dX3_score_7 : decode cX3_score 7 = .ok (.iconst 4, 1) := by decide +kernel
theorem dX3_score_8 : decode cX3_score 8 = .ok (.invokestatic 43, 3) := by decide +kernel
theorem dX3_score_11 : decode cX3_score 11 = .ok (.ifCond .eq 11, 3) := by decide +kernel
theorem dX3_score_14 : decode cX3_score 14 = .ok (.aload_n 0, 1) := by decide +kernel
theorem dX3_score_15 : decode cX3_score 15 = .ok (.iload_n 1, 1) := by decide +kernel
theorem dX3_score_16 : decode cX3_score 16 = .ok (.invokevirtual 100, 3) := by decide +kernel
theorem dX3_score_19 : decode cX3_score 19 = .ok (.goto 8, 3) := by decide +kernel
theorem dX3_score_22 : decode cX3_score 22 = .ok (.aload_n 0, 1) := by decide +kernel
theorem dX3_score_23 : decode cX3_score 23 = .ok (.iconst 1, 1) := by decide +kernel
theorem dX3_score_24 : decode cX3_score 24 = .ok (.invokevirtual 77, 3) := by decide +kernel
theorem dX3_score_27 : decode cX3_score 27 = .ok (.ireturn, 1) := by decide +kernel
theorem dX3_sign_0 : decode cX3_sign 0 = .ok (.aload_n 0, 1) := by decide +kernel
theorem dX3_sign_1 : decode cX3_sign 1 = .ok (.iconst 0, 1) := by decide +kernel
theorem dX3_sign_2 : decode cX3_sign 2 = .ok (.putfield 37, 3) := by decide +kernel
theorem dX3_sign_5 : decode cX3_sign 5 = .ok (.iload_n 1, 1) := by decide +kernel
theorem dX3_sign_6 : decode cX3_sign 6 = .ok (.iconst 0, 1) := by decide +kernel
theorem dX3_sign_7 : decode cX3_sign 7 = .ok (.bipush 6, 2) := by decide +kernel
theorem dX3_sign_9 : decode cX3_sign 9 = .ok (.invokestatic 43, 3) := by decide +kernel
theorem dX3_sign_12 : decode cX3_sign 12 = .ok (.ifCond .eq 11, 3) := by decide +kernel
theorem dX3_sign_15 : decode cX3_sign 15 = .ok (.aload_n 0, 1) := by decide +kernel
theorem dX3_sign_16 : decode cX3_sign 16 = .ok (.iload_n 1, 1) := by decide +kernel
theorem dX3_sign_17 : decode cX3_sign 17 = .ok (.invokevirtual 103, 3) := by decide +kernel
theorem dX3_sign_20 : decode cX3_sign 20 = .ok (.goto 8, 3) := by decide +kernel
theorem dX3_sign_23 : decode cX3_sign 23 = .ok (.aload_n 0, 1) := by decide +kernel
theorem dX3_sign_24 : decode cX3_sign 24 = .ok (.iconst 1, 1) := by decide +kernel
theorem dX3_sign_25 : decode cX3_sign 25 = .ok (.invokevirtual 77, 3) := by decide +kernel
theorem dX3_sign_28 : decode cX3_sign 28 = .ok (.ireturn, 1) := by decide +kernel
theorem dX3_ticks_0 : decode cX3_ticks 0 = .ok (.aload_n 0, 1) := by decide +kernel
theorem dX3_ticks_1 : decode cX3_ticks 1 = .ok (.iconst 0, 1) := by decide +kernel
theorem dX3_ticks_2 : decode cX3_ticks 2 = .ok (.putfield 37, 3) := by decide +kernel
theorem dX3_ticks_5 : decode cX3_ticks 5 = .ok (.iload_n 1, 1) := by decide +kernel
theorem dX3_ticks_6 : decode cX3_ticks 6 = .ok (.iload_n 2, 1) := by decide +kernel
theorem dX3_ticks_7 : decode cX3_ticks 7 = .ok (.invokestatic 106, 3) := by decide +kernel
theorem dX3_ticks_10 : decode cX3_ticks 10 = .ok (.ifCond .eq 11, 3) := by decide +kernel
theorem dX3_ticks_13 : decode cX3_ticks 13 = .ok (.iload_n 1, 1) := by decide +kernel
theorem dX3_ticks_14 : decode cX3_ticks 14 = .ok (.iload_n 2, 1) := by decide +kernel
theorem dX3_ticks_15 : decode cX3_ticks 15 = .ok (.invokestatic 61, 3) := by decide +kernel
theorem dX3_ticks_18 : decode cX3_ticks 18 = .ok (.goto 8, 3) := by decide +kernel
theorem dX3_ticks_21 : decode cX3_ticks 21 = .ok (.aload_n 0, 1) := by decide +kernel
theorem dX3_ticks_22 : decode cX3_ticks 22 = .ok (.iconst 1, 1) := by decide +kernel
theorem dX3_ticks_23 : decode cX3_ticks 23 = .ok (.invokevirtual 77, 3) := by decide +kernel
theorem dX3_ticks_26 : decode cX3_ticks 26 = .ok (.ireturn, 1) := by decide +kernel
theorem dX3_cut_0 : decode cX3_cut 0 = .ok (.iload_n 2, 1) := by decide +kernel
theorem dX3_cut_1 : decode cX3_cut 1 = .ok (.aload_n 3, 1) := by decide +kernel
theorem dX3_cut_2 : decode cX3_cut 2 = .ok (.iconst 0, 1) := by decide +kernel
theorem dX3_cut_3 : decode cX3_cut 3 = .ok (.iaload, 1) := by decide +kernel
theorem dX3_cut_4 : decode cX3_cut 4 = .ok (.aload_n 3, 1) := by decide +kernel
theorem dX3_cut_5 : decode cX3_cut 5 = .ok (.iconst 1, 1) := by decide +kernel
theorem dX3_cut_6 : decode cX3_cut 6 = .ok (.iaload, 1) := by decide +kernel
theorem dX3_cut_7 : decode cX3_cut 7 = .ok (.invokestatic 61, 3) := by decide +kernel
theorem dX3_cut_10 : decode cX3_cut 10 = .ok (.iadd, 1) := by decide +kernel
theorem dX3_cut_11 : decode cX3_cut 11 = .ok (.istore 5, 2) := by decide +kernel
theorem dX3_cut_13 : decode cX3_cut 13 = .ok (.iload 5, 2) := by decide +kernel
theorem dX3_cut_15 : decode cX3_cut 15 = .ok (.iconst 1, 1) := by decide +kernel
theorem dX3_cut_16 : decode cX3_cut 16 = .ok (.isub, 1) := by decide +kernel
theorem dX3_cut_17 : decode cX3_cut 17 = .ok (.aload_n 0, 1) := by decide +kernel
theorem dX3_cut_18 : decode cX3_cut 18 = .ok (.invokevirtual 81, 3) := by decide +kernel
theorem dX3_cut_21 : decode cX3_cut 21 = .ok (.idiv, 1) := by decide +kernel
theorem dX3_cut_22 : decode cX3_cut 22 = .ok (.iload_n 2, 1) := by decide +kernel
theorem dX3_cut_23 : decode cX3_cut 23 = .ok (.aload_n 0, 1) := by decide +kernel
theorem dX3_cut_24 : decode cX3_cut 24 = .ok (.invokevirtual 81, 3) := by decide +kernel
theorem dX3_cut_27 : decode cX3_cut 27 = .ok (.idiv, 1) := by decide +kernel
theorem dX3_cut_28 : decode cX3_cut 28 = .ok (.if_icmp .ne 7, 3) := by decide +kernel
theorem dX3_cut_31 : decode cX3_cut 31 = .ok (.iconst 1, 1) := by decide +kernel
theorem dX3_cut_32 : decode cX3_cut 32 = .ok (.goto 4, 3) := by decide +kernel
theorem dX3_cut_35 : decode cX3_cut 35 = .ok (.iconst 0, 1) := by decide +kernel
theorem dX3_cut_36 : decode cX3_cut 36 = .ok (.istore 6, 2) := by decide +kernel
theorem dX3_cut_38 : decode cX3_cut 38 = .ok (.iload_n 2, 1) := by decide +kernel
theorem dX3_cut_39 : decode cX3_cut 39 = .ok (.istore 7, 2) := by decide +kernel
theorem dX3_cut_41 : decode cX3_cut 41 = .ok (.iconst 0, 1) := by decide +kernel
theorem dX3_cut_42 : decode cX3_cut 42 = .ok (.istore 8, 2) := by decide +kernel
theorem dX3_cut_44 : decode cX3_cut 44 = .ok (.iload 7, 2) := by decide +kernel
theorem dX3_cut_46 : decode cX3_cut 46 = .ok (.iload 5, 2) := by decide +kernel
theorem dX3_cut_48 : decode cX3_cut 48 = .ok (.if_icmp .ge 193, 3) := by decide +kernel
theorem dX3_cut_51 : decode cX3_cut 51 = .ok (.iconst 0, 1) := by decide +kernel
theorem dX3_cut_52 : decode cX3_cut 52 = .ok (.istore 9, 2) := by decide +kernel
theorem dX3_cut_54 : decode cX3_cut 54 = .ok (.iload 5, 2) := by decide +kernel
theorem dX3_cut_56 : decode cX3_cut 56 = .ok (.iload 7, 2) := by decide +kernel
theorem dX3_cut_58 : decode cX3_cut 58 = .ok (.aload_n 0, 1) := by decide +kernel
theorem dX3_cut_59 : decode cX3_cut 59 = .ok (.invokevirtual 81, 3) := by decide +kernel
theorem dX3_cut_62 : decode cX3_cut 62 = .ok (.idiv, 1) := by decide +kernel
theorem dX3_cut_63 : decode cX3_cut 63 = .ok (.iconst 1, 1) := by decide +kernel
theorem dX3_cut_64 : decode cX3_cut 64 = .ok (.iadd, 1) := by decide +kernel
theorem dX3_cut_65 : decode cX3_cut 65 = .ok (.aload_n 0, 1) := by decide +kernel
theorem dX3_cut_66 : decode cX3_cut 66 = .ok (.invokevirtual 81, 3) := by decide +kernel
theorem dX3_cut_69 : decode cX3_cut 69 = .ok (.imul, 1) := by decide +kernel
theorem dX3_cut_70 : decode cX3_cut 70 = .ok (.invokestatic 110, 3) := by decide +kernel
theorem dX3_cut_73 : decode cX3_cut 73 = .ok (.iload 7, 2) := by decide +kernel
theorem dX3_cut_75 : decode cX3_cut 75 = .ok (.isub, 1) := by decide +kernel
theorem dX3_cut_76 : decode cX3_cut 76 = .ok (.istore 10, 2) := by decide +kernel
theorem dX3_cut_78 : decode cX3_cut 78 = .ok (.getstatic 51, 3) := by decide +kernel
theorem dX3_cut_81 : decode cX3_cut 81 = .ok (.iload 9, 2) := by decide +kernel
theorem dX3_cut_83 : decode cX3_cut 83 = .ok (.iaload, 1) := by decide +kernel
theorem dX3_cut_84 : decode cX3_cut 84 = .ok (.getstatic 54, 3) := by decide +kernel
theorem dX3_cut_87 : decode cX3_cut 87 = .ok (.iload 9, 2) := by decide +kernel
theorem dX3_cut_89 : decode cX3_cut 89 = .ok (.iaload, 1) := by decide +kernel
theorem dX3_cut_90 : decode cX3_cut 90 = .ok (.invokestatic 61, 3) := by decide +kernel
theorem dX3_cut_93 : decode cX3_cut 93 = .ok (.iload 10, 2) := by decide +kernel
theorem dX3_cut_95 : decode cX3_cut 95 = .ok (.if_icmp .le 9, 3) := by decide +kernel
theorem dX3_cut_98 : decode cX3_cut 98 = .ok (.iinc 9 1, 3) := by decide +kernel
theorem dX3_cut_101 : decode cX3_cut 101 = .ok (.goto (-23), 3) := by decide +kernel
theorem dX3_cut_104 : decode cX3_cut 104 = .ok (.iload 6, 2) := by decide +kernel
theorem dX3_cut_106 : decode cX3_cut 106 = .ok (.ifCond .eq 10, 3) := by decide +kernel
theorem dX3_cut_109 : decode cX3_cut 109 = .ok (.iload 5, 2) := by decide +kernel
theorem dX3_cut_111 : decode cX3_cut 111 = .ok (.iload_n 2, 1) := by decide +kernel
theorem dX3_cut_112 : decode cX3_cut 112 = .ok (.isub, 1) := by decide +kernel
theorem dX3_cut_113 : decode cX3_cut 113 = .ok (.goto 18, 3) := by decide +kernel
theorem dX3_cut_116 : decode cX3_cut 116 = .ok (.getstatic 51, 3) := by decide +kernel
theorem dX3_cut_119 : decode cX3_cut 119 = .ok (.iload 9, 2) := by decide +kernel
theorem dX3_cut_121 : decode cX3_cut 121 = .ok (.iaload, 1) := by decide +kernel
theorem dX3_cut_122 : decode cX3_cut 122 = .ok (.getstatic 54, 3) := by decide +kernel
theorem dX3_cut_125 : decode cX3_cut 125 = .ok (.iload 9, 2) := by decide +kernel
theorem dX3_cut_127 : decode cX3_cut 127 = .ok (.iaload, 1) := by decide +kernel
theorem dX3_cut_128 : decode cX3_cut 128 = .ok (.invokestatic 61, 3) := by decide +kernel
theorem dX3_cut_131 : decode cX3_cut 131 = .ok (.istore 11, 2) := by decide +kernel
theorem dX3_cut_133 : decode cX3_cut 133 = .ok (.iload 7, 2) := by decide +kernel
theorem dX3_cut_135 : decode cX3_cut 135 = .ok (.iload 11, 2) := by decide +kernel
theorem dX3_cut_137 : decode cX3_cut 137 = .ok (.iadd, 1) := by decide +kernel
theorem dX3_cut_138 : decode cX3_cut 138 = .ok (.istore 7, 2) := by decide +kernel
theorem dX3_cut_140 : decode cX3_cut 140 = .ok (.iload 4, 2) := by decide +kernel
theorem dX3_cut_142 : decode cX3_cut 142 = .ok (.ifCond .eq 93, 3) := by decide +kernel
theorem dX3_cut_145 : decode cX3_cut 145 = .ok (.bipush 10, 2) := by decide +kernel
theorem dX3_cut_147 : decode cX3_cut 147 = .ok (.aload_n 0, 1) := by decide +kernel
theorem dX3_cut_148 : decode cX3_cut 148 = .ok (.getfield 16, 3) := by decide +kernel
theorem dX3_cut_151 : decode cX3_cut 151 = .ok (.iload_n 1, 1) := by decide +kernel
theorem dX3_cut_152 : decode cX3_cut 152 = .ok (.iaload, 1) := by decide +kernel
theorem dX3_cut_153 : decode cX3_cut 153 = .ok (.iload 8, 2) := by decide +kernel
theorem dX3_cut_155 : decode cX3_cut 155 = .ok (.iadd, 1) := by decide +kernel
theorem dX3_cut_156 : decode cX3_cut 156 = .ok (.imul, 1) := by decide +kernel
theorem dX3_cut_157 : decode cX3_cut 157 = .ok (.istore 12, 2) := by decide +kernel
theorem dX3_cut_159 : decode cX3_cut 159 = .ok (.aload_n 3, 1) := by decide +kernel
theorem dX3_cut_160 : decode cX3_cut 160 = .ok (.iconst 0, 1) := by decide +kernel
theorem dX3_cut_161 : decode cX3_cut 161 = .ok (.aload_n 0, 1) := by decide +kernel
theorem dX3_cut_162 : decode cX3_cut 162 = .ok (.getfield 22, 3) := by decide +kernel
theorem dX3_cut_165 : decode cX3_cut 165 = .ok (.iload_n 1, 1) := by decide +kernel
theorem dX3_cut_166 : decode cX3_cut 166 = .ok (.aaload, 1) := by decide +kernel
theorem dX3_cut_167 : decode cX3_cut 167 = .ok (.iload 12, 2) := by decide +kernel
theorem dX3_cut_169 : decode cX3_cut 169 = .ok (.bipush 7, 2) := by decide +kernel
theorem dX3_cut_171 : decode cX3_cut 171 = .ok (.invokestatic 113, 3) := by decide +kernel
theorem dX3_cut_174 : decode cX3_cut 174 = .ok (.iload 6, 2) := by decide +kernel
theorem dX3_cut_176 : decode cX3_cut 176 = .ok (.ifCond .ne 37, 3) := by decide +kernel
theorem dX3_cut_179 : decode cX3_cut 179 = .ok (.aload_n 0, 1) := by decide +kernel
theorem dX3_cut_180 : decode cX3_cut 180 = .ok (.getfield 22, 3) := by decide +kernel
theorem dX3_cut_183 : decode cX3_cut 183 = .ok (.iload_n 1, 1) := by decide +kernel
theorem dX3_cut_184 : decode cX3_cut 184 = .ok (.aaload, 1) := by decide +kernel
theorem dX3_cut_185 : decode cX3_cut 185 = .ok (.iload 12, 2) := by decide +kernel
theorem dX3_cut_187 : decode cX3_cut 187 = .ok (.iconst 0, 1) := by decide +kernel
theorem dX3_cut_188 : decode cX3_cut 188 = .ok (.iadd, 1) := by decide +kernel
theorem dX3_cut_189 : decode cX3_cut 189 = .ok (.getstatic 51, 3) := by decide +kernel
theorem dX3_cut_192 : decode cX3_cut 192 = .ok (.iload 9, 2) := by decide +kernel
theorem dX3_cut_194 : decode cX3_cut 194 = .ok (.iaload, 1) := by decide +kernel
theorem dX3_cut_195 : decode cX3_cut 195 = .ok (.iastore, 1) := by decide +kernel
theorem dX3_cut_196 : decode cX3_cut 196 = .ok (.aload_n 0, 1) := by decide +kernel
theorem dX3_cut_197 : decode cX3_cut 197 = .ok (.getfield 22, 3) := by decide +kernel
theorem dX3_cut_200 : decode cX3_cut 200 = .ok (.iload_n 1, 1) := by decide +kernel
theorem dX3_cut_201 : decode cX3_cut 201 = .ok (.aaload, 1) := by decide +kernel
theorem dX3_cut_202 : decode cX3_cut 202 = .ok (.iload 12, 2) := by decide +kernel
theorem dX3_cut_204 : decode cX3_cut 204 = .ok (.iconst 1, 1) := by decide +kernel
theorem dX3_cut_205 : decode cX3_cut 205 = .ok (.iadd, 1) := by decide +kernel
theorem dX3_cut_206 : decode cX3_cut 206 = .ok (.getstatic 54, 3) := by decide +kernel
theorem dX3_cut_209 : decode cX3_cut 209 = .ok (.iload 9, 2) := by decide +kernel
theorem dX3_cut_211 : decode cX3_cut 211 = .ok (.iaload, 1) := by decide +kernel
theorem dX3_cut_212 : decode cX3_cut 212 = .ok (.iastore, 1) := by decide +kernel
theorem dX3_cut_213 : decode cX3_cut 213 = .ok (.iload 7, 2) := by decide +kernel
theorem dX3_cut_215 : decode cX3_cut 215 = .ok (.iload 5, 2) := by decide +kernel
theorem dX3_cut_217 : decode cX3_cut 217 = .ok (.if_icmp .ge 18, 3) := by decide +kernel
theorem dX3_cut_220 : decode cX3_cut 220 = .ok (.aload_n 0, 1) := by decide +kernel
theorem dX3_cut_221 : decode cX3_cut 221 = .ok (.getfield 22, 3) := by decide +kernel
theorem dX3_cut_224 : decode cX3_cut 224 = .ok (.iload_n 1, 1) := by decide +kernel
theorem dX3_cut_225 : decode cX3_cut 225 = .ok (.aaload, 1) := by decide +kernel
theorem dX3_cut_226 : decode cX3_cut 226 = .ok (.iload 12, 2) := by decide +kernel
theorem dX3_cut_228 : decode cX3_cut 228 = .ok (.bipush 6, 2) := by decide +kernel
theorem dX3_cut_230 : decode cX3_cut 230 = .ok (.iadd, 1) := by decide +kernel
theorem dX3_cut_231 : decode cX3_cut 231 = .ok (.aload_n 3, 1) := by decide +kernel
theorem dX3_cut_232 : decode cX3_cut 232 = .ok (.iconst 2, 1) := by decide +kernel
theorem dX3_cut_233 : decode cX3_cut 233 = .ok (.iaload, 1) := by decide +kernel
theorem dX3_cut_234 : decode cX3_cut 234 = .ok (.iastore, 1) := by decide +kernel
theorem dX3_cut_235 : decode cX3_cut 235 = .ok (.iinc 8 1, 3) := by decide +kernel
theorem dX3_cut_238 : decode cX3_cut 238 = .ok (.goto (-194), 3) := by decide +kernel
theorem dX3_cut_241 : decode cX3_cut 241 = .ok (.iload 8, 2) := by decide +kernel
theorem dX3_cut_243 : decode cX3_cut 243 = .ok (.ireturn, 1) := by decide +kernel
theorem dX3_add_0 : decode cX3_add 0 = .ok (.aload_n 0, 1) := by decide +kernel
theorem dX3_add_1 : decode cX3_add 1 = .ok (.iconst 0, 1) := by decide +kernel
theorem dX3_add_2 : decode cX3_add 2 = .ok (.putfield 37, 3) := by decide +kernel
theorem dX3_add_5 : decode cX3_add 5 = .ok (.aload_n 0, 1) := by decide +kernel
theorem dX3_add_6 : decode cX3_add 6 = .ok (.iload_n 1, 1) := by decide +kernel
theorem dX3_add_7 : decode cX3_add 7 = .ok (.invokevirtual 47, 3) := by decide +kernel
theorem dX3_add_10 : decode cX3_add 10 = .ok (.ifCond .ne 9, 3) := by decide +kernel
theorem dX3_add_13 : decode cX3_add 13 = .ok (.aload_n 0, 1) := by decide +kernel
theorem dX3_add_14 : decode cX3_add 14 = .ok (.iconst 1, 1) := by decide +kernel
theorem dX3_add_15 : decode cX3_add 15 = .ok (.invokevirtual 77, 3) := by decide +kernel
theorem dX3_add_18 : decode cX3_add 18 = .ok (.ireturn, 1) := by decide +kernel
theorem dX3_add_19 : decode cX3_add 19 = .ok (.iload_n 2, 1) := by decide +kernel
theorem dX3_add_20 : decode cX3_add 20 = .ok (.ifCond .ne 9, 3) := by decide +kernel
theorem dX3_add_23 : decode cX3_add 23 = .ok (.aload_n 0, 1) := by decide +kernel
theorem dX3_add_24 : decode cX3_add 24 = .ok (.iconst 2, 1) := by decide +kernel
theorem dX3_add_25 : decode cX3_add 25 = .ok (.invokevirtual 77, 3) := by decide +kernel
theorem dX3_add_28 : decode cX3_add 28 = .ok (.ireturn, 1) := by decide +kernel
theorem dX3_add_29 : decode cX3_add 29 = .ok (.aload_n 0, 1) := by decide +kernel
theorem dX3_add_30 : decode cX3_add 30 = .ok (.iload_n 1, 1) := by decide +kernel
theorem dX3_add_31 : decode cX3_add 31 = .ok (.invokevirtual 88, 3) := by decide +kernel
theorem dX3_add_34 : decode cX3_add 34 = .ok (.aload_n 0, 1) := by decide +kernel
theorem dX3_add_35 : decode cX3_add 35 = .ok (.iload_n 1, 1) := by decide +kernel
theorem dX3_add_36 : decode cX3_add 36 = .ok (.aload_n 0, 1) := by decide +kernel
theorem dX3_add_37 : decode cX3_add 37 = .ok (.getfield 25, 3) := by decide +kernel
theorem dX3_add_40 : decode cX3_add 40 = .ok (.iload_n 1, 1) := by decide +kernel
theorem dX3_add_41 : decode cX3_add 41 = .ok (.iaload, 1) := by decide +kernel
theorem dX3_add_42 : decode cX3_add 42 = .ok (.aload_n 3, 1) := by decide +kernel
theorem dX3_add_43 : decode cX3_add 43 = .ok (.iconst 0, 1) := by decide +kernel
theorem dX3_add_44 : decode cX3_add 44 = .ok (.invokevirtual 119, 3) := by decide +kernel
theorem dX3_add_47 : decode cX3_add 47 = .ok (.istore 4, 2) := by decide +kernel
theorem dX3_add_49 : decode cX3_add 49 = .ok (.aload_n 0, 1) := by decide +kernel
theorem dX3_add_50 : decode cX3_add 50 = .ok (.getfield 16, 3) := by decide +kernel
theorem dX3_add_53 : decode cX3_add 53 = .ok (.iload_n 1, 1) := by decide +kernel
theorem dX3_add_54 : decode cX3_add 54 = .ok (.iaload, 1) := by decide +kernel
theorem dX3_add_55 : decode cX3_add 55 = .ok (.iload 4, 2) := by decide +kernel
theorem dX3_add_57 : decode cX3_add 57 = .ok (.iadd, 1) := by decide +kernel
theorem dX3_add_58 : decode cX3_add 58 = .ok (.sipush 200, 3) := by decide +kernel
theorem dX3_add_61 : decode cX3_add 61 = .ok (.if_icmp .gt 29, 3) := by decide +kernel
theorem dX3_add_64 : decode cX3_add 64 = .ok (.aload_n 0, 1) := by decide +kernel
theorem dX3_add_65 : decode cX3_add 65 = .ok (.getfield 25, 3) := by decide +kernel
theorem dX3_add_68 : decode cX3_add 68 = .ok (.iload_n 1, 1) := by decide +kernel
theorem dX3_add_69 : decode cX3_add 69 = .ok (.iaload, 1) := by decide +kernel
theorem dX3_add_70 : decode cX3_add 70 = .ok (.aload_n 3, 1) := by decide +kernel
theorem dX3_add_71 : decode cX3_add 71 = .ok (.iconst 0, 1) := by decide +kernel
theorem dX3_add_72 : decode cX3_add 72 = .ok (.iaload, 1) := by decide +kernel
theorem dX3_add_73 : decode cX3_add 73 = .ok (.aload_n 3, 1) := by decide +kernel
theorem dX3_add_74 : decode cX3_add 74 = .ok (.iconst 1, 1) := by decide +kernel
theorem dX3_add_75 : decode cX3_add 75 = .ok (.iaload, 1) := by decide +kernel
theorem dX3_add_76 : decode cX3_add 76 = .ok (.invokestatic 61, 3) := by decide +kernel
theorem dX3_add_79 : decode cX3_add 79 = .ok (.iadd, 1) := by decide +kernel
theorem dX3_add_80 : decode cX3_add 80 = .ok (.bipush 100, 2) := by decide +kernel
theorem dX3_add_82 : decode cX3_add 82 = .ok (.aload_n 0, 1) := by decide +kernel
theorem dX3_add_83 : decode cX3_add 83 = .ok (.invokevirtual 81, 3) := by decide +kernel
theorem dX3_add_86 : decode cX3_add 86 = .ok (.imul, 1) := by decide +kernel
theorem dX3_add_87 : decode cX3_add 87 = .ok (.if_icmp .le 9, 3) := by decide +kernel
theorem dX3_add_90 : decode cX3_add 90 = .ok (.aload_n 0, 1) := by decide +kernel
theorem dX3_add_91 : decode cX3_add 91 = .ok (.iconst 3, 1) := by decide +kernel
theorem dX3_add_92 : decode cX3_add 92 = .ok (.invokevirtual 77, 3) := by decide +kernel
theorem dX3_add_95 : decode cX3_add 95 = .ok (.ireturn, 1) := by decide +kernel
theorem dX3_add_96 : decode cX3_add 96 = .ok (.aload_n 0, 1) := by decide +kernel
theorem dX3_add_97 : decode cX3_add 97 = .ok (.iload_n 1, 1) := by decide +kernel
theorem dX3_add_98 : decode cX3_add 98 = .ok (.aload_n 0, 1) := by decide +kernel
theorem dX3_add_99 : decode cX3_add 99 = .ok (.getfield 25, 3) := by decide +kernel
theorem dX3_add_102 : decode cX3_add 102 = .ok (.iload_n 1, 1) := by decide +kernel
theorem dX3_add_103 : decode cX3_add 103 = .ok (.iaload, 1) := by decide +kernel
theorem dX3_add_104 : decode cX3_add 104 = .ok (.aload_n 3, 1) := by decide +kernel
theorem dX3_add_105 : decode cX3_add 105 = .ok (.iconst 1, 1) := by decide +kernel
theorem dX3_add_106 : decode cX3_add 106 = .ok (.invokevirtual 119, 3) := by decide +kernel
theorem dX3_add_109 : decode cX3_add 109 = .ok (.pop, 1) := by decide +kernel
theorem dX3_add_110 : decode cX3_add 110 = .ok (.aload_n 0, 1) := by decide +kernel
theorem dX3_add_111 : decode cX3_add 111 = .ok (.getfield 16, 3) := by decide +kernel
theorem dX3_add_114 : decode cX3_add 114 = .ok (.iload_n 1, 1) := by decide +kernel
theorem dX3_add_115 : decode cX3_add 115 = .ok (.dup2, 1) := by decide +kernel
theorem dX3_add_116 : decode cX3_add 116 = .ok (.iaload, 1) := by decide +kernel
theorem dX3_add_117 : decode cX3_add 117 = .ok (.iload 4, 2) := by decide +kernel
theorem dX3_add_119 : decode cX3_add 119 = .ok (.iadd, 1) := by decide +kernel
theorem dX3_add_120 : decode cX3_add 120 = .ok (.iastore, 1) := by decide +kernel
theorem dX3_add_121 : decode cX3_add 121 = .ok (.iload 4, 2) := by decide +kernel
theorem dX3_add_123 : decode cX3_add 123 = .ok (.ireturn, 1) := by decide +kernel
theorem dX3_addNote_0 : decode cX3_addNote 0 = .ok (.aload_n 0, 1) := by decide +kernel
theorem dX3_addNote_1 : decode cX3_addNote 1 = .ok (.iload_n 1, 1) := by decide +kernel
theorem dX3_addNote_2 : decode cX3_addNote 2 = .ok (.iload_n 2, 1) := by decide +kernel
theorem dX3_addNote_3 : decode cX3_addNote 3 = .ok (.iload_n 3, 1) := by decide +kernel
theorem dX3_addNote_4 : decode cX3_addNote 4 = .ok (.invokestatic 106, 3) := by decide +kernel
theorem dX3_addNote_7 : decode cX3_addNote 7 = .ok (.ifCond .eq 19, 3) := by decide +kernel
theorem dX3_addNote_10 : decode cX3_addNote 10 = .ok (.iload 4, 2) := by decide +kernel
theorem dX3_addNote_12 : decode cX3_addNote 12 = .ok (.iload 5, 2) := by decide +kernel
theorem dX3_addNote_14 : decode cX3_addNote 14 = .ok (.iload 6, 2) := by decide +kernel
theorem dX3_addNote_16 : decode cX3_addNote 16 = .ok (.invokestatic 123, 3) := by decide +kernel
theorem dX3_addNote_19 : decode cX3_addNote 19 = .ok (.ifCond .eq 7, 3) := by decide +kernel
theorem dX3_addNote_22 : decode cX3_addNote 22 = .ok (.iconst 1, 1) := by decide +kernel
theorem dX3_addNote_23 : decode cX3_addNote 23 = .ok (.goto 4, 3) := by decide +kernel
theorem dX3_addNote_26 : decode cX3_addNote 26 = .ok (.iconst 0, 1) := by decide +kernel
theorem dX3_addNote_27 : decode cX3_addNote 27 = .ok (.bipush 7, 2) := by decide +kernel
theorem dX3_addNote_29 : decode cX3_addNote 29 = .ok (.newarray .int, 2) := by decide +kernel
theorem dX3_addNote_31 : decode cX3_addNote 31 = .ok (.dup, 1) := by decide +kernel
theorem dX3_addNote_32 : decode cX3_addNote 32 = .ok (.iconst 0, 1) := by decide +kernel
theorem dX3_addNote_33 : decode cX3_addNote 33 = .ok (.iload_n 2, 1) := by decide +kernel
theorem dX3_addNote_34 : decode cX3_addNote 34 = .ok (.iastore, 1) := by decide +kernel
theorem dX3_addNote_35 : decode cX3_addNote 35 = .ok (.dup, 1) := by decide +kernel
theorem dX3_addNote_36 : decode cX3_addNote 36 = .ok (.iconst 1, 1) := by decide +kernel
theorem dX3_addNote_37 : decode cX3_addNote 37 = .ok (.iload_n 3, 1) := by decide +kernel
theorem dX3_addNote_38 : decode cX3_addNote 38 = .ok (.iastore, 1) := by decide +kernel
theorem dX3_addNote_39 : decode cX3_addNote 39 = .ok (.dup, 1) := by decide +kernel
theorem dX3_addNote_40 : decode cX3_addNote 40 = .ok (.iconst 2, 1) := by decide +kernel
theorem dX3_addNote_41 : decode cX3_addNote 41 = .ok (.iconst 1, 1) := by decide +kernel
theorem dX3_addNote_42 : decode cX3_addNote 42 = .ok (.iastore, 1) := by decide +kernel
theorem dX3_addNote_43 : decode cX3_addNote 43 = .ok (.dup, 1) := by decide +kernel
theorem dX3_addNote_44 : decode cX3_addNote 44 = .ok (.iconst 3, 1) := by decide +kernel
theorem dX3_addNote_45 : decode cX3_addNote 45 = .ok (.iload 4, 2) := by decide +kernel
theorem dX3_addNote_47 : decode cX3_addNote 47 = .ok (.iastore, 1) := by decide +kernel
theorem dX3_addNote_48 : decode cX3_addNote 48 = .ok (.dup, 1) := by decide +kernel
theorem dX3_addNote_49 : decode cX3_addNote 49 = .ok (.iconst 4, 1) := by decide +kernel
theorem dX3_addNote_50 : decode cX3_addNote 50 = .ok (.iload 5, 2) := by decide +kernel
theorem dX3_addNote_52 : decode cX3_addNote 52 = .ok (.iastore, 1) := by decide +kernel
theorem dX3_addNote_53 : decode cX3_addNote 53 = .ok (.dup, 1) := by decide +kernel
theorem dX3_addNote_54 : decode cX3_addNote 54 = .ok (.iconst 5, 1) := by decide +kernel
theorem dX3_addNote_55 : decode cX3_addNote 55 = .ok (.iload 6, 2) := by decide +kernel
theorem dX3_addNote_57 : decode cX3_addNote 57 = .ok (.iastore, 1) := by decide +kernel
theorem dX3_addNote_58 : decode cX3_addNote 58 = .ok (.dup, 1) := by decide +kernel
theorem dX3_addNote_59 : decode cX3_addNote 59 = .ok (.bipush 6, 2) := by decide +kernel
theorem dX3_addNote_61 : decode cX3_addNote 61 = .ok (.iload 7, 2) := by decide +kernel
theorem dX3_addNote_63 : decode cX3_addNote 63 = .ok (.ifCond .eq 7, 3) := by decide +kernel
theorem dX3_addNote_66 : decode cX3_addNote 66 = .ok (.iconst 1, 1) := by decide +kernel
theorem dX3_addNote_67 : decode cX3_addNote 67 = .ok (.goto 4, 3) := by decide +kernel
theorem dX3_addNote_70 : decode cX3_addNote 70 = .ok (.iconst 0, 1) := by decide +kernel
theorem dX3_addNote_71 : decode cX3_addNote 71 = .ok (.iastore, 1) := by decide +kernel
theorem dX3_addNote_72 : decode cX3_addNote 72 = .ok (.invokevirtual 126, 3) := by decide +kernel
theorem dX3_addNote_75 : decode cX3_addNote 75 = .ok (.ireturn, 1) := by decide +kernel
theorem dX3_addRest_0 : decode cX3_addRest 0 = .ok (.aload_n 0, 1) := by decide +kernel
theorem dX3_addRest_1 : decode cX3_addRest 1 = .ok (.iload_n 1, 1) := by decide +kernel
theorem dX3_addRest_2 : decode cX3_addRest 2 = .ok (.iload_n 2, 1) := by decide +kernel
theorem dX3_addRest_3 : decode cX3_addRest 3 = .ok (.iload_n 3, 1) := by decide +kernel
theorem dX3_addRest_4 : decode cX3_addRest 4 = .ok (.invokestatic 106, 3) := by decide +kernel
theorem dX3_addRest_7 : decode cX3_addRest 7 = .ok (.bipush 7, 2) := by decide +kernel
theorem dX3_addRest_9 : decode cX3_addRest 9 = .ok (.newarray .int, 2) := by decide +kernel
theorem dX3_addRest_11 : decode cX3_addRest 11 = .ok (.dup, 1) := by decide +kernel
theorem dX3_addRest_12 : decode cX3_addRest 12 = .ok (.iconst 0, 1) := by decide +kernel
theorem dX3_addRest_13 : decode cX3_addRest 13 = .ok (.iload_n 2, 1) := by decide +kernel
theorem dX3_addRest_14 : decode cX3_addRest 14 = .ok (.iastore, 1) := by decide +kernel
theorem dX3_addRest_15 : decode cX3_addRest 15 = .ok (.dup, 1) := by decide +kernel
theorem dX3_addRest_16 : decode cX3_addRest 16 = .ok (.iconst 1, 1) := by decide +kernel
theorem dX3_addRest_17 : decode cX3_addRest 17 = .ok (.iload_n 3, 1) := by decide +kernel
theorem dX3_addRest_18 : decode cX3_addRest 18 = .ok (.iastore, 1) := by decide +kernel
theorem dX3_addRest_19 : decode cX3_addRest 19 = .ok (.dup, 1) := by decide +kernel
theorem dX3_addRest_20 : decode cX3_addRest 20 = .ok (.iconst 2, 1) := by decide +kernel
theorem dX3_addRest_21 : decode cX3_addRest 21 = .ok (.iconst 0, 1) := by decide +kernel
theorem dX3_addRest_22 : decode cX3_addRest 22 = .ok (.iastore, 1) := by decide +kernel
theorem dX3_addRest_23 : decode cX3_addRest 23 = .ok (.dup, 1) := by decide +kernel
theorem dX3_addRest_24 : decode cX3_addRest 24 = .ok (.iconst 3, 1) := by decide +kernel
theorem dX3_addRest_25 : decode cX3_addRest 25 = .ok (.iconst 0, 1) := by decide +kernel
theorem dX3_addRest_26 : decode cX3_addRest 26 = .ok (.iastore, 1) := by decide +kernel
theorem dX3_addRest_27 : decode cX3_addRest 27 = .ok (.dup, 1) := by decide +kernel
theorem dX3_addRest_28 : decode cX3_addRest 28 = .ok (.iconst 4, 1) := by decide +kernel
theorem dX3_addRest_29 : decode cX3_addRest 29 = .ok (.iconst 0, 1) := by decide +kernel
theorem dX3_addRest_30 : decode cX3_addRest 30 = .ok (.iastore, 1) := by decide +kernel
theorem dX3_addRest_31 : decode cX3_addRest 31 = .ok (.dup, 1) := by decide +kernel
theorem dX3_addRest_32 : decode cX3_addRest 32 = .ok (.iconst 5, 1) := by decide +kernel
theorem dX3_addRest_33 : decode cX3_addRest 33 = .ok (.iconst 0, 1) := by decide +kernel
theorem dX3_addRest_34 : decode cX3_addRest 34 = .ok (.iastore, 1) := by decide +kernel
theorem dX3_addRest_35 : decode cX3_addRest 35 = .ok (.dup, 1) := by decide +kernel
theorem dX3_addRest_36 : decode cX3_addRest 36 = .ok (.bipush 6, 2) := by decide +kernel
theorem dX3_addRest_38 : decode cX3_addRest 38 = .ok (.iconst 0, 1) := by decide +kernel
theorem dX3_addRest_39 : decode cX3_addRest 39 = .ok (.iastore, 1) := by decide +kernel
theorem dX3_addRest_40 : decode cX3_addRest 40 = .ok (.invokevirtual 126, 3) := by decide +kernel
theorem dX3_addRest_43 : decode cX3_addRest 43 = .ok (.ireturn, 1) := by decide +kernel
theorem dX3_removeLast_0 : decode cX3_removeLast 0 = .ok (.aload_n 0, 1) := by decide +kernel
theorem dX3_removeLast_1 : decode cX3_removeLast 1 = .ok (.iconst 0, 1) := by decide +kernel
theorem dX3_removeLast_2 : decode cX3_removeLast 2 = .ok (.putfield 37, 3) := by decide +kernel
theorem dX3_removeLast_5 : decode cX3_removeLast 5 = .ok (.aload_n 0, 1) := by decide +kernel
theorem dX3_removeLast_6 : decode cX3_removeLast 6 = .ok (.iload_n 1, 1) := by decide +kernel
theorem dX3_removeLast_7 : decode cX3_removeLast 7 = .ok (.invokevirtual 47, 3) := by decide +kernel
theorem dX3_removeLast_10 : decode cX3_removeLast 10 = .ok (.ifCond .ne 9, 3) := by decide +kernel
theorem dX3_removeLast_13 : decode cX3_removeLast 13 = .ok (.aload_n 0, 1) := by decide +kernel
theorem dX3_removeLast_14 : decode cX3_removeLast 14 = .ok (.iconst 1, 1) := by decide +kernel
theorem dX3_removeLast_15 : decode cX3_removeLast 15 = .ok (.invokevirtual 77, 3) := by decide +kernel
theorem dX3_removeLast_18 : decode cX3_removeLast 18 = .ok (.ireturn, 1) := by decide +kernel
theorem dX3_removeLast_19 : decode cX3_removeLast 19 = .ok (.aload_n 0, 1) := by decide +kernel
theorem dX3_removeLast_20 : decode cX3_removeLast 20 = .ok (.getfield 16, 3) := by decide +kernel
theorem dX3_removeLast_23 : decode cX3_removeLast 23 = .ok (.iload_n 1, 1) := by decide +kernel
theorem dX3_removeLast_24 : decode cX3_removeLast 24 = .ok (.iaload, 1) := by decide +kernel
theorem dX3_removeLast_25 : decode cX3_removeLast 25 = .ok (.ifCond .ne 9, 3) := by decide +kernel
theorem dX3_removeLast_28 : decode cX3_removeLast 28 = .ok (.aload_n 0, 1) := by decide +kernel
theorem dX3_removeLast_29 : decode cX3_removeLast 29 = .ok (.iconst 2, 1) := by decide +kernel
theorem dX3_removeLast_30 : decode cX3_removeLast 30 = .ok (.invokevirtual 77, 3) := by decide +kernel
theorem dX3_removeLast_33 : decode cX3_removeLast 33 = .ok (.ireturn, 1) := by decide +kernel
theorem dX3_removeLast_34 : decode cX3_removeLast 34 = .ok (.aload_n 0, 1) := by decide +kernel
theorem dX3_removeLast_35 : decode cX3_removeLast 35 = .ok (.getfield 16, 3) := by decide +kernel
theorem dX3_removeLast_38 : decode cX3_removeLast 38 = .ok (.iload_n 1, 1) := by decide +kernel
theorem dX3_removeLast_39 : decode cX3_removeLast 39 = .ok (.dup2, 1) := by decide +kernel
theorem dX3_removeLast_40 : decode cX3_removeLast 40 = .ok (.iaload, 1) := by decide +kernel
theorem dX3_removeLast_41 : decode cX3_removeLast 41 = .ok (.iconst 1, 1) := by decide +kernel
theorem dX3_removeLast_42 : decode cX3_removeLast 42 = .ok (.isub, 1) := by decide +kernel
theorem dX3_removeLast_43 : decode cX3_removeLast 43 = .ok (.iastore, 1) := by decide +kernel
theorem dX3_removeLast_44 : decode cX3_removeLast 44 = .ok (.aload_n 0, 1) := by decide +kernel
theorem dX3_removeLast_45 : decode cX3_removeLast 45 = .ok (.getfield 16, 3) := by decide +kernel
theorem dX3_removeLast_48 : decode cX3_removeLast 48 = .ok (.iload_n 1, 1) := by decide +kernel
theorem dX3_removeLast_49 : decode cX3_removeLast 49 = .ok (.iaload, 1) := by decide +kernel
theorem dX3_removeLast_50 : decode cX3_removeLast 50 = .ok (.ireturn, 1) := by decide +kernel
theorem dX3_tie_0 : decode cX3_tie 0 = .ok (.aload_n 0, 1) := by decide +kernel
theorem dX3_tie_1 : decode cX3_tie 1 = .ok (.aload_n 0, 1) := by decide +kernel
theorem dX3_tie_2 : decode cX3_tie 2 = .ok (.iload_n 1, 1) := by decide +kernel
theorem dX3_tie_3 : decode cX3_tie 3 = .ok (.iload_n 2, 1) := by decide +kernel
theorem dX3_tie_4 : decode cX3_tie 4 = .ok (.invokevirtual 130, 3) := by decide +kernel
theorem dX3_tie_7 : decode cX3_tie 7 = .ok (.ifCond .ne 7, 3) := by decide +kernel
theorem dX3_tie_10 : decode cX3_tie 10 = .ok (.iconst 1, 1) := by decide +kernel
theorem dX3_tie_11 : decode cX3_tie 11 = .ok (.goto 18, 3) := by decide +kernel
theorem dX3_tie_14 : decode cX3_tie 14 = .ok (.aload_n 0, 1) := by decide +kernel
theorem dX3_tie_15 : decode cX3_tie 15 = .ok (.iload_n 1, 1) := by decide +kernel
theorem dX3_tie_16 : decode cX3_tie 16 = .ok (.iload_n 2, 1) := by decide +kernel
theorem dX3_tie_17 : decode cX3_tie 17 = .ok (.iconst 2, 1) := by decide +kernel
theorem dX3_tie_18 : decode cX3_tie 18 = .ok (.invokevirtual 57, 3) := by decide +kernel
theorem dX3_tie_21 : decode cX3_tie 21 = .ok (.ifCond .ne 7, 3) := by decide +kernel
theorem dX3_tie_24 : decode cX3_tie 24 = .ok (.iconst 2, 1) := by decide +kernel
theorem dX3_tie_25 : decode cX3_tie 25 = .ok (.goto 4, 3) := by decide +kernel
theorem dX3_tie_28 : decode cX3_tie 28 = .ok (.iconst 0, 1) := by decide +kernel
theorem dX3_tie_29 : decode cX3_tie 29 = .ok (.putfield 37, 3) := by decide +kernel
theorem dX3_tie_32 : decode cX3_tie 32 = .ok (.aload_n 0, 1) := by decide +kernel
theorem dX3_tie_33 : decode cX3_tie 33 = .ok (.getfield 37, 3) := by decide +kernel
theorem dX3_tie_36 : decode cX3_tie 36 = .ok (.ifCond .eq 5, 3) := by decide +kernel
theorem dX3_tie_39 : decode cX3_tie 39 = .ok (.iconst 0, 1) := by decide +kernel
theorem dX3_tie_40 : decode cX3_tie 40 = .ok (.ireturn, 1) := by decide +kernel
theorem dX3_tie_41 : decode cX3_tie 41 = .ok (.aload_n 0, 1) := by decide +kernel
theorem dX3_tie_42 : decode cX3_tie 42 = .ok (.iload_n 1, 1) := by decide +kernel
theorem dX3_tie_43 : decode cX3_tie 43 = .ok (.iload_n 2, 1) := by decide +kernel
theorem dX3_tie_44 : decode cX3_tie 44 = .ok (.bipush 6, 2) := by decide +kernel
theorem dX3_tie_46 : decode cX3_tie 46 = .ok (.invokevirtual 57, 3) := by decide +kernel
theorem dX3_tie_49 : decode cX3_tie 49 = .ok (.iconst 1, 1) := by decide +kernel
theorem dX3_tie_50 : decode cX3_tie 50 = .ok (.if_icmp .ne 7, 3) := by decide +kernel
theorem dX3_tie_53 : decode cX3_tie 53 = .ok (.iconst 1, 1) := by decide +kernel
theorem dX3_tie_54 : decode cX3_tie 54 = .ok (.goto 4, 3) := by decide +kernel
theorem dX3_tie_57 : decode cX3_tie 57 = .ok (.iconst 0, 1) := by decide +kernel
theorem dX3_tie_58 : decode cX3_tie 58 = .ok (.istore 4, 2) := by decide +kernel
theorem dX3_tie_60 : decode cX3_tie 60 = .ok (.aload_n 0, 1) := by decide +kernel
theorem dX3_tie_61 : decode cX3_tie 61 = .ok (.getfield 22, 3) := by decide +kernel
theorem dX3_tie_64 : decode cX3_tie 64 = .ok (.iload_n 1, 1) := by decide +kernel
theorem dX3_tie_65 : decode cX3_tie 65 = .ok (.aaload, 1) := by decide +kernel
theorem dX3_tie_66 : decode cX3_tie 66 = .ok (.bipush 10, 2) := by decide +kernel
theorem dX3_tie_68 : decode cX3_tie 68 = .ok (.iload_n 2, 1) := by decide +kernel
theorem dX3_tie_69 : decode cX3_tie 69 = .ok (.imul, 1) := by decide +kernel
theorem dX3_tie_70 : decode cX3_tie 70 = .ok (.bipush 6, 2) := by decide +kernel
theorem dX3_tie_72 : decode cX3_tie 72 = .ok (.iadd, 1) := by decide +kernel
theorem dX3_tie_73 : decode cX3_tie 73 = .ok (.iload_n 3, 1) := by decide +kernel
theorem dX3_tie_74 : decode cX3_tie 74 = .ok (.ifCond .eq 7, 3) := by decide +kernel
theorem dX3_tie_77 : decode cX3_tie 77 = .ok (.iconst 1, 1) := by decide +kernel
theorem dX3_tie_78 : decode cX3_tie 78 = .ok (.goto 4, 3) := by decide +kernel
theorem dX3_tie_81 : decode cX3_tie 81 = .ok (.iconst 0, 1) := by decide +kernel
theorem dX3_tie_82 : decode cX3_tie 82 = .ok (.iastore, 1) := by decide +kernel
theorem dX3_tie_83 : decode cX3_tie 83 = .ok (.iload 4, 2) := by decide +kernel
theorem dX3_tie_85 : decode cX3_tie 85 = .ok (.ireturn, 1) := by decide +kernel
theorem dX3_isJoined_0 : decode cX3_isJoined 0 = .ok (.iload_n 2, 1) := by decide +kernel
theorem dX3_isJoined_1 : decode cX3_isJoined 1 = .ok (.ifCond .lt 58, 3) := by decide +kernel
theorem dX3_isJoined_4 : decode cX3_isJoined 4 = .ok (.iload_n 2, 1) := by decide +kernel
theorem dX3_isJoined_5 : decode cX3_isJoined 5 = .ok (.iconst 1, 1) := by decide +kernel
theorem dX3_isJoined_6 : decode cX3_isJoined 6 = .ok (.iadd, 1) := by decide +kernel
theorem dX3_isJoined_7 : decode cX3_isJoined 7 = .ok (.aload_n 0, 1) := by decide +kernel
theorem dX3_isJoined_8 : decode cX3_isJoined 8 = .ok (.getfield 16, 3) := by decide +kernel
theorem dX3_isJoined_11 : decode cX3_isJoined 11 = .ok (.iload_n 1, 1) := by decide +kernel
theorem dX3_isJoined_12 : decode cX3_isJoined 12 = .ok (.iaload, 1) := by decide +kernel
theorem dX3_isJoined_13 : decode cX3_isJoined 13 = .ok (.if_icmp .ge 46, 3) := by decide +kernel
theorem dX3_isJoined_16 : decode cX3_isJoined 16 = .ok (.aload_n 0, 1) := by decide +kernel
theorem dX3_isJoined_17 : decode cX3_isJoined 17 = .ok (.iload_n 1, 1) := by decide +kernel
theorem dX3_isJoined_18 : decode cX3_isJoined 18 = .ok (.iload_n 2, 1) := by decide +kernel
theorem dX3_isJoined_19 : decode cX3_isJoined 19 = .ok (.bipush 6, 2) := by decide +kernel
theorem dX3_isJoined_21 : decode cX3_isJoined 21 = .ok (.invokevirtual 57, 3) := by decide +kernel
theorem dX3_isJoined_24 : decode cX3_isJoined 24 = .ok (.iconst 1, 1) := by decide +kernel
theorem dX3_isJoined_25 : decode cX3_isJoined 25 = .ok (.if_icmp .ne 34, 3) := by decide +kernel
theorem dX3_isJoined_28 : decode cX3_isJoined 28 = .ok (.aload_n 0, 1) := by decide +kernel
theorem dX3_isJoined_29 : decode cX3_isJoined 29 = .ok (.iload_n 1, 1) := by decide +kernel
theorem dX3_isJoined_30 : decode cX3_isJoined 30 = .ok (.iload_n 2, 1) := by decide +kernel
theorem dX3_isJoined_31 : decode cX3_isJoined 31 = .ok (.invokevirtual 133, 3) := by decide +kernel
theorem dX3_isJoined_34 : decode cX3_isJoined 34 = .ok (.iconst (-1), 1) := by decide +kernel
theorem dX3_isJoined_35 : decode cX3_isJoined 35 = .ok (.if_icmp .eq 24, 3) := by decide +kernel
theorem dX3_isJoined_38 : decode cX3_isJoined 38 = .ok (.aload_n 0, 1) := by decide +kernel
theorem dX3_isJoined_39 : decode cX3_isJoined 39 = .ok (.iload_n 1, 1) := by decide +kernel
theorem dX3_isJoined_40 : decode cX3_isJoined 40 = .ok (.iload_n 2, 1) := by decide +kernel
theorem dX3_isJoined_41 : decode cX3_isJoined 41 = .ok (.invokevirtual 133, 3) := by decide +kernel
theorem dX3_isJoined_44 : decode cX3_isJoined 44 = .ok (.aload_n 0, 1) := by decide +kernel
theorem dX3_isJoined_45 : decode cX3_isJoined 45 = .ok (.iload_n 1, 1) := by decide +kernel
theorem dX3_isJoined_46 : decode cX3_isJoined 46 = .ok (.iload_n 2, 1) := by decide +kernel
theorem dX3_isJoined_47 : decode cX3_isJoined 47 = .ok (.iconst 1, 1) := by decide +kernel
theorem dX3_isJoined_48 : decode cX3_isJoined 48 = .ok (.iadd, 1) := by decide +kernel
theorem dX3_isJoined_49 : decode cX3_isJoined 49 = .ok (.invokevirtual 133, 3) := by decide +kernel
theorem dX3_isJoined_52 : decode cX3_isJoined 52 = .ok (.if_icmp .ne 7, 3) := by decide +kernel
theorem dX3_isJoined_55 : decode cX3_isJoined 55 = .ok (.iconst 1, 1) := by decide +kernel
theorem dX3_isJoined_56 : decode cX3_isJoined 56 = .ok (.goto 4, 3) := by decide +kernel
theorem dX3_isJoined_59 : decode cX3_isJoined 59 = .ok (.iconst 0, 1) := by decide +kernel
theorem dX3_isJoined_60 : decode cX3_isJoined 60 = .ok (.ireturn, 1) := by decide +kernel
theorem dX3_find_0 : decode cX3_find 0 = .ok (.aload_n 0, 1) := by decide +kernel
theorem dX3_find_1 : decode cX3_find 1 = .ok (.iload_n 1, 1) := by decide +kernel
theorem dX3_find_2 : decode cX3_find 2 = .ok (.invokevirtual 88, 3) := by decide +kernel
theorem dX3_find_5 : decode cX3_find 5 = .ok (.iconst (-1), 1) := by decide +kernel
theorem dX3_find_6 : decode cX3_find 6 = .ok (.istore_n 2, 1) := by decide +kernel
theorem dX3_find_7 : decode cX3_find 7 = .ok (.iconst 0, 1) := by decide +kernel
theorem dX3_find_8 : decode cX3_find 8 = .ok (.istore_n 3, 1) := by decide +kernel
theorem dX3_find_9 : decode cX3_find 9 = .ok (.iload_n 3, 1) := by decide +kernel
theorem dX3_find_10 : decode cX3_find 10 = .ok (.aload_n 0, 1) := by decide +kernel
theorem dX3_find_11 : decode cX3_find 11 = .ok (.getfield 16, 3) := by decide +kernel
theorem dX3_find_14 : decode cX3_find 14 = .ok (.iload_n 1, 1) := by decide +kernel
theorem dX3_find_15 : decode cX3_find 15 = .ok (.iaload, 1) := by decide +kernel
theorem dX3_find_16 : decode cX3_find 16 = .ok (.if_icmp .ge 182, 3) := by decide +kernel
theorem dX3_find_19 : decode cX3_find 19 = .ok (.bipush 10, 2) := by decide +kernel
theorem dX3_find_21 : decode cX3_find 21 = .ok (.iload_n 3, 1) := by decide +kernel
theorem dX3_find_22 : decode cX3_find 22 = .ok (.imul, 1) := by decide +kernel
theorem dX3_find_23 : decode cX3_find 23 = .ok (.istore 4, 2) := by decide +kernel
theorem dX3_find_25 : decode cX3_find 25 = .ok (.aload_n 0, 1) := by decide +kernel
theorem dX3_find_26 : decode cX3_find 26 = .ok (.iload_n 1, 1) := by decide +kernel
theorem dX3_find_27 : decode cX3_find 27 = .ok (.iload_n 3, 1) := by decide +kernel
theorem dX3_find_28 : decode cX3_find 28 = .ok (.bipush 7, 2) := by decide +kernel
theorem dX3_find_30 : decode cX3_find 30 = .ok (.invokevirtual 57, 3) := by decide +kernel
theorem dX3_find_33 : decode cX3_find 33 = .ok (.aload_n 0, 1) := by decide +kernel
theorem dX3_find_34 : decode cX3_find 34 = .ok (.invokevirtual 81, 3) := by decide +kernel
theorem dX3_find_37 : decode cX3_find 37 = .ok (.idiv, 1) := by decide +kernel
theorem dX3_find_38 : decode cX3_find 38 = .ok (.iload_n 2, 1) := by decide +kernel
theorem dX3_find_39 : decode cX3_find 39 = .ok (.if_icmp .eq 38, 3) := by decide +kernel
theorem dX3_find_42 : decode cX3_find 42 = .ok (.iconst 0, 1) := by decide +kernel
theorem dX3_find_43 : decode cX3_find 43 = .ok (.istore 5, 2) := by decide +kernel
theorem dX3_find_45 : decode cX3_find 45 = .ok (.iload 5, 2) := by decide +kernel
theorem dX3_find_47 : decode cX3_find 47 = .ok (.aload_n 0, 1) := by decide +kernel
theorem dX3_find_48 : decode cX3_find 48 = .ok (.getfield 31, 3) := by decide +kernel
theorem dX3_find_51 : decode cX3_find 51 = .ok (.arraylength, 1) := by decide +kernel
theorem dX3_find_52 : decode cX3_find 52 = .ok (.if_icmp .ge 25, 3) := by decide +kernel
theorem dX3_find_55 : decode cX3_find 55 = .ok (.aload_n 0, 1) := by decide +kernel
theorem dX3_find_56 : decode cX3_find 56 = .ok (.getfield 31, 3) := by decide +kernel
theorem dX3_find_59 : decode cX3_find 59 = .ok (.iload 5, 2) := by decide +kernel
theorem dX3_find_61 : decode cX3_find 61 = .ok (.aload_n 0, 1) := by decide +kernel
theorem dX3_find_62 : decode cX3_find 62 = .ok (.iload 5, 2) := by decide +kernel
theorem dX3_find_64 : decode cX3_find 64 = .ok (.bipush 7, 2) := by decide +kernel
theorem dX3_find_66 : decode cX3_find 66 = .ok (.irem, 1) := by decide +kernel
theorem dX3_find_67 : decode cX3_find 67 = .ok (.invokevirtual 103, 3) := by decide +kernel
theorem dX3_find_70 : decode cX3_find 70 = .ok (.iastore, 1) := by decide +kernel
theorem dX3_find_71 : decode cX3_find 71 = .ok (.iinc 5 1, 3) := by decide +kernel
theorem dX3_find_74 : decode cX3_find 74 = .ok (.goto (-29), 3) := by decide +kernel
theorem dX3_find_77 : decode cX3_find 77 = .ok (.aload_n 0, 1) := by decide +kernel
theorem dX3_find_78 : decode cX3_find 78 = .ok (.iload_n 1, 1) := by decide +kernel
theorem dX3_find_79 : decode cX3_find 79 = .ok (.iload_n 3, 1) := by decide +kernel
theorem dX3_find_80 : decode cX3_find 80 = .ok (.bipush 7, 2) := by decide +kernel
theorem dX3_find_82 : decode cX3_find 82 = .ok (.invokevirtual 57, 3) := by decide +kernel
theorem dX3_find_85 : decode cX3_find 85 = .ok (.aload_n 0, 1) := by decide +kernel
theorem dX3_find_86 : decode cX3_find 86 = .ok (.invokevirtual 81, 3) := by decide +kernel
theorem dX3_find_89 : decode cX3_find 89 = .ok (.idiv, 1) := by decide +kernel
theorem dX3_find_90 : decode cX3_find 90 = .ok (.istore_n 2, 1) := by decide +kernel
theorem dX3_find_91 : decode cX3_find 91 = .ok (.aload_n 0, 1) := by decide +kernel
theorem dX3_find_92 : decode cX3_find 92 = .ok (.getfield 22, 3) := by decide +kernel
theorem dX3_find_95 : decode cX3_find 95 = .ok (.iload_n 1, 1) := by decide +kernel
theorem dX3_find_96 : decode cX3_find 96 = .ok (.aaload, 1) := by decide +kernel
theorem dX3_find_97 : decode cX3_find 97 = .ok (.iload 4, 2) := by decide +kernel
theorem dX3_find_99 : decode cX3_find 99 = .ok (.bipush 8, 2) := by decide +kernel
theorem dX3_find_101 : decode cX3_find 101 = .ok (.iadd, 1) := by decide +kernel
theorem dX3_find_102 : decode cX3_find 102 = .ok (.iconst 0, 1) := by decide +kernel
theorem dX3_find_103 : decode cX3_find 103 = .ok (.iastore, 1) := by decide +kernel
theorem dX3_find_104 : decode cX3_find 104 = .ok (.aload_n 0, 1) := by decide +kernel
theorem dX3_find_105 : decode cX3_find 105 = .ok (.iload_n 1, 1) := by decide +kernel
theorem dX3_find_106 : decode cX3_find 106 = .ok (.iload_n 3, 1) := by decide +kernel
theorem dX3_find_107 : decode cX3_find 107 = .ok (.iconst 2, 1) := by decide +kernel
theorem dX3_find_108 : decode cX3_find 108 = .ok (.invokevirtual 57, 3) := by decide +kernel
theorem dX3_find_111 : decode cX3_find 111 = .ok (.ifCond .ne 6, 3) := by decide +kernel
theorem dX3_find_114 : decode cX3_find 114 = .ok (.goto 78, 3) := by decide +kernel
theorem dX3_find_117 : decode cX3_find 117 = .ok (.bipush 7, 2) := by decide +kernel
theorem dX3_find_119 : decode cX3_find 119 = .ok (.aload_n 0, 1) := by decide +kernel
theorem dX3_find_120 : decode cX3_find 120 = .ok (.iload_n 1, 1) := by decide +kernel
theorem dX3_find_121 : decode cX3_find 121 = .ok (.iload_n 3, 1) := by decide +kernel
theorem dX3_find_122 : decode cX3_find 122 = .ok (.iconst 5, 1) := by decide +kernel
theorem dX3_find_123 : decode cX3_find 123 = .ok (.invokevirtual 57, 3) := by decide +kernel
theorem dX3_find_126 : decode cX3_find 126 = .ok (.imul, 1) := by decide +kernel
theorem dX3_find_127 : decode cX3_find 127 = .ok (.aload_n 0, 1) := by decide +kernel
theorem dX3_find_128 : decode cX3_find 128 = .ok (.iload_n 1, 1) := by decide +kernel
theorem dX3_find_129 : decode cX3_find 129 = .ok (.iload_n 3, 1) := by decide +kernel
theorem dX3_find_130 : decode cX3_find 130 = .ok (.iconst 3, 1) := by decide +kernel
theorem dX3_find_131 : decode cX3_find 131 = .ok (.invokevirtual 57, 3) := by decide +kernel
theorem dX3_find_134 : decode cX3_find 134 = .ok (.iadd, 1) := by decide +kernel
theorem dX3_find_135 : decode cX3_find 135 = .ok (.istore 5, 2) := by decide +kernel
theorem dX3_find_137 : decode cX3_find 137 = .ok (.aload_n 0, 1) := by decide +kernel
theorem dX3_find_138 : decode cX3_find 138 = .ok (.getfield 31, 3) := by decide +kernel
theorem dX3_find_141 : decode cX3_find 141 = .ok (.iload 5, 2) := by decide +kernel
theorem dX3_find_143 : decode cX3_find 143 = .ok (.iaload, 1) := by decide +kernel
theorem dX3_find_144 : decode cX3_find 144 = .ok (.aload_n 0, 1) := by decide +kernel
theorem dX3_find_145 : decode cX3_find 145 = .ok (.iload_n 1, 1) := by decide +kernel
theorem dX3_find_146 : decode cX3_find 146 = .ok (.iload_n 3, 1) := by decide +kernel
theorem dX3_find_147 : decode cX3_find 147 = .ok (.iconst 4, 1) := by decide +kernel
theorem dX3_find_148 : decode cX3_find 148 = .ok (.invokevirtual 57, 3) := by decide +kernel
theorem dX3_find_151 : decode cX3_find 151 = .ok (.if_icmp .eq 27, 3) := by decide +kernel
theorem dX3_find_154 : decode cX3_find 154 = .ok (.aload_n 0, 1) := by decide +kernel
theorem dX3_find_155 : decode cX3_find 155 = .ok (.iload_n 1, 1) := by decide +kernel
theorem dX3_find_156 : decode cX3_find 156 = .ok (.iload_n 3, 1) := by decide +kernel
theorem dX3_find_157 : decode cX3_find 157 = .ok (.iconst 1, 1) := by decide +kernel
theorem dX3_find_158 : decode cX3_find 158 = .ok (.isub, 1) := by decide +kernel
theorem dX3_find_159 : decode cX3_find 159 = .ok (.invokevirtual 136, 3) := by decide +kernel
theorem dX3_find_162 : decode cX3_find 162 = .ok (.ifCond .ne 16, 3) := by decide +kernel
theorem dX3_find_165 : decode cX3_find 165 = .ok (.aload_n 0, 1) := by decide +kernel
theorem dX3_find_166 : decode cX3_find 166 = .ok (.getfield 22, 3) := by decide +kernel
theorem dX3_find_169 : decode cX3_find 169 = .ok (.iload_n 1, 1) := by decide +kernel
theorem dX3_find_170 : decode cX3_find 170 = .ok (.aaload, 1) := by decide +kernel
theorem dX3_find_171 : decode cX3_find 171 = .ok (.iload 4, 2) := by decide +kernel
theorem dX3_find_173 : decode cX3_find 173 = .ok (.bipush 8, 2) := by decide +kernel
theorem dX3_find_175 : decode cX3_find 175 = .ok (.iadd, 1) := by decide +kernel
theorem dX3_find_176 : decode cX3_find 176 = .ok (.iconst 1, 1) := by decide +kernel
theorem dX3_find_177 : decode cX3_find 177 = .ok (.iastore, 1) := by decide +kernel
theorem dX3_find_178 : decode cX3_find 178 = .ok (.aload_n 0, 1) := by decide +kernel
theorem dX3_find_179 : decode cX3_find 179 = .ok (.getfield 31, 3) := by decide +kernel
theorem dX3_find_182 : decode cX3_find 182 = .ok (.iload 5, 2) := by decide +kernel
theorem dX3_find_184 : decode cX3_find 184 = .ok (.aload_n 0, 1) := by decide +kernel
theorem dX3_find_185 : decode cX3_find 185 = .ok (.iload_n 1, 1) := by decide +kernel
theorem dX3_find_186 : decode cX3_find 186 = .ok (.iload_n 3, 1) := by decide +kernel
theorem dX3_find_187 : decode cX3_find 187 = .ok (.iconst 4, 1) := by decide +kernel
theorem dX3_find_188 : decode cX3_find 188 = .ok (.invokevirtual 57, 3) := by decide +kernel
theorem dX3_find_191 : decode cX3_find 191 = .ok (.iastore, 1) := by decide +kernel
theorem dX3_find_192 : decode cX3_find 192 = .ok (.iinc 3 1, 3) := by decide +kernel
theorem dX3_find_195 : decode cX3_find 195 = .ok (.goto (-186), 3) := by decide +kernel
theorem dX3_find_198 : decode cX3_find 198 = .ok (.aload_n 0, 1) := by decide +kernel
theorem dX3_find_199 : decode cX3_find 199 = .ok (.getfield 28, 3) := by decide +kernel
theorem dX3_find_202 : decode cX3_find 202 = .ok (.iload_n 1, 1) := by decide +kernel
theorem dX3_find_203 : decode cX3_find 203 = .ok (.iconst 0, 1) := by decide +kernel
theorem dX3_find_204 : decode cX3_find 204 = .ok (.iastore, 1) := by decide +kernel
theorem dX3_find_205 : decode cX3_find 205 = .ok (.iconst 0, 1) := by decide +kernel
theorem dX3_find_206 : decode cX3_find 206 = .ok (.istore_n 3, 1) := by decide +kernel
theorem dX3_find_207 : decode cX3_find 207 = .ok (.iload_n 3, 1) := by decide +kernel
theorem dX3_find_208 : decode cX3_find 208 = .ok (.aload_n 0, 1) := by decide +kernel
theorem dX3_find_209 : decode cX3_find 209 = .ok (.getfield 16, 3) := by decide +kernel
theorem dX3_find_212 : decode cX3_find 212 = .ok (.iload_n 1, 1) := by decide +kernel
theorem dX3_find_213 : decode cX3_find 213 = .ok (.iaload, 1) := by decide +kernel
theorem dX3_find_214 : decode cX3_find 214 = .ok (.if_icmp .ge 137, 3) := by decide +kernel
theorem dX3_find_217 : decode cX3_find 217 = .ok (.iload_n 3, 1) := by decide +kernel
theorem dX3_find_218 : decode cX3_find 218 = .ok (.iconst 1, 1) := by decide +kernel
theorem dX3_find_219 : decode cX3_find 219 = .ok (.iadd, 1) := by decide +kernel
theorem dX3_find_220 : decode cX3_find 220 = .ok (.istore 4, 2) := by decide +kernel
theorem dX3_find_222 : decode cX3_find 222 = .ok (.iload 4, 2) := by decide +kernel
theorem dX3_find_224 : decode cX3_find 224 = .ok (.aload_n 0, 1) := by decide +kernel
theorem dX3_find_225 : decode cX3_find 225 = .ok (.getfield 16, 3) := by decide +kernel
theorem dX3_find_228 : decode cX3_find 228 = .ok (.iload_n 1, 1) := by decide +kernel
theorem dX3_find_229 : decode cX3_find 229 = .ok (.iaload, 1) := by decide +kernel
theorem dX3_find_230 : decode cX3_find 230 = .ok (.if_icmp .ge 44, 3) := by decide +kernel
theorem dX3_find_233 : decode cX3_find 233 = .ok (.aload_n 0, 1) := by decide +kernel
theorem dX3_find_234 : decode cX3_find 234 = .ok (.iload_n 1, 1) := by decide +kernel
theorem dX3_find_235 : decode cX3_find 235 = .ok (.iload_n 3, 1) := by decide +kernel
theorem dX3_find_236 : decode cX3_find 236 = .ok (.invokevirtual 139, 3) := by decide +kernel
theorem dX3_find_239 : decode cX3_find 239 = .ok (.ifCond .eq 35, 3) := by decide +kernel
theorem dX3_find_242 : decode cX3_find 242 = .ok (.aload_n 0, 1) := by decide +kernel
theorem dX3_find_243 : decode cX3_find 243 = .ok (.iload_n 1, 1) := by decide +kernel
theorem dX3_find_244 : decode cX3_find 244 = .ok (.iload 4, 2) := by decide +kernel
theorem dX3_find_246 : decode cX3_find 246 = .ok (.invokevirtual 139, 3) := by decide +kernel
theorem dX3_find_249 : decode cX3_find 249 = .ok (.ifCond .eq 25, 3) := by decide +kernel
theorem dX3_find_252 : decode cX3_find 252 = .ok (.aload_n 0, 1) := by decide +kernel
theorem dX3_find_253 : decode cX3_find 253 = .ok (.iload_n 1, 1) := by decide +kernel
theorem dX3_find_254 : decode cX3_find 254 = .ok (.iload_n 3, 1) := by decide +kernel
theorem dX3_find_255 : decode cX3_find 255 = .ok (.invokevirtual 142, 3) := by decide +kernel
theorem dX3_find_258 : decode cX3_find 258 = .ok (.aload_n 0, 1) := by decide +kernel
theorem dX3_find_259 : decode cX3_find 259 = .ok (.iload_n 1, 1) := by decide +kernel
theorem dX3_find_260 : decode cX3_find 260 = .ok (.iload 4, 2) := by decide +kernel
theorem dX3_find_262 : decode cX3_find 262 = .ok (.invokevirtual 142, 3) := by decide +kernel
theorem dX3_find_265 : decode cX3_find 265 = .ok (.if_icmp .ne 9, 3) := by decide +kernel
theorem dX3_find_268 : decode cX3_find 268 = .ok (.iinc 4 1, 3) := by decide +kernel
theorem dX3_find_271 : decode cX3_find 271 = .ok (.goto (-49), 3) := by decide +kernel
theorem dX3_find_274 : decode cX3_find 274 = .ok (.iload_n 3, 1) := by decide +kernel
theorem dX3_find_275 : decode cX3_find 275 = .ok (.istore 5, 2) := by decide +kernel
theorem dX3_find_277 : decode cX3_find 277 = .ok (.iload 5, 2) := by decide +kernel
theorem dX3_find_279 : decode cX3_find 279 = .ok (.iload 4, 2) := by decide +kernel
theorem dX3_find_281 : decode cX3_find 281 = .ok (.if_icmp .ge 42, 3) := by decide +kernel
theorem dX3_find_284 : decode cX3_find 284 = .ok (.aload_n 0, 1) := by decide +kernel
theorem dX3_find_285 : decode cX3_find 285 = .ok (.getfield 22, 3) := by decide +kernel
theorem dX3_find_288 : decode cX3_find 288 = .ok (.iload_n 1, 1) := by decide +kernel
theorem dX3_find_289 : decode cX3_find 289 = .ok (.aaload, 1) := by decide +kernel
theorem dX3_find_290 : decode cX3_find 290 = .ok (.bipush 10, 2) := by decide +kernel
theorem dX3_find_292 : decode cX3_find 292 = .ok (.iload 5, 2) := by decide +kernel
theorem dX3_find_294 : decode cX3_find 294 = .ok (.imul, 1) := by decide +kernel
theorem dX3_find_295 : decode cX3_find 295 = .ok (.bipush 9, 2) := by decide +kernel
theorem dX3_find_297 : decode cX3_find 297 = .ok (.iadd, 1) := by decide +kernel
theorem dX3_find_298 : decode cX3_find 298 = .ok (.iload 4, 2) := by decide +kernel
theorem dX3_find_300 : decode cX3_find 300 = .ok (.iload_n 3, 1) := by decide +kernel
theorem dX3_find_301 : decode cX3_find 301 = .ok (.isub, 1) := by decide +kernel
theorem dX3_find_302 : decode cX3_find 302 = .ok (.iconst 1, 1) := by decide +kernel
theorem dX3_find_303 : decode cX3_find 303 = .ok (.if_icmp .le 12, 3) := by decide +kernel
theorem dX3_find_306 : decode cX3_find 306 = .ok (.aload_n 0, 1) := by decide +kernel
theorem dX3_find_307 : decode cX3_find 307 = .ok (.getfield 28, 3) := by decide +kernel
theorem dX3_find_310 : decode cX3_find 310 = .ok (.iload_n 1, 1) := by decide +kernel
theorem dX3_find_311 : decode cX3_find 311 = .ok (.iaload, 1) := by decide +kernel
theorem dX3_find_312 : decode cX3_find 312 = .ok (.goto 4, 3) := by decide +kernel
theorem dX3_find_315 : decode cX3_find 315 = .ok (.iconst (-1), 1) := by decide +kernel
theorem dX3_find_316 : decode cX3_find 316 = .ok (.iastore, 1) := by decide +kernel
theorem dX3_find_317 : decode cX3_find 317 = .ok (.iinc 5 1, 3) := by decide +kernel
theorem dX3_find_320 : decode cX3_find 320 = .ok (.goto (-43), 3) := by decide +kernel
theorem dX3_find_323 : decode cX3_find 323 = .ok (.aload_n 0, 1) := by decide +kernel
theorem dX3_find_324 : decode cX3_find 324 = .ok (.getfield 28, 3) := by decide +kernel
theorem dX3_find_327 : decode cX3_find 327 = .ok (.iload_n 1, 1) := by decide +kernel
theorem dX3_find_328 : decode cX3_find 328 = .ok (.dup2, 1) := by decide +kernel
theorem dX3_find_329 : decode cX3_find 329 = .ok (.iaload, 1) := by decide +kernel
theorem dX3_find_330 : decode cX3_find 330 = .ok (.iload 4, 2) := by decide +kernel
theorem dX3_find_332 : decode cX3_find 332 = .ok (.iload_n 3, 1) := by decide +kernel
theorem dX3_find_333 : decode cX3_find 333 = .ok (.isub, 1) := by decide +kernel
theorem dX3_find_334 : decode cX3_find 334 = .ok (.iconst 1, 1) := by decide +kernel
theorem dX3_find_335 : decode cX3_find 335 = .ok (.if_icmp .le 7, 3) := by decide +kernel
theorem dX3_find_338 : decode cX3_find 338 = .ok (.iconst 1, 1) := by decide +kernel
theorem dX3_find_339 : decode cX3_find 339 = .ok (.goto 4, 3) := by decide +kernel
theorem dX3_find_342 : decode cX3_find 342 = .ok (.iconst 0, 1) := by decide +kernel
theorem dX3_find_343 : decode cX3_find 343 = .ok (.iadd, 1) := by decide +kernel
theorem dX3_find_344 : decode cX3_find 344 = .ok (.iastore, 1) := by decide +kernel
theorem dX3_find_345 : decode cX3_find 345 = .ok (.iload 4, 2) := by decide +kernel
theorem dX3_find_347 : decode cX3_find 347 = .ok (.istore_n 3, 1) := by decide +kernel
theorem dX3_find_348 : decode cX3_find 348 = .ok (.goto (-141), 3) := by decide +kernel
theorem dX3_find_351 : decode cX3_find 351 = .ok (.return_, 1) := by decide +kernel
theorem dX3_canBeam_0 : decode cX3_canBeam 0 = .ok (.aload_n 0, 1) := by decide +kernel
theorem dX3_canBeam_1 : decode cX3_canBeam 1 = .ok (.iload_n 1, 1) := by decide +kernel
theorem dX3_canBeam_2 : decode cX3_canBeam 2 = .ok (.iload_n 2, 1) := by decide +kernel
theorem dX3_canBeam_3 : decode cX3_canBeam 3 = .ok (.iconst 2, 1) := by decide +kernel
theorem dX3_canBeam_4 : decode cX3_canBeam 4 = .ok (.invokevirtual 57, 3) := by decide +kernel
theorem dX3_canBeam_7 : decode cX3_canBeam 7 = .ok (.iconst 1, 1) := by decide +kernel
theorem dX3_canBeam_8 : decode cX3_canBeam 8 = .ok (.if_icmp .ne 19, 3) := by decide +kernel
theorem dX3_canBeam_11 : decode cX3_canBeam 11 = .ok (.aload_n 0, 1) := by decide +kernel
theorem dX3_canBeam_12 : decode cX3_canBeam 12 = .ok (.iload_n 1, 1) := by decide +kernel
theorem dX3_canBeam_13 : decode cX3_canBeam 13 = .ok (.iload_n 2, 1) := by decide +kernel
theorem dX3_canBeam_14 : decode cX3_canBeam 14 = .ok (.iconst 0, 1) := by decide +kernel
theorem dX3_canBeam_15 : decode cX3_canBeam 15 = .ok (.invokevirtual 57, 3) := by decide +kernel
theorem dX3_canBeam_18 : decode cX3_canBeam 18 = .ok (.bipush 8, 2) := by decide +kernel
theorem dX3_canBeam_20 : decode cX3_canBeam 20 = .ok (.if_icmp .lt 7, 3) := by decide +kernel
theorem dX3_canBeam_23 : decode cX3_canBeam 23 = .ok (.iconst 1, 1) := by decide +kernel
theorem dX3_canBeam_24 : decode cX3_canBeam 24 = .ok (.goto 4, 3) := by decide +kernel
theorem dX3_canBeam_27 : decode cX3_canBeam 27 = .ok (.iconst 0, 1) := by decide +kernel
theorem dX3_canBeam_28 : decode cX3_canBeam 28 = .ok (.ireturn, 1) := by decide +kernel
theorem dX3_beat_0 : decode cX3_beat 0 = .ok (.aload_n 0, 1) := by decide +kernel
theorem dX3_beat_1 : decode cX3_beat 1 = .ok (.iload_n 1, 1) := by decide +kernel
theorem dX3_beat_2 : decode cX3_beat 2 = .ok (.iload_n 2, 1) := by decide +kernel
theorem dX3_beat_3 : decode cX3_beat 3 = .ok (.bipush 7, 2) := by decide +kernel
theorem dX3_beat_5 : decode cX3_beat 5 = .ok (.invokevirtual 57, 3) := by decide +kernel
theorem dX3_beat_8 : decode cX3_beat 8 = .ok (.sipush 384, 3) := by decide +kernel
theorem dX3_beat_11 : decode cX3_beat 11 = .ok (.aload_n 0, 1) := by decide +kernel
theorem dX3_beat_12 : decode cX3_beat 12 = .ok (.getfield 13, 3) := by decide +kernel
theorem dX3_beat_15 : decode cX3_beat 15 = .ok (.idiv, 1) := by decide +kernel
theorem dX3_beat_16 : decode cX3_beat 16 = .ok (.idiv, 1) := by decide +kernel
theorem dX3_beat_17 : decode cX3_beat 17 = .ok (.ireturn, 1) := by decide +kernel
theorem dX3_elementTold_0 : decode cX3_elementTold 0 = .ok (.iload_n 3, 1) := by decide +kernel
theorem dX3_elementTold_1 : decode cX3_elementTold 1 = .ok (.tableswitch 118 0 7 #[47, 56, 63, 71, 79, 86, 95, 109], 47) := by decide +kernel
theorem dX3_elementTold_48 : decode cX3_elementTold 48 = .ok (.aload_n 0, 1) := by decide +kernel
theorem dX3_elementTold_49 : decode cX3_elementTold 49 = .ok (.iload_n 1, 1) := by decide +kernel
theorem dX3_elementTold_50 : decode cX3_elementTold 50 = .ok (.iload_n 2, 1) := by decide +kernel
theorem dX3_elementTold_51 : decode cX3_elementTold 51 = .ok (.bipush 7, 2) := by decide +kernel
theorem dX3_elementTold_53 : decode cX3_elementTold 53 = .ok (.invokevirtual 57, 3) := by decide +kernel
theorem dX3_elementTold_56 : decode cX3_elementTold 56 = .ok (.ireturn, 1) := by decide +kernel
theorem dX3_elementTold_57 : decode cX3_elementTold 57 = .ok (.aload_n 0, 1) := by decide +kernel
theorem dX3_elementTold_58 : decode cX3_elementTold 58 = .ok (.iload_n 1, 1) := by decide +kernel
theorem dX3_elementTold_59 : decode cX3_elementTold 59 = .ok (.iload_n 2, 1) := by decide +kernel
theorem dX3_elementTold_60 : decode cX3_elementTold 60 = .ok (.invokevirtual 85, 3) := by decide +kernel
theorem dX3_elementTold_63 : decode cX3_elementTold 63 = .ok (.ireturn, 1) := by decide +kernel
theorem dX3_elementTold_64 : decode cX3_elementTold 64 = .ok (.aload_n 0, 1) := by decide +kernel
theorem dX3_elementTold_65 : decode cX3_elementTold 65 = .ok (.iload_n 1, 1) := by decide +kernel
theorem dX3_elementTold_66 : decode cX3_elementTold 66 = .ok (.iload_n 2, 1) := by decide +kernel
theorem dX3_elementTold_67 : decode cX3_elementTold 67 = .ok (.iconst 0, 1) := by decide +kernel
theorem dX3_elementTold_68 : decode cX3_elementTold 68 = .ok (.invokevirtual 57, 3) := by decide +kernel
theorem dX3_elementTold_71 : decode cX3_elementTold 71 = .ok (.ireturn, 1) := by decide +kernel
theorem dX3_elementTold_72 : decode cX3_elementTold 72 = .ok (.aload_n 0, 1) := by decide +kernel
theorem dX3_elementTold_73 : decode cX3_elementTold 73 = .ok (.iload_n 1, 1) := by decide +kernel
theorem dX3_elementTold_74 : decode cX3_elementTold 74 = .ok (.iload_n 2, 1) := by decide +kernel
theorem dX3_elementTold_75 : decode cX3_elementTold 75 = .ok (.iconst 1, 1) := by decide +kernel
theorem dX3_elementTold_76 : decode cX3_elementTold 76 = .ok (.invokevirtual 57, 3) := by decide +kernel
theorem dX3_elementTold_79 : decode cX3_elementTold 79 = .ok (.ireturn, 1) := by decide +kernel
theorem dX3_elementTold_80 : decode cX3_elementTold 80 = .ok (.aload_n 0, 1) := by decide +kernel
theorem dX3_elementTold_81 : decode cX3_elementTold 81 = .ok (.iload_n 1, 1) := by decide +kernel
theorem dX3_elementTold_82 : decode cX3_elementTold 82 = .ok (.iload_n 2, 1) := by decide +kernel
theorem dX3_elementTold_83 : decode cX3_elementTold 83 = .ok (.invokevirtual 133, 3) := by decide +kernel
theorem dX3_elementTold_86 : decode cX3_elementTold 86 = .ok (.ireturn, 1) := by decide +kernel
theorem dX3_elementTold_87 : decode cX3_elementTold 87 = .ok (.aload_n 0, 1) := by decide +kernel
theorem dX3_elementTold_88 : decode cX3_elementTold 88 = .ok (.iload_n 1, 1) := by decide +kernel
theorem dX3_elementTold_89 : decode cX3_elementTold 89 = .ok (.iload_n 2, 1) := by decide +kernel
theorem dX3_elementTold_90 : decode cX3_elementTold 90 = .ok (.bipush 6, 2) := by decide +kernel
theorem dX3_elementTold_92 : decode cX3_elementTold 92 = .ok (.invokevirtual 57, 3) := by decide +kernel
theorem dX3_elementTold_95 : decode cX3_elementTold 95 = .ok (.ireturn, 1) := by decide +kernel
theorem dX3_elementTold_96 : decode cX3_elementTold 96 = .ok (.aload_n 0, 1) := by decide +kernel
theorem dX3_elementTold_97 : decode cX3_elementTold 97 = .ok (.iload_n 1, 1) := by decide +kernel
theorem dX3_elementTold_98 : decode cX3_elementTold 98 = .ok (.iload_n 2, 1) := by decide +kernel
theorem dX3_elementTold_99 : decode cX3_elementTold 99 = .ok (.bipush 7, 2) := by decide +kernel
theorem dX3_elementTold_101 : decode cX3_elementTold 101 = .ok (.invokevirtual 57, 3) := by decide +kernel
theorem dX3_elementTold_104 : decode cX3_elementTold 104 = .ok (.aload_n 0, 1) := by decide +kernel
theorem dX3_elementTold_105 : decode cX3_elementTold 105 = .ok (.invokevirtual 81, 3) := by decide +kernel
theorem dX3_elementTold_108 : decode cX3_elementTold 108 = .ok (.idiv, 1) := by decide +kernel
theorem dX3_elementTold_109 : decode cX3_elementTold 109 = .ok (.ireturn, 1) := by decide +kernel
theorem dX3_elementTold_110 : decode cX3_elementTold 110 = .ok (.aload_n 0, 1) := by decide +kernel
theorem dX3_elementTold_111 : decode cX3_elementTold 111 = .ok (.iload_n 1, 1) := by decide +kernel
theorem dX3_elementTold_112 : decode cX3_elementTold 112 = .ok (.iload_n 2, 1) := by decide +kernel
theorem dX3_elementTold_113 : decode cX3_elementTold 113 = .ok (.bipush 8, 2) := by decide +kernel
theorem dX3_elementTold_115 : decode cX3_elementTold 115 = .ok (.invokevirtual 57, 3) := by decide +kernel
theorem dX3_elementTold_118 : decode cX3_elementTold 118 = .ok (.ireturn, 1) := by decide +kernel
theorem dX3_elementTold_119 : decode cX3_elementTold 119 = .ok (.aload_n 0, 1) := by decide +kernel
theorem dX3_elementTold_120 : decode cX3_elementTold 120 = .ok (.iload_n 1, 1) := by decide +kernel
theorem dX3_elementTold_121 : decode cX3_elementTold 121 = .ok (.iload_n 2, 1) := by decide +kernel
theorem dX3_elementTold_122 : decode cX3_elementTold 122 = .ok (.bipush 9, 2) := by decide +kernel
theorem dX3_elementTold_124 : decode cX3_elementTold 124 = .ok (.invokevirtual 57, 3) := by decide +kernel
theorem dX3_elementTold_127 : decode cX3_elementTold 127 = .ok (.ireturn, 1) := by decide +kernel
theorem dX3_element_0 : decode cX3_element 0 = .ok (.aload_n 0, 1) := by decide +kernel
theorem dX3_element_1 : decode cX3_element 1 = .ok (.iconst 0, 1) := by decide +kernel
theorem dX3_element_2 : decode cX3_element 2 = .ok (.putfield 37, 3) := by decide +kernel
theorem dX3_element_5 : decode cX3_element 5 = .ok (.aload_n 0, 1) := by decide +kernel
theorem dX3_element_6 : decode cX3_element 6 = .ok (.iload_n 1, 1) := by decide +kernel
theorem dX3_element_7 : decode cX3_element 7 = .ok (.iload_n 2, 1) := by decide +kernel
theorem dX3_element_8 : decode cX3_element 8 = .ok (.invokevirtual 130, 3) := by decide +kernel
theorem dX3_element_11 : decode cX3_element 11 = .ok (.ifCond .eq 13, 3) := by decide +kernel
theorem dX3_element_14 : decode cX3_element 14 = .ok (.iload_n 3, 1) := by decide +kernel
theorem dX3_element_15 : decode cX3_element 15 = .ok (.iconst 0, 1) := by decide +kernel
theorem dX3_element_16 : decode cX3_element 16 = .ok (.bipush 8, 2) := by decide +kernel
theorem dX3_element_18 : decode cX3_element 18 = .ok (.invokestatic 43, 3) := by decide +kernel
theorem dX3_element_21 : decode cX3_element 21 = .ok (.ifCond .ne 9, 3) := by decide +kernel
theorem dX3_element_24 : decode cX3_element 24 = .ok (.aload_n 0, 1) := by decide +kernel
theorem dX3_element_25 : decode cX3_element 25 = .ok (.iconst 1, 1) := by decide +kernel
theorem dX3_element_26 : decode cX3_element 26 = .ok (.invokevirtual 77, 3) := by decide +kernel
theorem dX3_element_29 : decode cX3_element 29 = .ok (.ireturn, 1) := by decide +kernel
theorem dX3_element_30 : decode cX3_element 30 = .ok (.aload_n 0, 1) := by decide +kernel
theorem dX3_element_31 : decode cX3_element 31 = .ok (.iload_n 1, 1) := by decide +kernel
theorem dX3_element_32 : decode cX3_element 32 = .ok (.invokevirtual 145, 3) := by decide +kernel
theorem dX3_element_35 : decode cX3_element 35 = .ok (.aload_n 0, 1) := by decide +kernel
theorem dX3_element_36 : decode cX3_element 36 = .ok (.iload_n 1, 1) := by decide +kernel
theorem dX3_element_37 : decode cX3_element 37 = .ok (.iload_n 2, 1) := by decide +kernel
theorem dX3_element_38 : decode cX3_element 38 = .ok (.iload_n 3, 1) := by decide +kernel
theorem dX3_element_39 : decode cX3_element 39 = .ok (.invokevirtual 148, 3) := by decide +kernel
theorem dX3_element_42 : decode cX3_element 42 = .ok (.ireturn, 1) := by decide +kernel
theorem dX3_pitch_0 : decode cX3_pitch 0 = .ok (.aload_n 0, 1) := by decide +kernel
theorem dX3_pitch_1 : decode cX3_pitch 1 = .ok (.iconst 0, 1) := by decide +kernel
theorem dX3_pitch_2 : decode cX3_pitch 2 = .ok (.putfield 37, 3) := by decide +kernel
theorem dX3_pitch_5 : decode cX3_pitch 5 = .ok (.aload_n 0, 1) := by decide +kernel
theorem dX3_pitch_6 : decode cX3_pitch 6 = .ok (.iload_n 1, 1) := by decide +kernel
theorem dX3_pitch_7 : decode cX3_pitch 7 = .ok (.iload_n 2, 1) := by decide +kernel
theorem dX3_pitch_8 : decode cX3_pitch 8 = .ok (.invokevirtual 130, 3) := by decide +kernel
theorem dX3_pitch_11 : decode cX3_pitch 11 = .ok (.ifCond .eq 12, 3) := by decide +kernel
theorem dX3_pitch_14 : decode cX3_pitch 14 = .ok (.iload_n 3, 1) := by decide +kernel
theorem dX3_pitch_15 : decode cX3_pitch 15 = .ok (.iconst 0, 1) := by decide +kernel
theorem dX3_pitch_16 : decode cX3_pitch 16 = .ok (.iconst 2, 1) := by decide +kernel
theorem dX3_pitch_17 : decode cX3_pitch 17 = .ok (.invokestatic 43, 3) := by decide +kernel
theorem dX3_pitch_20 : decode cX3_pitch 20 = .ok (.ifCond .ne 9, 3) := by decide +kernel
theorem dX3_pitch_23 : decode cX3_pitch 23 = .ok (.aload_n 0, 1) := by decide +kernel
theorem dX3_pitch_24 : decode cX3_pitch 24 = .ok (.iconst 1, 1) := by decide +kernel
theorem dX3_pitch_25 : decode cX3_pitch 25 = .ok (.invokevirtual 77, 3) := by decide +kernel
theorem dX3_pitch_28 : decode cX3_pitch 28 = .ok (.ireturn, 1) := by decide +kernel
theorem dX3_pitch_29 : decode cX3_pitch 29 = .ok (.aload_n 0, 1) := by decide +kernel
theorem dX3_pitch_30 : decode cX3_pitch 30 = .ok (.iload_n 1, 1) := by decide +kernel
theorem dX3_pitch_31 : decode cX3_pitch 31 = .ok (.iload_n 2, 1) := by decide +kernel
theorem dX3_pitch_32 : decode cX3_pitch 32 = .ok (.iconst 2, 1) := by decide +kernel
theorem dX3_pitch_33 : decode cX3_pitch 33 = .ok (.invokevirtual 57, 3) := by decide +kernel
theorem dX3_pitch_36 : decode cX3_pitch 36 = .ok (.ifCond .ne 9, 3) := by decide +kernel
theorem dX3_pitch_39 : decode cX3_pitch 39 = .ok (.aload_n 0, 1) := by decide +kernel
theorem dX3_pitch_40 : decode cX3_pitch 40 = .ok (.iconst 2, 1) := by decide +kernel
theorem dX3_pitch_41 : decode cX3_pitch 41 = .ok (.invokevirtual 77, 3) := by decide +kernel
theorem dX3_pitch_44 : decode cX3_pitch 44 = .ok (.ireturn, 1) := by decide +kernel
theorem dX3_pitch_45 : decode cX3_pitch 45 = .ok (.aload_n 0, 1) := by decide +kernel
theorem dX3_pitch_46 : decode cX3_pitch 46 = .ok (.iload_n 1, 1) := by decide +kernel
theorem dX3_pitch_47 : decode cX3_pitch 47 = .ok (.iload_n 2, 1) := by decide +kernel
theorem dX3_pitch_48 : decode cX3_pitch 48 = .ok (.iconst 3, 1) := by decide +kernel
theorem dX3_pitch_49 : decode cX3_pitch 49 = .ok (.iload_n 3, 1) := by decide +kernel
theorem dX3_pitch_50 : decode cX3_pitch 50 = .ok (.iadd, 1) := by decide +kernel
theorem dX3_pitch_51 : decode cX3_pitch 51 = .ok (.invokevirtual 57, 3) := by decide +kernel
theorem dX3_pitch_54 : decode cX3_pitch 54 = .ok (.ireturn, 1) := by decide +kernel
theorem dX3_voiceTold_0 : decode cX3_voiceTold 0 = .ok (.iload_n 2, 1) := by decide +kernel
theorem dX3_voiceTold_1 : decode cX3_voiceTold 1 = .ok (.ifCond .ne 10, 3) := by decide +kernel
theorem dX3_voiceTold_4 : decode cX3_voiceTold 4 = .ok (.aload_n 0, 1) := by decide +kernel
theorem dX3_voiceTold_5 : decode cX3_voiceTold 5 = .ok (.getfield 16, 3) := by decide +kernel
theorem dX3_voiceTold_8 : decode cX3_voiceTold 8 = .ok (.iload_n 1, 1) := by decide +kernel
theorem dX3_voiceTold_9 : decode cX3_voiceTold 9 = .ok (.iaload, 1) := by decide +kernel
theorem dX3_voiceTold_10 : decode cX3_voiceTold 10 = .ok (.ireturn, 1) := by decide +kernel
theorem dX3_voiceTold_11 : decode cX3_voiceTold 11 = .ok (.iload_n 2, 1) := by decide +kernel
theorem dX3_voiceTold_12 : decode cX3_voiceTold 12 = .ok (.iconst 1, 1) := by decide +kernel
theorem dX3_voiceTold_13 : decode cX3_voiceTold 13 = .ok (.if_icmp .ne 10, 3) := by decide +kernel
theorem dX3_voiceTold_16 : decode cX3_voiceTold 16 = .ok (.aload_n 0, 1) := by decide +kernel
theorem dX3_voiceTold_17 : decode cX3_voiceTold 17 = .ok (.getfield 25, 3) := by decide +kernel
theorem dX3_voiceTold_20 : decode cX3_voiceTold 20 = .ok (.iload_n 1, 1) := by decide +kernel
theorem dX3_voiceTold_21 : decode cX3_voiceTold 21 = .ok (.iaload, 1) := by decide +kernel
theorem dX3_voiceTold_22 : decode cX3_voiceTold 22 = .ok (.ireturn, 1) := by decide +kernel
theorem dX3_voiceTold_23 : decode cX3_voiceTold 23 = .ok (.iload_n 2, 1) := by decide +kernel
theorem dX3_voiceTold_24 : decode cX3_voiceTold 24 = .ok (.iconst 3, 1) := by decide +kernel
theorem dX3_voiceTold_25 : decode cX3_voiceTold 25 = .ok (.if_icmp .ne 10, 3) := by decide +kernel
theorem dX3_voiceTold_28 : decode cX3_voiceTold 28 = .ok (.aload_n 0, 1) := by decide +kernel
theorem dX3_voiceTold_29 : decode cX3_voiceTold 29 = .ok (.getfield 28, 3) := by decide +kernel
theorem dX3_voiceTold_32 : decode cX3_voiceTold 32 = .ok (.iload_n 1, 1) := by decide +kernel
theorem dX3_voiceTold_33 : decode cX3_voiceTold 33 = .ok (.iaload, 1) := by decide +kernel
theorem dX3_voiceTold_34 : decode cX3_voiceTold 34 = .ok (.ireturn, 1) := by decide +kernel
theorem dX3_voiceTold_35 : decode cX3_voiceTold 35 = .ok (.iload_n 2, 1) := by decide +kernel
theorem dX3_voiceTold_36 : decode cX3_voiceTold 36 = .ok (.iconst 4, 1) := by decide +kernel
theorem dX3_voiceTold_37 : decode cX3_voiceTold 37 = .ok (.if_icmp .le 7, 3) := by decide +kernel
theorem dX3_voiceTold_40 : decode cX3_voiceTold 40 = .ok (.iconst (-1), 1) := by decide +kernel
theorem dX3_voiceTold_41 : decode cX3_voiceTold 41 = .ok (.goto 4, 3) := by decide +kernel
theorem dX3_voiceTold_44 : decode cX3_voiceTold 44 = .ok (.iconst 0, 1) := by decide +kernel
theorem dX3_voiceTold_45 : decode cX3_voiceTold 45 = .ok (.istore_n 3, 1) := by decide +kernel
theorem dX3_voiceTold_46 : decode cX3_voiceTold 46 = .ok (.iconst 0, 1) := by decide +kernel
theorem dX3_voiceTold_47 : decode cX3_voiceTold 47 = .ok (.istore 4, 2) := by decide +kernel
theorem dX3_voiceTold_49 : decode cX3_voiceTold 49 = .ok (.iload 4, 2) := by decide +kernel
theorem dX3_voiceTold_51 : decode cX3_voiceTold 51 = .ok (.aload_n 0, 1) := by decide +kernel
theorem dX3_voiceTold_52 : decode cX3_voiceTold 52 = .ok (.getfield 16, 3) := by decide +kernel
theorem dX3_voiceTold_55 : decode cX3_voiceTold 55 = .ok (.iload_n 1, 1) := by decide +kernel
theorem dX3_voiceTold_56 : decode cX3_voiceTold 56 = .ok (.iaload, 1) := by decide +kernel
theorem dX3_voiceTold_57 : decode cX3_voiceTold 57 = .ok (.if_icmp .ge 107, 3) := by decide +kernel
theorem dX3_voiceTold_60 : decode cX3_voiceTold 60 = .ok (.aload_n 0, 1) := by decide +kernel
theorem dX3_voiceTold_61 : decode cX3_voiceTold 61 = .ok (.iload_n 1, 1) := by decide +kernel
theorem dX3_voiceTold_62 : decode cX3_voiceTold 62 = .ok (.iload 4, 2) := by decide +kernel
theorem dX3_voiceTold_64 : decode cX3_voiceTold 64 = .ok (.invokevirtual 133, 3) := by decide +kernel
theorem dX3_voiceTold_67 : decode cX3_voiceTold 67 = .ok (.istore 5, 2) := by decide +kernel
theorem dX3_voiceTold_69 : decode cX3_voiceTold 69 = .ok (.iload 5, 2) := by decide +kernel
theorem dX3_voiceTold_71 : decode cX3_voiceTold 71 = .ok (.iconst (-1), 1) := by decide +kernel
theorem dX3_voiceTold_72 : decode cX3_voiceTold 72 = .ok (.if_icmp .ne 6, 3) := by decide +kernel
theorem dX3_voiceTold_75 : decode cX3_voiceTold 75 = .ok (.goto 83, 3) := by decide +kernel
theorem dX3_voiceTold_78 : decode cX3_voiceTold 78 = .ok (.iload_n 2, 1) := by decide +kernel
theorem dX3_voiceTold_79 : decode cX3_voiceTold 79 = .ok (.iconst 2, 1) := by decide +kernel
theorem dX3_voiceTold_80 : decode cX3_voiceTold 80 = .ok (.if_icmp .ne 26, 3) := by decide +kernel
theorem dX3_voiceTold_83 : decode cX3_voiceTold 83 = .ok (.iload_n 3, 1) := by decide +kernel
theorem dX3_voiceTold_84 : decode cX3_voiceTold 84 = .ok (.aload_n 0, 1) := by decide +kernel
theorem dX3_voiceTold_85 : decode cX3_voiceTold 85 = .ok (.iload_n 1, 1) := by decide +kernel
theorem dX3_voiceTold_86 : decode cX3_voiceTold 86 = .ok (.iload 4, 2) := by decide +kernel
theorem dX3_voiceTold_88 : decode cX3_voiceTold 88 = .ok (.iconst 1, 1) := by decide +kernel
theorem dX3_voiceTold_89 : decode cX3_voiceTold 89 = .ok (.isub, 1) := by decide +kernel
theorem dX3_voiceTold_90 : decode cX3_voiceTold 90 = .ok (.invokevirtual 136, 3) := by decide +kernel
theorem dX3_voiceTold_93 : decode cX3_voiceTold 93 = .ok (.ifCond .eq 7, 3) := by decide +kernel
theorem dX3_voiceTold_96 : decode cX3_voiceTold 96 = .ok (.iconst 0, 1) := by decide +kernel
theorem dX3_voiceTold_97 : decode cX3_voiceTold 97 = .ok (.goto 4, 3) := by decide +kernel
theorem dX3_voiceTold_100 : decode cX3_voiceTold 100 = .ok (.iconst 1, 1) := by decide +kernel
theorem dX3_voiceTold_101 : decode cX3_voiceTold 101 = .ok (.iadd, 1) := by decide +kernel
theorem dX3_voiceTold_102 : decode cX3_voiceTold 102 = .ok (.istore_n 3, 1) := by decide +kernel
theorem dX3_voiceTold_103 : decode cX3_voiceTold 103 = .ok (.goto 55, 3) := by decide +kernel
theorem dX3_voiceTold_106 : decode cX3_voiceTold 106 = .ok (.iload_n 2, 1) := by decide +kernel
theorem dX3_voiceTold_107 : decode cX3_voiceTold 107 = .ok (.iconst 4, 1) := by decide +kernel
theorem dX3_voiceTold_108 : decode cX3_voiceTold 108 = .ok (.if_icmp .ne 18, 3) := by decide +kernel
theorem dX3_voiceTold_111 : decode cX3_voiceTold 111 = .ok (.iload_n 3, 1) := by decide +kernel
theorem dX3_voiceTold_112 : decode cX3_voiceTold 112 = .ok (.aload_n 0, 1) := by decide +kernel
theorem dX3_voiceTold_113 : decode cX3_voiceTold 113 = .ok (.iload_n 1, 1) := by decide +kernel
theorem dX3_voiceTold_114 : decode cX3_voiceTold 114 = .ok (.iload 4, 2) := by decide +kernel
theorem dX3_voiceTold_116 : decode cX3_voiceTold 116 = .ok (.bipush 8, 2) := by decide +kernel
theorem dX3_voiceTold_118 : decode cX3_voiceTold 118 = .ok (.invokevirtual 57, 3) := by decide +kernel
theorem dX3_voiceTold_121 : decode cX3_voiceTold 121 = .ok (.iadd, 1) := by decide +kernel
theorem dX3_voiceTold_122 : decode cX3_voiceTold 122 = .ok (.istore_n 3, 1) := by decide +kernel
theorem dX3_voiceTold_123 : decode cX3_voiceTold 123 = .ok (.goto 35, 3) := by decide +kernel
theorem dX3_voiceTold_126 : decode cX3_voiceTold 126 = .ok (.iload_n 2, 1) := by decide +kernel
theorem dX3_voiceTold_127 : decode cX3_voiceTold 127 = .ok (.iconst 5, 1) := by decide +kernel
theorem dX3_voiceTold_128 : decode cX3_voiceTold 128 = .ok (.if_icmp .ne 13, 3) := by decide +kernel
theorem dX3_voiceTold_131 : decode cX3_voiceTold 131 = .ok (.iload_n 3, 1) := by decide +kernel
theorem dX3_voiceTold_132 : decode cX3_voiceTold 132 = .ok (.iload 5, 2) := by decide +kernel
theorem dX3_voiceTold_134 : decode cX3_voiceTold 134 = .ok (.invokestatic 92, 3) := by decide +kernel
theorem dX3_voiceTold_137 : decode cX3_voiceTold 137 = .ok (.istore_n 3, 1) := by decide +kernel
theorem dX3_voiceTold_138 : decode cX3_voiceTold 138 = .ok (.goto 20, 3) := by decide +kernel
theorem dX3_voiceTold_141 : decode cX3_voiceTold 141 = .ok (.iload_n 3, 1) := by decide +kernel
theorem dX3_voiceTold_142 : decode cX3_voiceTold 142 = .ok (.iconst (-1), 1) := by decide +kernel
theorem dX3_voiceTold_143 : decode cX3_voiceTold 143 = .ok (.if_icmp .ne 8, 3) := by decide +kernel
theorem dX3_voiceTold_146 : decode cX3_voiceTold 146 = .ok (.iload 5, 2) := by decide +kernel
theorem dX3_voiceTold_148 : decode cX3_voiceTold 148 = .ok (.goto 9, 3) := by decide +kernel
theorem dX3_voiceTold_151 : decode cX3_voiceTold 151 = .ok (.iload_n 3, 1) := by decide +kernel
theorem dX3_voiceTold_152 : decode cX3_voiceTold 152 = .ok (.iload 5, 2) := by decide +kernel
theorem dX3_voiceTold_154 : decode cX3_voiceTold 154 = .ok (.invokestatic 110, 3) := by decide +kernel
theorem dX3_voiceTold_157 : decode cX3_voiceTold 157 = .ok (.istore_n 3, 1) := by decide +kernel
theorem dX3_voiceTold_158 : decode cX3_voiceTold 158 = .ok (.iinc 4 1, 3) := by decide +kernel
theorem dX3_voiceTold_161 : decode cX3_voiceTold 161 = .ok (.goto (-112), 3) := by decide +kernel
theorem dX3_voiceTold_164 : decode cX3_voiceTold 164 = .ok (.iload_n 3, 1) := by decide +kernel
theorem dX3_voiceTold_165 : decode cX3_voiceTold 165 = .ok (.ireturn, 1) := by decide +kernel
theorem dX3_voice_0 : decode cX3_voice 0 = .ok (.aload_n 0, 1) := by decide +kernel
theorem dX3_voice_1 : decode cX3_voice 1 = .ok (.iconst 0, 1) := by decide +kernel
theorem dX3_voice_2 : decode cX3_voice 2 = .ok (.putfield 37, 3) := by decide +kernel
theorem dX3_voice_5 : decode cX3_voice 5 = .ok (.aload_n 0, 1) := by decide +kernel
theorem dX3_voice_6 : decode cX3_voice 6 = .ok (.iload_n 1, 1) := by decide +kernel
theorem dX3_voice_7 : decode cX3_voice 7 = .ok (.invokevirtual 47, 3) := by decide +kernel
theorem dX3_voice_10 : decode cX3_voice 10 = .ok (.ifCond .eq 13, 3) := by decide +kernel
theorem dX3_voice_13 : decode cX3_voice 13 = .ok (.iload_n 2, 1) := by decide +kernel
theorem dX3_voice_14 : decode cX3_voice 14 = .ok (.iconst 0, 1) := by decide +kernel
theorem dX3_voice_15 : decode cX3_voice 15 = .ok (.bipush 6, 2) := by decide +kernel
theorem dX3_voice_17 : decode cX3_voice 17 = .ok (.invokestatic 43, 3) := by decide +kernel
theorem dX3_voice_20 : decode cX3_voice 20 = .ok (.ifCond .ne 9, 3) := by decide +kernel
theorem dX3_voice_23 : decode cX3_voice 23 = .ok (.aload_n 0, 1) := by decide +kernel
theorem dX3_voice_24 : decode cX3_voice 24 = .ok (.iconst 1, 1) := by decide +kernel
theorem dX3_voice_25 : decode cX3_voice 25 = .ok (.invokevirtual 77, 3) := by decide +kernel
theorem dX3_voice_28 : decode cX3_voice 28 = .ok (.ireturn, 1) := by decide +kernel
theorem dX3_voice_29 : decode cX3_voice 29 = .ok (.aload_n 0, 1) := by decide +kernel
theorem dX3_voice_30 : decode cX3_voice 30 = .ok (.iload_n 1, 1) := by decide +kernel
theorem dX3_voice_31 : decode cX3_voice 31 = .ok (.invokevirtual 145, 3) := by decide +kernel
theorem dX3_voice_34 : decode cX3_voice 34 = .ok (.aload_n 0, 1) := by decide +kernel
theorem dX3_voice_35 : decode cX3_voice 35 = .ok (.iload_n 1, 1) := by decide +kernel
theorem dX3_voice_36 : decode cX3_voice 36 = .ok (.iload_n 2, 1) := by decide +kernel
theorem dX3_voice_37 : decode cX3_voice 37 = .ok (.invokevirtual 151, 3) := by decide +kernel
theorem dX3_voice_40 : decode cX3_voice 40 = .ok (.ireturn, 1) := by decide +kernel
theorem dX3_place_0 : decode cX3_place 0 = .ok (.bipush 7, 2) := by decide +kernel
theorem dX3_place_2 : decode cX3_place 2 = .ok (.aload_n 0, 1) := by decide +kernel
theorem dX3_place_3 : decode cX3_place 3 = .ok (.iload_n 1, 1) := by decide +kernel
theorem dX3_place_4 : decode cX3_place 4 = .ok (.iload_n 2, 1) := by decide +kernel
theorem dX3_place_5 : decode cX3_place 5 = .ok (.iconst 5, 1) := by decide +kernel
theorem dX3_place_6 : decode cX3_place 6 = .ok (.invokevirtual 57, 3) := by decide +kernel
theorem dX3_place_9 : decode cX3_place 9 = .ok (.imul, 1) := by decide +kernel
theorem dX3_place_10 : decode cX3_place 10 = .ok (.aload_n 0, 1) := by decide +kernel
theorem dX3_place_11 : decode cX3_place 11 = .ok (.iload_n 1, 1) := by decide +kernel
theorem dX3_place_12 : decode cX3_place 12 = .ok (.iload_n 2, 1) := by decide +kernel
theorem dX3_place_13 : decode cX3_place 13 = .ok (.iconst 3, 1) := by decide +kernel
theorem dX3_place_14 : decode cX3_place 14 = .ok (.invokevirtual 57, 3) := by decide +kernel
theorem dX3_place_17 : decode cX3_place 17 = .ok (.iadd, 1) := by decide +kernel
theorem dX3_place_18 : decode cX3_place 18 = .ok (.iload_n 3, 1) := by decide +kernel
theorem dX3_place_19 : decode cX3_place 19 = .ok (.iadd, 1) := by decide +kernel
theorem dX3_place_20 : decode cX3_place 20 = .ok (.ireturn, 1) := by decide +kernel
theorem dX3_transpose_0 : decode cX3_transpose 0 = .ok (.aload_n 0, 1) := by decide +kernel
theorem dX3_transpose_1 : decode cX3_transpose 1 = .ok (.iconst 0, 1) := by decide +kernel
theorem dX3_transpose_2 : decode cX3_transpose 2 = .ok (.putfield 37, 3) := by decide +kernel
theorem dX3_transpose_5 : decode cX3_transpose 5 = .ok (.iload_n 1, 1) := by decide +kernel
theorem dX3_transpose_6 : decode cX3_transpose 6 = .ok (.bipush (-14), 2) := by decide +kernel
theorem dX3_transpose_8 : decode cX3_transpose 8 = .ok (.bipush 14, 2) := by decide +kernel
theorem dX3_transpose_10 : decode cX3_transpose 10 = .ok (.invokestatic 43, 3) := by decide +kernel
theorem dX3_transpose_13 : decode cX3_transpose 13 = .ok (.ifCond .eq 14, 3) := by decide +kernel
theorem dX3_transpose_16 : decode cX3_transpose 16 = .ok (.iload_n 2, 1) := by decide +kernel
theorem dX3_transpose_17 : decode cX3_transpose 17 = .ok (.bipush (-24), 2) := by decide +kernel
theorem dX3_transpose_19 : decode cX3_transpose 19 = .ok (.bipush 24, 2) := by decide +kernel
theorem dX3_transpose_21 : decode cX3_transpose 21 = .ok (.invokestatic 43, 3) := by decide +kernel
theorem dX3_transpose_24 : decode cX3_transpose 24 = .ok (.ifCond .ne 9, 3) := by decide +kernel
theorem dX3_transpose_27 : decode cX3_transpose 27 = .ok (.aload_n 0, 1) := by decide +kernel
theorem dX3_transpose_28 : decode cX3_transpose 28 = .ok (.iconst 1, 1) := by decide +kernel
theorem dX3_transpose_29 : decode cX3_transpose 29 = .ok (.invokevirtual 77, 3) := by decide +kernel
theorem dX3_transpose_32 : decode cX3_transpose 32 = .ok (.ireturn, 1) := by decide +kernel
theorem dX3_transpose_33 : decode cX3_transpose 33 = .ok (.aload_n 0, 1) := by decide +kernel
theorem dX3_transpose_34 : decode cX3_transpose 34 = .ok (.getfield 74, 3) := by decide +kernel
theorem dX3_transpose_37 : decode cX3_transpose 37 = .ok (.bipush 7, 2) := by decide +kernel
theorem dX3_transpose_39 : decode cX3_transpose 39 = .ok (.iload_n 2, 1) := by decide +kernel
theorem dX3_transpose_40 : decode cX3_transpose 40 = .ok (.imul, 1) := by decide +kernel
theorem dX3_transpose_41 : decode cX3_transpose 41 = .ok (.iadd, 1) := by decide +kernel
theorem dX3_transpose_42 : decode cX3_transpose 42 = .ok (.bipush 12, 2) := by decide +kernel
theorem dX3_transpose_44 : decode cX3_transpose 44 = .ok (.iload_n 1, 1) := by decide +kernel
theorem dX3_transpose_45 : decode cX3_transpose 45 = .ok (.imul, 1) := by decide +kernel
theorem dX3_transpose_46 : decode cX3_transpose 46 = .ok (.isub, 1) := by decide +kernel
theorem dX3_transpose_47 : decode cX3_transpose 47 = .ok (.istore_n 3, 1) := by decide +kernel
theorem dX3_transpose_48 : decode cX3_transpose 48 = .ok (.iload_n 3, 1) := by decide +kernel
theorem dX3_transpose_49 : decode cX3_transpose 49 = .ok (.bipush (-7), 2) := by decide +kernel
theorem dX3_transpose_51 : decode cX3_transpose 51 = .ok (.bipush 7, 2) := by decide +kernel
theorem dX3_transpose_53 : decode cX3_transpose 53 = .ok (.invokestatic 43, 3) := by decide +kernel
theorem dX3_transpose_56 : decode cX3_transpose 56 = .ok (.ifCond .ne 9, 3) := by decide +kernel
theorem dX3_transpose_59 : decode cX3_transpose 59 = .ok (.aload_n 0, 1) := by decide +kernel
theorem dX3_transpose_60 : decode cX3_transpose 60 = .ok (.iconst 2, 1) := by decide +kernel
theorem dX3_transpose_61 : decode cX3_transpose 61 = .ok (.invokevirtual 77, 3) := by decide +kernel
theorem dX3_transpose_64 : decode cX3_transpose 64 = .ok (.ireturn, 1) := by decide +kernel
theorem dX3_transpose_65 : decode cX3_transpose 65 = .ok (.iconst 0, 1) := by decide +kernel
theorem dX3_transpose_66 : decode cX3_transpose 66 = .ok (.istore 4, 2) := by decide +kernel
theorem dX3_transpose_68 : decode cX3_transpose 68 = .ok (.iload 4, 2) := by decide +kernel
theorem dX3_transpose_70 : decode cX3_transpose 70 = .ok (.iconst 2, 1) := by decide +kernel
theorem dX3_transpose_71 : decode cX3_transpose 71 = .ok (.if_icmp .ge 195, 3) := by decide +kernel
theorem dX3_transpose_74 : decode cX3_transpose 74 = .ok (.iconst 0, 1) := by decide +kernel
theorem dX3_transpose_75 : decode cX3_transpose 75 = .ok (.istore 5, 2) := by decide +kernel
theorem dX3_transpose_77 : decode cX3_transpose 77 = .ok (.iload 5, 2) := by decide +kernel
theorem dX3_transpose_79 : decode cX3_transpose 79 = .ok (.aload_n 0, 1) := by decide +kernel
theorem dX3_transpose_80 : decode cX3_transpose 80 = .ok (.getfield 40, 3) := by decide +kernel
theorem dX3_transpose_83 : decode cX3_transpose 83 = .ok (.if_icmp .ge 177, 3) := by decide +kernel
theorem dX3_transpose_86 : decode cX3_transpose 86 = .ok (.iconst 0, 1) := by decide +kernel
theorem dX3_transpose_87 : decode cX3_transpose 87 = .ok (.istore 6, 2) := by decide +kernel
theorem dX3_transpose_89 : decode cX3_transpose 89 = .ok (.iload 6, 2) := by decide +kernel
theorem dX3_transpose_91 : decode cX3_transpose 91 = .ok (.aload_n 0, 1) := by decide +kernel
theorem dX3_transpose_92 : decode cX3_transpose 92 = .ok (.getfield 16, 3) := by decide +kernel
theorem dX3_transpose_95 : decode cX3_transpose 95 = .ok (.iload 5, 2) := by decide +kernel
theorem dX3_transpose_97 : decode cX3_transpose 97 = .ok (.iaload, 1) := by decide +kernel
theorem dX3_transpose_98 : decode cX3_transpose 98 = .ok (.if_icmp .ge 156, 3) := by decide +kernel
theorem dX3_transpose_101 : decode cX3_transpose 101 = .ok (.aload_n 0, 1) := by decide +kernel
theorem dX3_transpose_102 : decode cX3_transpose 102 = .ok (.iload 5, 2) := by decide +kernel
theorem dX3_transpose_104 : decode cX3_transpose 104 = .ok (.iload 6, 2) := by decide +kernel
theorem dX3_transpose_106 : decode cX3_transpose 106 = .ok (.iconst 2, 1) := by decide +kernel
theorem dX3_transpose_107 : decode cX3_transpose 107 = .ok (.invokevirtual 57, 3) := by decide +kernel
theorem dX3_transpose_110 : decode cX3_transpose 110 = .ok (.ifCond .ne 6, 3) := by decide +kernel
theorem dX3_transpose_113 : decode cX3_transpose 113 = .ok (.goto 135, 3) := by decide +kernel
theorem dX3_transpose_116 : decode cX3_transpose 116 = .ok (.aload_n 0, 1) := by decide +kernel
theorem dX3_transpose_117 : decode cX3_transpose 117 = .ok (.iload 5, 2) := by decide +kernel
theorem dX3_transpose_119 : decode cX3_transpose 119 = .ok (.iload 6, 2) := by decide +kernel
theorem dX3_transpose_121 : decode cX3_transpose 121 = .ok (.iload_n 1, 1) := by decide +kernel
theorem dX3_transpose_122 : decode cX3_transpose 122 = .ok (.invokevirtual 154, 3) := by decide +kernel
theorem dX3_transpose_125 : decode cX3_transpose 125 = .ok (.istore 7, 2) := by decide +kernel
theorem dX3_transpose_127 : decode cX3_transpose 127 = .ok (.iload 7, 2) := by decide +kernel
theorem dX3_transpose_129 : decode cX3_transpose 129 = .ok (.bipush 7, 2) := by decide +kernel
theorem dX3_transpose_131 : decode cX3_transpose 131 = .ok (.invokestatic 157, 3) := by decide +kernel
theorem dX3_transpose_134 : decode cX3_transpose 134 = .ok (.istore 8, 2) := by decide +kernel
theorem dX3_transpose_136 : decode cX3_transpose 136 = .ok (.iload 7, 2) := by decide +kernel
theorem dX3_transpose_138 : decode cX3_transpose 138 = .ok (.bipush 7, 2) := by decide +kernel
theorem dX3_transpose_140 : decode cX3_transpose 140 = .ok (.invokestatic 160, 3) := by decide +kernel
theorem dX3_transpose_143 : decode cX3_transpose 143 = .ok (.istore 9, 2) := by decide +kernel
theorem dX3_transpose_145 : decode cX3_transpose 145 = .ok (.aload_n 0, 1) := by decide +kernel
theorem dX3_transpose_146 : decode cX3_transpose 146 = .ok (.iload 5, 2) := by decide +kernel
theorem dX3_transpose_148 : decode cX3_transpose 148 = .ok (.iload 6, 2) := by decide +kernel
theorem dX3_transpose_150 : decode cX3_transpose 150 = .ok (.invokevirtual 133, 3) := by decide +kernel
theorem dX3_transpose_153 : decode cX3_transpose 153 = .ok (.iload_n 2, 1) := by decide +kernel
theorem dX3_transpose_154 : decode cX3_transpose 154 = .ok (.iadd, 1) := by decide +kernel
theorem dX3_transpose_155 : decode cX3_transpose 155 = .ok (.iload 9, 2) := by decide +kernel
theorem dX3_transpose_157 : decode cX3_transpose 157 = .ok (.iconst 0, 1) := by decide +kernel
theorem dX3_transpose_158 : decode cX3_transpose 158 = .ok (.iload 8, 2) := by decide +kernel
theorem dX3_transpose_160 : decode cX3_transpose 160 = .ok (.invokestatic 65, 3) := by decide +kernel
theorem dX3_transpose_163 : decode cX3_transpose 163 = .ok (.isub, 1) := by decide +kernel
theorem dX3_transpose_164 : decode cX3_transpose 164 = .ok (.istore 10, 2) := by decide +kernel
theorem dX3_transpose_166 : decode cX3_transpose 166 = .ok (.iload 4, 2) := by decide +kernel
theorem dX3_transpose_168 : decode cX3_transpose 168 = .ok (.ifCond .ne 21, 3) := by decide +kernel
theorem dX3_transpose_171 : decode cX3_transpose 171 = .ok (.iload 9, 2) := by decide +kernel
theorem dX3_transpose_173 : decode cX3_transpose 173 = .ok (.iload 10, 2) := by decide +kernel
theorem dX3_transpose_175 : decode cX3_transpose 175 = .ok (.iload 8, 2) := by decide +kernel
theorem dX3_transpose_177 : decode cX3_transpose 177 = .ok (.invokestatic 123, 3) := by decide +kernel
theorem dX3_transpose_180 : decode cX3_transpose 180 = .ok (.ifCond .ne 9, 3) := by decide +kernel
theorem dX3_transpose_183 : decode cX3_transpose 183 = .ok (.aload_n 0, 1) := by decide +kernel
theorem dX3_transpose_184 : decode cX3_transpose 184 = .ok (.iconst 2, 1) := by decide +kernel
theorem dX3_transpose_185 : decode cX3_transpose 185 = .ok (.invokevirtual 77, 3) := by decide +kernel
theorem dX3_transpose_188 : decode cX3_transpose 188 = .ok (.ireturn, 1) := by decide +kernel
theorem dX3_transpose_189 : decode cX3_transpose 189 = .ok (.iload 4, 2) := by decide +kernel
theorem dX3_transpose_191 : decode cX3_transpose 191 = .ok (.ifCond .ne 6, 3) := by decide +kernel
theorem dX3_transpose_194 : decode cX3_transpose 194 = .ok (.goto 54, 3) := by decide +kernel
theorem dX3_transpose_197 : decode cX3_transpose 197 = .ok (.aload_n 0, 1) := by decide +kernel
theorem dX3_transpose_198 : decode cX3_transpose 198 = .ok (.getfield 22, 3) := by decide +kernel
theorem dX3_transpose_201 : decode cX3_transpose 201 = .ok (.iload 5, 2) := by decide +kernel
theorem dX3_transpose_203 : decode cX3_transpose 203 = .ok (.aaload, 1) := by decide +kernel
theorem dX3_transpose_204 : decode cX3_transpose 204 = .ok (.bipush 10, 2) := by decide +kernel
theorem dX3_transpose_206 : decode cX3_transpose 206 = .ok (.iload 6, 2) := by decide +kernel
theorem dX3_transpose_208 : decode cX3_transpose 208 = .ok (.imul, 1) := by decide +kernel
theorem dX3_transpose_209 : decode cX3_transpose 209 = .ok (.iconst 3, 1) := by decide +kernel
theorem dX3_transpose_210 : decode cX3_transpose 210 = .ok (.iadd, 1) := by decide +kernel
theorem dX3_transpose_211 : decode cX3_transpose 211 = .ok (.iload 9, 2) := by decide +kernel
theorem dX3_transpose_213 : decode cX3_transpose 213 = .ok (.iastore, 1) := by decide +kernel
theorem dX3_transpose_214 : decode cX3_transpose 214 = .ok (.aload_n 0, 1) := by decide +kernel
theorem dX3_transpose_215 : decode cX3_transpose 215 = .ok (.getfield 22, 3) := by decide +kernel
theorem dX3_transpose_218 : decode cX3_transpose 218 = .ok (.iload 5, 2) := by decide +kernel
theorem dX3_transpose_220 : decode cX3_transpose 220 = .ok (.aaload, 1) := by decide +kernel
theorem dX3_transpose_221 : decode cX3_transpose 221 = .ok (.bipush 10, 2) := by decide +kernel
theorem dX3_transpose_223 : decode cX3_transpose 223 = .ok (.iload 6, 2) := by decide +kernel
theorem dX3_transpose_225 : decode cX3_transpose 225 = .ok (.imul, 1) := by decide +kernel
theorem dX3_transpose_226 : decode cX3_transpose 226 = .ok (.iconst 4, 1) := by decide +kernel
theorem dX3_transpose_227 : decode cX3_transpose 227 = .ok (.iadd, 1) := by decide +kernel
theorem dX3_transpose_228 : decode cX3_transpose 228 = .ok (.iload 10, 2) := by decide +kernel
theorem dX3_transpose_230 : decode cX3_transpose 230 = .ok (.iastore, 1) := by decide +kernel
theorem dX3_transpose_231 : decode cX3_transpose 231 = .ok (.aload_n 0, 1) := by decide +kernel
theorem dX3_transpose_232 : decode cX3_transpose 232 = .ok (.getfield 22, 3) := by decide +kernel
theorem dX3_transpose_235 : decode cX3_transpose 235 = .ok (.iload 5, 2) := by decide +kernel
theorem dX3_transpose_237 : decode cX3_transpose 237 = .ok (.aaload, 1) := by decide +kernel
theorem dX3_transpose_238 : decode cX3_transpose 238 = .ok (.bipush 10, 2) := by decide +kernel
theorem dX3_transpose_240 : decode cX3_transpose 240 = .ok (.iload 6, 2) := by decide +kernel
theorem dX3_transpose_242 : decode cX3_transpose 242 = .ok (.imul, 1) := by decide +kernel
theorem dX3_transpose_243 : decode cX3_transpose 243 = .ok (.iconst 5, 1) := by decide +kernel
theorem dX3_transpose_244 : decode cX3_transpose 244 = .ok (.iadd, 1) := by decide +kernel
theorem dX3_transpose_245 : decode cX3_transpose 245 = .ok (.iload 8, 2) := by decide +kernel
theorem dX3_transpose_247 : decode cX3_transpose 247 = .ok (.iastore, 1) := by decide +kernel
theorem dX3_transpose_248 : decode cX3_transpose 248 = .ok (.iinc 6 1, 3) := by decide +kernel
theorem dX3_transpose_251 : decode cX3_transpose 251 = .ok (.goto (-162), 3) := by decide +kernel
theorem dX3_transpose_254 : decode cX3_transpose 254 = .ok (.iinc 5 1, 3) := by decide +kernel
theorem dX3_transpose_257 : decode cX3_transpose 257 = .ok (.goto (-180), 3) := by decide +kernel
theorem dX3_transpose_260 : decode cX3_transpose 260 = .ok (.iinc 4 1, 3) := by decide +kernel
theorem dX3_transpose_263 : decode cX3_transpose 263 = .ok (.goto (-195), 3) := by decide +kernel
theorem dX3_transpose_266 : decode cX3_transpose 266 = .ok (.aload_n 0, 1) := by decide +kernel
theorem dX3_transpose_267 : decode cX3_transpose 267 = .ok (.iload_n 3, 1) := by decide +kernel
theorem dX3_transpose_268 : decode cX3_transpose 268 = .ok (.putfield 74, 3) := by decide +kernel
theorem dX3_transpose_271 : decode cX3_transpose 271 = .ok (.aload_n 0, 1) := by decide +kernel
theorem dX3_transpose_272 : decode cX3_transpose 272 = .ok (.getfield 74, 3) := by decide +kernel
theorem dX3_transpose_275 : decode cX3_transpose 275 = .ok (.ireturn, 1) := by decide +kernel
theorem dX3_begins_0 : decode cX3_begins 0 = .ok (.iconst 0, 1) := by decide +kernel
theorem dX3_begins_1 : decode cX3_begins 1 = .ok (.istore_n 3, 1) := by decide +kernel
theorem dX3_begins_2 : decode cX3_begins 2 = .ok (.iload_n 3, 1) := by decide +kernel
theorem dX3_begins_3 : decode cX3_begins 3 = .ok (.aload_n 0, 1) := by decide +kernel
theorem dX3_begins_4 : decode cX3_begins 4 = .ok (.getfield 16, 3) := by decide +kernel
theorem dX3_begins_7 : decode cX3_begins 7 = .ok (.iload_n 1, 1) := by decide +kernel
theorem dX3_begins_8 : decode cX3_begins 8 = .ok (.iaload, 1) := by decide +kernel
theorem dX3_begins_9 : decode cX3_begins 9 = .ok (.if_icmp .ge 34, 3) := by decide +kernel
theorem dX3_begins_12 : decode cX3_begins 12 = .ok (.aload_n 0, 1) := by decide +kernel
theorem dX3_begins_13 : decode cX3_begins 13 = .ok (.iload_n 1, 1) := by decide +kernel
theorem dX3_begins_14 : decode cX3_begins 14 = .ok (.iload_n 3, 1) := by decide +kernel
theorem dX3_begins_15 : decode cX3_begins 15 = .ok (.bipush 7, 2) := by decide +kernel
theorem dX3_begins_17 : decode cX3_begins 17 = .ok (.invokevirtual 57, 3) := by decide +kernel
theorem dX3_begins_20 : decode cX3_begins 20 = .ok (.iload_n 2, 1) := by decide +kernel
theorem dX3_begins_21 : decode cX3_begins 21 = .ok (.if_icmp .ne 16, 3) := by decide +kernel
theorem dX3_begins_24 : decode cX3_begins 24 = .ok (.aload_n 0, 1) := by decide +kernel
theorem dX3_begins_25 : decode cX3_begins 25 = .ok (.iload_n 1, 1) := by decide +kernel
theorem dX3_begins_26 : decode cX3_begins 26 = .ok (.iload_n 3, 1) := by decide +kernel
theorem dX3_begins_27 : decode cX3_begins 27 = .ok (.iconst 2, 1) := by decide +kernel
theorem dX3_begins_28 : decode cX3_begins 28 = .ok (.invokevirtual 57, 3) := by decide +kernel
theorem dX3_begins_31 : decode cX3_begins 31 = .ok (.iconst 1, 1) := by decide +kernel
theorem dX3_begins_32 : decode cX3_begins 32 = .ok (.if_icmp .ne 5, 3) := by decide +kernel
theorem dX3_begins_35 : decode cX3_begins 35 = .ok (.iload_n 3, 1) := by decide +kernel
theorem dX3_begins_36 : decode cX3_begins 36 = .ok (.ireturn, 1) := by decide +kernel
theorem dX3_begins_37 : decode cX3_begins 37 = .ok (.iinc 3 1, 3) := by decide +kernel
theorem dX3_begins_40 : decode cX3_begins 40 = .ok (.goto (-38), 3) := by decide +kernel
theorem dX3_begins_43 : decode cX3_begins 43 = .ok (.iconst (-1), 1) := by decide +kernel
theorem dX3_begins_44 : decode cX3_begins 44 = .ok (.ireturn, 1) := by decide +kernel
theorem dX3_parallels_0 : decode cX3_parallels 0 = .ok (.iconst 0, 1) := by decide +kernel
theorem dX3_parallels_1 : decode cX3_parallels 1 = .ok (.istore_n 3, 1) := by decide +kernel
theorem dX3_parallels_2 : decode cX3_parallels 2 = .ok (.iconst (-1), 1) := by decide +kernel
theorem dX3_parallels_3 : decode cX3_parallels 3 = .ok (.istore 4, 2) := by decide +kernel
theorem dX3_parallels_5 : decode cX3_parallels 5 = .ok (.iconst (-1), 1) := by decide +kernel
theorem dX3_parallels_6 : decode cX3_parallels 6 = .ok (.istore 5, 2) := by decide +kernel
theorem dX3_parallels_8 : decode cX3_parallels 8 = .ok (.iconst 0, 1) := by decide +kernel
theorem dX3_parallels_9 : decode cX3_parallels 9 = .ok (.istore 6, 2) := by decide +kernel
theorem dX3_parallels_11 : decode cX3_parallels 11 = .ok (.iload 6, 2) := by decide +kernel
theorem dX3_parallels_13 : decode cX3_parallels 13 = .ok (.aload_n 0, 1) := by decide +kernel
theorem dX3_parallels_14 : decode cX3_parallels 14 = .ok (.getfield 16, 3) := by decide +kernel
theorem dX3_parallels_17 : decode cX3_parallels 17 = .ok (.iload_n 1, 1) := by decide +kernel
theorem dX3_parallels_18 : decode cX3_parallels 18 = .ok (.iaload, 1) := by decide +kernel
theorem dX3_parallels_19 : decode cX3_parallels 19 = .ok (.if_icmp .ge 151, 3) := by decide +kernel
theorem dX3_parallels_22 : decode cX3_parallels 22 = .ok (.aload_n 0, 1) := by decide +kernel
theorem dX3_parallels_23 : decode cX3_parallels 23 = .ok (.iload_n 1, 1) := by decide +kernel
theorem dX3_parallels_24 : decode cX3_parallels 24 = .ok (.iload 6, 2) := by decide +kernel
theorem dX3_parallels_26 : decode cX3_parallels 26 = .ok (.iconst 2, 1) := by decide +kernel
theorem dX3_parallels_27 : decode cX3_parallels 27 = .ok (.invokevirtual 57, 3) := by decide +kernel
theorem dX3_parallels_30 : decode cX3_parallels 30 = .ok (.ifCond .ne 7, 3) := by decide +kernel
theorem dX3_parallels_33 : decode cX3_parallels 33 = .ok (.iconst (-1), 1) := by decide +kernel
theorem dX3_parallels_34 : decode cX3_parallels 34 = .ok (.goto 17, 3) := by decide +kernel
theorem dX3_parallels_37 : decode cX3_parallels 37 = .ok (.aload_n 0, 1) := by decide +kernel
theorem dX3_parallels_38 : decode cX3_parallels 38 = .ok (.iload_n 2, 1) := by decide +kernel
theorem dX3_parallels_39 : decode cX3_parallels 39 = .ok (.aload_n 0, 1) := by decide +kernel
theorem dX3_parallels_40 : decode cX3_parallels 40 = .ok (.iload_n 1, 1) := by decide +kernel
theorem dX3_parallels_41 : decode cX3_parallels 41 = .ok (.iload 6, 2) := by decide +kernel
theorem dX3_parallels_43 : decode cX3_parallels 43 = .ok (.bipush 7, 2) := by decide +kernel
theorem dX3_parallels_45 : decode cX3_parallels 45 = .ok (.invokevirtual 57, 3) := by decide +kernel
theorem dX3_parallels_48 : decode cX3_parallels 48 = .ok (.invokevirtual 163, 3) := by decide +kernel
theorem dX3_parallels_51 : decode cX3_parallels 51 = .ok (.istore 7, 2) := by decide +kernel
theorem dX3_parallels_53 : decode cX3_parallels 53 = .ok (.iload 7, 2) := by decide +kernel
theorem dX3_parallels_55 : decode cX3_parallels 55 = .ok (.iconst (-1), 1) := by decide +kernel
theorem dX3_parallels_56 : decode cX3_parallels 56 = .ok (.if_icmp .ne 6, 3) := by decide +kernel
theorem dX3_parallels_59 : decode cX3_parallels 59 = .ok (.goto 105, 3) := by decide +kernel
theorem dX3_parallels_62 : decode cX3_parallels 62 = .ok (.aload_n 0, 1) := by decide +kernel
theorem dX3_parallels_63 : decode cX3_parallels 63 = .ok (.iload_n 1, 1) := by decide +kernel
theorem dX3_parallels_64 : decode cX3_parallels 64 = .ok (.iload 6, 2) := by decide +kernel
theorem dX3_parallels_66 : decode cX3_parallels 66 = .ok (.invokevirtual 133, 3) := by decide +kernel
theorem dX3_parallels_69 : decode cX3_parallels 69 = .ok (.istore 8, 2) := by decide +kernel
theorem dX3_parallels_71 : decode cX3_parallels 71 = .ok (.aload_n 0, 1) := by decide +kernel
theorem dX3_parallels_72 : decode cX3_parallels 72 = .ok (.iload_n 2, 1) := by decide +kernel
theorem dX3_parallels_73 : decode cX3_parallels 73 = .ok (.iload 7, 2) := by decide +kernel
theorem dX3_parallels_75 : decode cX3_parallels 75 = .ok (.invokevirtual 133, 3) := by decide +kernel
theorem dX3_parallels_78 : decode cX3_parallels 78 = .ok (.istore 9, 2) := by decide +kernel
theorem dX3_parallels_80 : decode cX3_parallels 80 = .ok (.iload 9, 2) := by decide +kernel
theorem dX3_parallels_82 : decode cX3_parallels 82 = .ok (.iload 8, 2) := by decide +kernel
theorem dX3_parallels_84 : decode cX3_parallels 84 = .ok (.isub, 1) := by decide +kernel
theorem dX3_parallels_85 : decode cX3_parallels 85 = .ok (.bipush 12, 2) := by decide +kernel
theorem dX3_parallels_87 : decode cX3_parallels 87 = .ok (.invokestatic 160, 3) := by decide +kernel
theorem dX3_parallels_90 : decode cX3_parallels 90 = .ok (.istore 10, 2) := by decide +kernel
theorem dX3_parallels_92 : decode cX3_parallels 92 = .ok (.iload 4, 2) := by decide +kernel
theorem dX3_parallels_94 : decode cX3_parallels 94 = .ok (.iconst (-1), 1) := by decide +kernel
theorem dX3_parallels_95 : decode cX3_parallels 95 = .ok (.if_icmp .eq 61, 3) := by decide +kernel
theorem dX3_parallels_98 : decode cX3_parallels 98 = .ok (.iload 10, 2) := by decide +kernel
theorem dX3_parallels_100 : decode cX3_parallels 100 = .ok (.iload 5, 2) := by decide +kernel
theorem dX3_parallels_102 : decode cX3_parallels 102 = .ok (.iload 4, 2) := by decide +kernel
theorem dX3_parallels_104 : decode cX3_parallels 104 = .ok (.isub, 1) := by decide +kernel
theorem dX3_parallels_105 : decode cX3_parallels 105 = .ok (.bipush 12, 2) := by decide +kernel
theorem dX3_parallels_107 : decode cX3_parallels 107 = .ok (.invokestatic 160, 3) := by decide +kernel
theorem dX3_parallels_110 : decode cX3_parallels 110 = .ok (.if_icmp .ne 46, 3) := by decide +kernel
theorem dX3_parallels_113 : decode cX3_parallels 113 = .ok (.iload 10, 2) := by decide +kernel
theorem dX3_parallels_115 : decode cX3_parallels 115 = .ok (.ifCond .eq 10, 3) := by decide +kernel
theorem dX3_parallels_118 : decode cX3_parallels 118 = .ok (.iload 10, 2) := by decide +kernel
theorem dX3_parallels_120 : decode cX3_parallels 120 = .ok (.bipush 7, 2) := by decide +kernel
theorem dX3_parallels_122 : decode cX3_parallels 122 = .ok (.if_icmp .ne 34, 3) := by decide +kernel
theorem dX3_parallels_125 : decode cX3_parallels 125 = .ok (.iload 8, 2) := by decide +kernel
theorem dX3_parallels_127 : decode cX3_parallels 127 = .ok (.iload 4, 2) := by decide +kernel
theorem dX3_parallels_129 : decode cX3_parallels 129 = .ok (.if_icmp .le 10, 3) := by decide +kernel
theorem dX3_parallels_132 : decode cX3_parallels 132 = .ok (.iload 9, 2) := by decide +kernel
theorem dX3_parallels_134 : decode cX3_parallels 134 = .ok (.iload 5, 2) := by decide +kernel
theorem dX3_parallels_136 : decode cX3_parallels 136 = .ok (.if_icmp .gt 17, 3) := by decide +kernel
theorem dX3_parallels_139 : decode cX3_parallels 139 = .ok (.iload 8, 2) := by decide +kernel
theorem dX3_parallels_141 : decode cX3_parallels 141 = .ok (.iload 4, 2) := by decide +kernel
theorem dX3_parallels_143 : decode cX3_parallels 143 = .ok (.if_icmp .ge 13, 3) := by decide +kernel
theorem dX3_parallels_146 : decode cX3_parallels 146 = .ok (.iload 9, 2) := by decide +kernel
theorem dX3_parallels_148 : decode cX3_parallels 148 = .ok (.iload 5, 2) := by decide +kernel
theorem dX3_parallels_150 : decode cX3_parallels 150 = .ok (.if_icmp .ge 6, 3) := by decide +kernel
theorem dX3_parallels_153 : decode cX3_parallels 153 = .ok (.iinc 3 1, 3) := by decide +kernel
theorem dX3_parallels_156 : decode cX3_parallels 156 = .ok (.iload 8, 2) := by decide +kernel
theorem dX3_parallels_158 : decode cX3_parallels 158 = .ok (.istore 4, 2) := by decide +kernel
theorem dX3_parallels_160 : decode cX3_parallels 160 = .ok (.iload 9, 2) := by decide +kernel
theorem dX3_parallels_162 : decode cX3_parallels 162 = .ok (.istore 5, 2) := by decide +kernel
theorem dX3_parallels_164 : decode cX3_parallels 164 = .ok (.iinc 6 1, 3) := by decide +kernel
theorem dX3_parallels_167 : decode cX3_parallels 167 = .ok (.goto (-156), 3) := by decide +kernel
theorem dX3_parallels_170 : decode cX3_parallels 170 = .ok (.iload_n 3, 1) := by decide +kernel
theorem dX3_parallels_171 : decode cX3_parallels 171 = .ok (.ireturn, 1) := by decide +kernel
theorem dX3_faultsOf_0 : decode cX3_faultsOf 0 = .ok (.iconst 0, 1) := by decide +kernel
theorem dX3_faultsOf_1 : decode cX3_faultsOf 1 = .ok (.istore_n 1, 1) := by decide +kernel
theorem dX3_faultsOf_2 : decode cX3_faultsOf 2 = .ok (.aload_n 0, 1) := by decide +kernel
theorem dX3_faultsOf_3 : decode cX3_faultsOf 3 = .ok (.invokevirtual 97, 3) := by decide +kernel
theorem dX3_faultsOf_6 : decode cX3_faultsOf 6 = .ok (.istore_n 2, 1) := by decide +kernel
theorem dX3_faultsOf_7 : decode cX3_faultsOf 7 = .ok (.iconst 0, 1) := by decide +kernel
theorem dX3_faultsOf_8 : decode cX3_faultsOf 8 = .ok (.istore_n 3, 1) := by decide +kernel
theorem dX3_faultsOf_9 : decode cX3_faultsOf 9 = .ok (.iload_n 3, 1) := by decide +kernel
theorem dX3_faultsOf_10 : decode cX3_faultsOf 10 = .ok (.aload_n 0, 1) := by decide +kernel
theorem dX3_faultsOf_11 : decode cX3_faultsOf 11 = .ok (.getfield 40, 3) := by decide +kernel
theorem dX3_faultsOf_14 : decode cX3_faultsOf 14 = .ok (.if_icmp .ge 110, 3) := by decide +kernel
theorem dX3_faultsOf_17 : decode cX3_faultsOf 17 = .ok (.iload_n 1, 1) := by decide +kernel
theorem dX3_faultsOf_18 : decode cX3_faultsOf 18 = .ok (.iconst 0, 1) := by decide +kernel
theorem dX3_faultsOf_19 : decode cX3_faultsOf 19 = .ok (.iload_n 2, 1) := by decide +kernel
theorem dX3_faultsOf_20 : decode cX3_faultsOf 20 = .ok (.aload_n 0, 1) := by decide +kernel
theorem dX3_faultsOf_21 : decode cX3_faultsOf 21 = .ok (.getfield 25, 3) := by decide +kernel
theorem dX3_faultsOf_24 : decode cX3_faultsOf 24 = .ok (.iload_n 3, 1) := by decide +kernel
theorem dX3_faultsOf_25 : decode cX3_faultsOf 25 = .ok (.iaload, 1) := by decide +kernel
theorem dX3_faultsOf_26 : decode cX3_faultsOf 26 = .ok (.aload_n 0, 1) := by decide +kernel
theorem dX3_faultsOf_27 : decode cX3_faultsOf 27 = .ok (.invokevirtual 81, 3) := by decide +kernel
theorem dX3_faultsOf_30 : decode cX3_faultsOf 30 = .ok (.idiv, 1) := by decide +kernel
theorem dX3_faultsOf_31 : decode cX3_faultsOf 31 = .ok (.isub, 1) := by decide +kernel
theorem dX3_faultsOf_32 : decode cX3_faultsOf 32 = .ok (.invokestatic 92, 3) := by decide +kernel
theorem dX3_faultsOf_35 : decode cX3_faultsOf 35 = .ok (.iadd, 1) := by decide +kernel
theorem dX3_faultsOf_36 : decode cX3_faultsOf 36 = .ok (.istore_n 1, 1) := by decide +kernel
theorem dX3_faultsOf_37 : decode cX3_faultsOf 37 = .ok (.iconst 0, 1) := by decide +kernel
theorem dX3_faultsOf_38 : decode cX3_faultsOf 38 = .ok (.istore 4, 2) := by decide +kernel
theorem dX3_faultsOf_40 : decode cX3_faultsOf 40 = .ok (.iload 4, 2) := by decide +kernel
theorem dX3_faultsOf_42 : decode cX3_faultsOf 42 = .ok (.aload_n 0, 1) := by decide +kernel
theorem dX3_faultsOf_43 : decode cX3_faultsOf 43 = .ok (.getfield 16, 3) := by decide +kernel
theorem dX3_faultsOf_46 : decode cX3_faultsOf 46 = .ok (.iload_n 3, 1) := by decide +kernel
theorem dX3_faultsOf_47 : decode cX3_faultsOf 47 = .ok (.iaload, 1) := by decide +kernel
theorem dX3_faultsOf_48 : decode cX3_faultsOf 48 = .ok (.if_icmp .ge 40, 3) := by decide +kernel
theorem dX3_faultsOf_51 : decode cX3_faultsOf 51 = .ok (.iload_n 1, 1) := by decide +kernel
theorem dX3_faultsOf_52 : decode cX3_faultsOf 52 = .ok (.aload_n 0, 1) := by decide +kernel
theorem dX3_faultsOf_53 : decode cX3_faultsOf 53 = .ok (.iload_n 3, 1) := by decide +kernel
theorem dX3_faultsOf_54 : decode cX3_faultsOf 54 = .ok (.iload 4, 2) := by decide +kernel
theorem dX3_faultsOf_56 : decode cX3_faultsOf 56 = .ok (.bipush 6, 2) := by decide +kernel
theorem dX3_faultsOf_58 : decode cX3_faultsOf 58 = .ok (.invokevirtual 57, 3) := by decide +kernel
theorem dX3_faultsOf_61 : decode cX3_faultsOf 61 = .ok (.iconst 1, 1) := by decide +kernel
theorem dX3_faultsOf_62 : decode cX3_faultsOf 62 = .ok (.if_icmp .ne 17, 3) := by decide +kernel
theorem dX3_faultsOf_65 : decode cX3_faultsOf 65 = .ok (.aload_n 0, 1) := by decide +kernel
theorem dX3_faultsOf_66 : decode cX3_faultsOf 66 = .ok (.iload_n 3, 1) := by decide +kernel
theorem dX3_faultsOf_67 : decode cX3_faultsOf 67 = .ok (.iload 4, 2) := by decide +kernel
theorem dX3_faultsOf_69 : decode cX3_faultsOf 69 = .ok (.invokevirtual 136, 3) := by decide +kernel
theorem dX3_faultsOf_72 : decode cX3_faultsOf 72 = .ok (.ifCond .ne 7, 3) := by decide +kernel
theorem dX3_faultsOf_75 : decode cX3_faultsOf 75 = .ok (.iconst 1, 1) := by decide +kernel
theorem dX3_faultsOf_76 : decode cX3_faultsOf 76 = .ok (.goto 4, 3) := by decide +kernel
theorem dX3_faultsOf_79 : decode cX3_faultsOf 79 = .ok (.iconst 0, 1) := by decide +kernel
theorem dX3_faultsOf_80 : decode cX3_faultsOf 80 = .ok (.iadd, 1) := by decide +kernel
theorem dX3_faultsOf_81 : decode cX3_faultsOf 81 = .ok (.istore_n 1, 1) := by decide +kernel
theorem dX3_faultsOf_82 : decode cX3_faultsOf 82 = .ok (.iinc 4 1, 3) := by decide +kernel
theorem dX3_faultsOf_85 : decode cX3_faultsOf 85 = .ok (.goto (-45), 3) := by decide +kernel
theorem dX3_faultsOf_88 : decode cX3_faultsOf 88 = .ok (.iload_n 3, 1) := by decide +kernel
theorem dX3_faultsOf_89 : decode cX3_faultsOf 89 = .ok (.iconst 1, 1) := by decide +kernel
theorem dX3_faultsOf_90 : decode cX3_faultsOf 90 = .ok (.iadd, 1) := by decide +kernel
theorem dX3_faultsOf_91 : decode cX3_faultsOf 91 = .ok (.istore 4, 2) := by decide +kernel
theorem dX3_faultsOf_93 : decode cX3_faultsOf 93 = .ok (.iload 4, 2) := by decide +kernel
theorem dX3_faultsOf_95 : decode cX3_faultsOf 95 = .ok (.aload_n 0, 1) := by decide +kernel
theorem dX3_faultsOf_96 : decode cX3_faultsOf 96 = .ok (.getfield 40, 3) := by decide +kernel
theorem dX3_faultsOf_99 : decode cX3_faultsOf 99 = .ok (.if_icmp .ge 19, 3) := by decide +kernel
theorem dX3_faultsOf_102 : decode cX3_faultsOf 102 = .ok (.iload_n 1, 1) := by decide +kernel
theorem dX3_faultsOf_103 : decode cX3_faultsOf 103 = .ok (.aload_n 0, 1) := by decide +kernel
theorem dX3_faultsOf_104 : decode cX3_faultsOf 104 = .ok (.iload_n 3, 1) := by decide +kernel
theorem dX3_faultsOf_105 : decode cX3_faultsOf 105 = .ok (.iload 4, 2) := by decide +kernel
theorem dX3_faultsOf_107 : decode cX3_faultsOf 107 = .ok (.invokevirtual 166, 3) := by decide +kernel
theorem dX3_faultsOf_110 : decode cX3_faultsOf 110 = .ok (.iadd, 1) := by decide +kernel
theorem dX3_faultsOf_111 : decode cX3_faultsOf 111 = .ok (.istore_n 1, 1) := by decide +kernel
theorem dX3_faultsOf_112 : decode cX3_faultsOf 112 = .ok (.iinc 4 1, 3) := by decide +kernel
theorem dX3_faultsOf_115 : decode cX3_faultsOf 115 = .ok (.goto (-22), 3) := by decide +kernel
theorem dX3_faultsOf_118 : decode cX3_faultsOf 118 = .ok (.iinc 3 1, 3) := by decide +kernel
theorem dX3_faultsOf_121 : decode cX3_faultsOf 121 = .ok (.goto (-112), 3) := by decide +kernel
theorem dX3_faultsOf_124 : decode cX3_faultsOf 124 = .ok (.iload_n 1, 1) := by decide +kernel
theorem dX3_faultsOf_125 : decode cX3_faultsOf 125 = .ok (.ireturn, 1) := by decide +kernel
theorem dX3_faults_0 : decode cX3_faults 0 = .ok (.aload_n 0, 1) := by decide +kernel
theorem dX3_faults_1 : decode cX3_faults 1 = .ok (.iconst 0, 1) := by decide +kernel
theorem dX3_faults_2 : decode cX3_faults 2 = .ok (.putfield 37, 3) := by decide +kernel
theorem dX3_faults_5 : decode cX3_faults 5 = .ok (.aload_n 0, 1) := by decide +kernel
theorem dX3_faults_6 : decode cX3_faults 6 = .ok (.invokevirtual 169, 3) := by decide +kernel
theorem dX3_faults_9 : decode cX3_faults 9 = .ok (.ireturn, 1) := by decide +kernel
theorem dX3_sounding_0 : decode cX3_sounding 0 = .ok (.aload_n 0, 1) := by decide +kernel
theorem dX3_sounding_1 : decode cX3_sounding 1 = .ok (.iload_n 1, 1) := by decide +kernel
theorem dX3_sounding_2 : decode cX3_sounding 2 = .ok (.invokevirtual 88, 3) := by decide +kernel
theorem dX3_sounding_5 : decode cX3_sounding 5 = .ok (.iconst 0, 1) := by decide +kernel
theorem dX3_sounding_6 : decode cX3_sounding 6 = .ok (.istore_n 3, 1) := by decide +kernel
theorem dX3_sounding_7 : decode cX3_sounding 7 = .ok (.iload_n 3, 1) := by decide +kernel
theorem dX3_sounding_8 : decode cX3_sounding 8 = .ok (.aload_n 0, 1) := by decide +kernel
theorem dX3_sounding_9 : decode cX3_sounding 9 = .ok (.getfield 16, 3) := by decide +kernel
theorem dX3_sounding_12 : decode cX3_sounding 12 = .ok (.iload_n 1, 1) := by decide +kernel
theorem dX3_sounding_13 : decode cX3_sounding 13 = .ok (.iaload, 1) := by decide +kernel
theorem dX3_sounding_14 : decode cX3_sounding 14 = .ok (.if_icmp .ge 47, 3) := by decide +kernel
theorem dX3_sounding_17 : decode cX3_sounding 17 = .ok (.aload_n 0, 1) := by decide +kernel
theorem dX3_sounding_18 : decode cX3_sounding 18 = .ok (.iload_n 1, 1) := by decide +kernel
theorem dX3_sounding_19 : decode cX3_sounding 19 = .ok (.iload_n 3, 1) := by decide +kernel
theorem dX3_sounding_20 : decode cX3_sounding 20 = .ok (.bipush 7, 2) := by decide +kernel
theorem dX3_sounding_22 : decode cX3_sounding 22 = .ok (.invokevirtual 57, 3) := by decide +kernel
theorem dX3_sounding_25 : decode cX3_sounding 25 = .ok (.iload_n 2, 1) := by decide +kernel
theorem dX3_sounding_26 : decode cX3_sounding 26 = .ok (.if_icmp .gt 29, 3) := by decide +kernel
theorem dX3_sounding_29 : decode cX3_sounding 29 = .ok (.iload_n 2, 1) := by decide +kernel
theorem dX3_sounding_30 : decode cX3_sounding 30 = .ok (.aload_n 0, 1) := by decide +kernel
theorem dX3_sounding_31 : decode cX3_sounding 31 = .ok (.iload_n 1, 1) := by decide +kernel
theorem dX3_sounding_32 : decode cX3_sounding 32 = .ok (.iload_n 3, 1) := by decide +kernel
theorem dX3_sounding_33 : decode cX3_sounding 33 = .ok (.bipush 7, 2) := by decide +kernel
theorem dX3_sounding_35 : decode cX3_sounding 35 = .ok (.invokevirtual 57, 3) := by decide +kernel
theorem dX3_sounding_38 : decode cX3_sounding 38 = .ok (.aload_n 0, 1) := by decide +kernel
theorem dX3_sounding_39 : decode cX3_sounding 39 = .ok (.iload_n 1, 1) := by decide +kernel
theorem dX3_sounding_40 : decode cX3_sounding 40 = .ok (.iload_n 3, 1) := by decide +kernel
theorem dX3_sounding_41 : decode cX3_sounding 41 = .ok (.invokevirtual 85, 3) := by decide +kernel
theorem dX3_sounding_44 : decode cX3_sounding 44 = .ok (.iadd, 1) := by decide +kernel
theorem dX3_sounding_45 : decode cX3_sounding 45 = .ok (.if_icmp .ge 10, 3) := by decide +kernel
theorem dX3_sounding_48 : decode cX3_sounding 48 = .ok (.aload_n 0, 1) := by decide +kernel
theorem dX3_sounding_49 : decode cX3_sounding 49 = .ok (.iload_n 1, 1) := by decide +kernel
theorem dX3_sounding_50 : decode cX3_sounding 50 = .ok (.iload_n 3, 1) := by decide +kernel
theorem dX3_sounding_51 : decode cX3_sounding 51 = .ok (.invokevirtual 133, 3) := by decide +kernel
theorem dX3_sounding_54 : decode cX3_sounding 54 = .ok (.ireturn, 1) := by decide +kernel
theorem dX3_sounding_55 : decode cX3_sounding 55 = .ok (.iinc 3 1, 3) := by decide +kernel
theorem dX3_sounding_58 : decode cX3_sounding 58 = .ok (.goto (-51), 3) := by decide +kernel
theorem dX3_sounding_61 : decode cX3_sounding 61 = .ok (.iconst (-1), 1) := by decide +kernel
theorem dX3_sounding_62 : decode cX3_sounding 62 = .ok (.ireturn, 1) := by decide +kernel
theorem dX3_interval_0 : decode cX3_interval 0 = .ok (.aload_n 0, 1) := by decide +kernel
theorem dX3_interval_1 : decode cX3_interval 1 = .ok (.iconst 0, 1) := by decide +kernel
theorem dX3_interval_2 : decode cX3_interval 2 = .ok (.putfield 37, 3) := by decide +kernel
theorem dX3_interval_5 : decode cX3_interval 5 = .ok (.aload_n 0, 1) := by decide +kernel
theorem dX3_interval_6 : decode cX3_interval 6 = .ok (.iload_n 1, 1) := by decide +kernel
theorem dX3_interval_7 : decode cX3_interval 7 = .ok (.invokevirtual 47, 3) := by decide +kernel
theorem dX3_interval_10 : decode cX3_interval 10 = .ok (.ifCond .eq 11, 3) := by decide +kernel
theorem dX3_interval_13 : decode cX3_interval 13 = .ok (.aload_n 0, 1) := by decide +kernel
theorem dX3_interval_14 : decode cX3_interval 14 = .ok (.iload_n 2, 1) := by decide +kernel
theorem dX3_interval_15 : decode cX3_interval 15 = .ok (.invokevirtual 47, 3) := by decide +kernel
theorem dX3_interval_18 : decode cX3_interval 18 = .ok (.ifCond .ne 9, 3) := by decide +kernel
theorem dX3_interval_21 : decode cX3_interval 21 = .ok (.aload_n 0, 1) := by decide +kernel
theorem dX3_interval_22 : decode cX3_interval 22 = .ok (.iconst 1, 1) := by decide +kernel
theorem dX3_interval_23 : decode cX3_interval 23 = .ok (.invokevirtual 77, 3) := by decide +kernel
theorem dX3_interval_26 : decode cX3_interval 26 = .ok (.ireturn, 1) := by decide +kernel
theorem dX3_interval_27 : decode cX3_interval 27 = .ok (.iload_n 3, 1) := by decide +kernel
theorem dX3_interval_28 : decode cX3_interval 28 = .ok (.ifCond .ge 9, 3) := by decide +kernel
theorem dX3_interval_31 : decode cX3_interval 31 = .ok (.aload_n 0, 1) := by decide +kernel
theorem dX3_interval_32 : decode cX3_interval 32 = .ok (.iconst 2, 1) := by decide +kernel
theorem dX3_interval_33 : decode cX3_interval 33 = .ok (.invokevirtual 77, 3) := by decide +kernel
theorem dX3_interval_36 : decode cX3_interval 36 = .ok (.ireturn, 1) := by decide +kernel
theorem dX3_interval_37 : decode cX3_interval 37 = .ok (.aload_n 0, 1) := by decide +kernel
theorem dX3_interval_38 : decode cX3_interval 38 = .ok (.iload_n 1, 1) := by decide +kernel
theorem dX3_interval_39 : decode cX3_interval 39 = .ok (.iload_n 3, 1) := by decide +kernel
theorem dX3_interval_40 : decode cX3_interval 40 = .ok (.invokevirtual 172, 3) := by decide +kernel
theorem dX3_interval_43 : decode cX3_interval 43 = .ok (.istore 4, 2) := by decide +kernel
theorem dX3_interval_45 : decode cX3_interval 45 = .ok (.aload_n 0, 1) := by decide +kernel
theorem dX3_interval_46 : decode cX3_interval 46 = .ok (.iload_n 2, 1) := by decide +kernel
theorem dX3_interval_47 : decode cX3_interval 47 = .ok (.iload_n 3, 1) := by decide +kernel
theorem dX3_interval_48 : decode cX3_interval 48 = .ok (.invokevirtual 172, 3) := by decide +kernel
theorem dX3_interval_51 : decode cX3_interval 51 = .ok (.istore 5, 2) := by decide +kernel
theorem dX3_interval_53 : decode cX3_interval 53 = .ok (.iload 4, 2) := by decide +kernel
theorem dX3_interval_55 : decode cX3_interval 55 = .ok (.iconst (-1), 1) := by decide +kernel
theorem dX3_interval_56 : decode cX3_interval 56 = .ok (.if_icmp .eq 9, 3) := by decide +kernel
theorem dX3_interval_59 : decode cX3_interval 59 = .ok (.iload 5, 2) := by decide +kernel
theorem dX3_interval_61 : decode cX3_interval 61 = .ok (.iconst (-1), 1) := by decide +kernel
theorem dX3_interval_62 : decode cX3_interval 62 = .ok (.if_icmp .ne 8, 3) := by decide +kernel
theorem dX3_interval_65 : decode cX3_interval 65 = .ok (.bipush (-100), 2) := by decide +kernel
theorem dX3_interval_67 : decode cX3_interval 67 = .ok (.goto 8, 3) := by decide +kernel
theorem dX3_interval_70 : decode cX3_interval 70 = .ok (.iload 5, 2) := by decide +kernel
theorem dX3_interval_72 : decode cX3_interval 72 = .ok (.iload 4, 2) := by decide +kernel
theorem dX3_interval_74 : decode cX3_interval 74 = .ok (.isub, 1) := by decide +kernel
theorem dX3_interval_75 : decode cX3_interval 75 = .ok (.ireturn, 1) := by decide +kernel
theorem dX3_put_0 : decode cX3_put 0 = .ok (.aload_n 0, 1) := by decide +kernel
theorem dX3_put_1 : decode cX3_put 1 = .ok (.getfield 175, 3) := by decide +kernel
theorem dX3_put_4 : decode cX3_put 4 = .ok (.istore 5, 2) := by decide +kernel
theorem dX3_put_6 : decode cX3_put 6 = .ok (.iload 5, 2) := by decide +kernel
theorem dX3_put_8 : decode cX3_put 8 = .ok (.ifCond .le 26, 3) := by decide +kernel
theorem dX3_put_11 : decode cX3_put 11 = .ok (.aload_n 0, 1) := by decide +kernel
theorem dX3_put_12 : decode cX3_put 12 = .ok (.iconst 4, 1) := by decide +kernel
theorem dX3_put_13 : decode cX3_put 13 = .ok (.iload 5, 2) := by decide +kernel
theorem dX3_put_15 : decode cX3_put 15 = .ok (.iconst 1, 1) := by decide +kernel
theorem dX3_put_16 : decode cX3_put 16 = .ok (.isub, 1) := by decide +kernel
theorem dX3_put_17 : decode cX3_put 17 = .ok (.imul, 1) := by decide +kernel
theorem dX3_put_18 : decode cX3_put 18 = .ok (.iload_n 1, 1) := by decide +kernel
theorem dX3_put_19 : decode cX3_put 19 = .ok (.iload_n 2, 1) := by decide +kernel
theorem dX3_put_20 : decode cX3_put 20 = .ok (.iload 4, 2) := by decide +kernel
theorem dX3_put_22 : decode cX3_put 22 = .ok (.invokevirtual 178, 3) := by decide +kernel
theorem dX3_put_25 : decode cX3_put 25 = .ok (.ifCond .eq 9, 3) := by decide +kernel
theorem dX3_put_28 : decode cX3_put 28 = .ok (.iinc 5 (-1), 3) := by decide +kernel
theorem dX3_put_31 : decode cX3_put 31 = .ok (.goto (-25), 3) := by decide +kernel
theorem dX3_put_34 : decode cX3_put 34 = .ok (.aload_n 0, 1) := by decide +kernel
theorem dX3_put_35 : decode cX3_put 35 = .ok (.getfield 34, 3) := by decide +kernel
theorem dX3_put_38 : decode cX3_put 38 = .ok (.iconst 4, 1) := by decide +kernel
theorem dX3_put_39 : decode cX3_put 39 = .ok (.iload 5, 2) := by decide +kernel
theorem dX3_put_41 : decode cX3_put 41 = .ok (.imul, 1) := by decide +kernel
theorem dX3_put_42 : decode cX3_put 42 = .ok (.aload_n 0, 1) := by decide +kernel
theorem dX3_put_43 : decode cX3_put 43 = .ok (.getfield 34, 3) := by decide +kernel
theorem dX3_put_46 : decode cX3_put 46 = .ok (.iconst 4, 1) := by decide +kernel
theorem dX3_put_47 : decode cX3_put 47 = .ok (.iload 5, 2) := by decide +kernel
theorem dX3_put_49 : decode cX3_put 49 = .ok (.iconst 1, 1) := by decide +kernel
theorem dX3_put_50 : decode cX3_put 50 = .ok (.iadd, 1) := by decide +kernel
theorem dX3_put_51 : decode cX3_put 51 = .ok (.imul, 1) := by decide +kernel
theorem dX3_put_52 : decode cX3_put 52 = .ok (.iconst 4, 1) := by decide +kernel
theorem dX3_put_53 : decode cX3_put 53 = .ok (.aload_n 0, 1) := by decide +kernel
theorem dX3_put_54 : decode cX3_put 54 = .ok (.getfield 175, 3) := by decide +kernel
theorem dX3_put_57 : decode cX3_put 57 = .ok (.iload 5, 2) := by decide +kernel
theorem dX3_put_59 : decode cX3_put 59 = .ok (.isub, 1) := by decide +kernel
theorem dX3_put_60 : decode cX3_put 60 = .ok (.imul, 1) := by decide +kernel
theorem dX3_put_61 : decode cX3_put 61 = .ok (.invokestatic 113, 3) := by decide +kernel
theorem dX3_put_64 : decode cX3_put 64 = .ok (.iconst 4, 1) := by decide +kernel
theorem dX3_put_65 : decode cX3_put 65 = .ok (.newarray .int, 2) := by decide +kernel
theorem dX3_put_67 : decode cX3_put 67 = .ok (.dup, 1) := by decide +kernel
theorem dX3_put_68 : decode cX3_put 68 = .ok (.iconst 0, 1) := by decide +kernel
theorem dX3_put_69 : decode cX3_put 69 = .ok (.iload_n 1, 1) := by decide +kernel
theorem dX3_put_70 : decode cX3_put 70 = .ok (.iastore, 1) := by decide +kernel
theorem dX3_put_71 : decode cX3_put 71 = .ok (.dup, 1) := by decide +kernel
theorem dX3_put_72 : decode cX3_put 72 = .ok (.iconst 1, 1) := by decide +kernel
theorem dX3_put_73 : decode cX3_put 73 = .ok (.iload_n 2, 1) := by decide +kernel
theorem dX3_put_74 : decode cX3_put 74 = .ok (.iastore, 1) := by decide +kernel
theorem dX3_put_75 : decode cX3_put 75 = .ok (.dup, 1) := by decide +kernel
theorem dX3_put_76 : decode cX3_put 76 = .ok (.iconst 2, 1) := by decide +kernel
theorem dX3_put_77 : decode cX3_put 77 = .ok (.iload_n 3, 1) := by decide +kernel
theorem dX3_put_78 : decode cX3_put 78 = .ok (.iastore, 1) := by decide +kernel
theorem dX3_put_79 : decode cX3_put 79 = .ok (.dup, 1) := by decide +kernel
theorem dX3_put_80 : decode cX3_put 80 = .ok (.iconst 3, 1) := by decide +kernel
theorem dX3_put_81 : decode cX3_put 81 = .ok (.iload 4, 2) := by decide +kernel
theorem dX3_put_83 : decode cX3_put 83 = .ok (.iastore, 1) := by decide +kernel
theorem dX3_put_84 : decode cX3_put 84 = .ok (.astore 6, 2) := by decide +kernel
theorem dX3_put_86 : decode cX3_put 86 = .ok (.aload 6, 2) := by decide +kernel
theorem dX3_put_88 : decode cX3_put 88 = .ok (.iconst 0, 1) := by decide +kernel
theorem dX3_put_89 : decode cX3_put 89 = .ok (.aload_n 0, 1) := by decide +kernel
theorem dX3_put_90 : decode cX3_put 90 = .ok (.getfield 34, 3) := by decide +kernel
theorem dX3_put_93 : decode cX3_put 93 = .ok (.iconst 4, 1) := by decide +kernel
theorem dX3_put_94 : decode cX3_put 94 = .ok (.iload 5, 2) := by decide +kernel
theorem dX3_put_96 : decode cX3_put 96 = .ok (.imul, 1) := by decide +kernel
theorem dX3_put_97 : decode cX3_put 97 = .ok (.iconst 4, 1) := by decide +kernel
theorem dX3_put_98 : decode cX3_put 98 = .ok (.invokestatic 113, 3) := by decide +kernel
theorem dX3_put_101 : decode cX3_put 101 = .ok (.aload_n 0, 1) := by decide +kernel
theorem dX3_put_102 : decode cX3_put 102 = .ok (.dup, 1) := by decide +kernel
theorem dX3_put_103 : decode cX3_put 103 = .ok (.getfield 175, 3) := by decide +kernel
theorem dX3_put_106 : decode cX3_put 106 = .ok (.iconst 1, 1) := by decide +kernel
theorem dX3_put_107 : decode cX3_put 107 = .ok (.iadd, 1) := by decide +kernel
theorem dX3_put_108 : decode cX3_put 108 = .ok (.putfield 175, 3) := by decide +kernel
theorem dX3_put_111 : decode cX3_put 111 = .ok (.return_, 1) := by decide +kernel
theorem dX3_isLater_0 : decode cX3_isLater 0 = .ok (.aload_n 0, 1) := by decide +kernel
theorem dX3_isLater_1 : decode cX3_isLater 1 = .ok (.getfield 34, 3) := by decide +kernel
theorem dX3_isLater_4 : decode cX3_isLater 4 = .ok (.iload_n 1, 1) := by decide +kernel
theorem dX3_isLater_5 : decode cX3_isLater 5 = .ok (.iaload, 1) := by decide +kernel
theorem dX3_isLater_6 : decode cX3_isLater 6 = .ok (.iload_n 2, 1) := by decide +kernel
theorem dX3_isLater_7 : decode cX3_isLater 7 = .ok (.if_icmp .eq 19, 3) := by decide +kernel
theorem dX3_isLater_10 : decode cX3_isLater 10 = .ok (.aload_n 0, 1) := by decide +kernel
theorem dX3_isLater_11 : decode cX3_isLater 11 = .ok (.getfield 34, 3) := by decide +kernel
theorem dX3_isLater_14 : decode cX3_isLater 14 = .ok (.iload_n 1, 1) := by decide +kernel
theorem dX3_isLater_15 : decode cX3_isLater 15 = .ok (.iaload, 1) := by decide +kernel
theorem dX3_isLater_16 : decode cX3_isLater 16 = .ok (.iload_n 2, 1) := by decide +kernel
theorem dX3_isLater_17 : decode cX3_isLater 17 = .ok (.if_icmp .le 7, 3) := by decide +kernel
theorem dX3_isLater_20 : decode cX3_isLater 20 = .ok (.iconst 1, 1) := by decide +kernel
theorem dX3_isLater_21 : decode cX3_isLater 21 = .ok (.goto 4, 3) := by decide +kernel
theorem dX3_isLater_24 : decode cX3_isLater 24 = .ok (.iconst 0, 1) := by decide +kernel
theorem dX3_isLater_25 : decode cX3_isLater 25 = .ok (.ireturn, 1) := by decide +kernel
theorem dX3_isLater_26 : decode cX3_isLater 26 = .ok (.aload_n 0, 1) := by decide +kernel
theorem dX3_isLater_27 : decode cX3_isLater 27 = .ok (.getfield 34, 3) := by decide +kernel
theorem dX3_isLater_30 : decode cX3_isLater 30 = .ok (.iload_n 1, 1) := by decide +kernel
theorem dX3_isLater_31 : decode cX3_isLater 31 = .ok (.iconst 3, 1) := by decide +kernel
theorem dX3_isLater_32 : decode cX3_isLater 32 = .ok (.iadd, 1) := by decide +kernel
theorem dX3_isLater_33 : decode cX3_isLater 33 = .ok (.iaload, 1) := by decide +kernel
theorem dX3_isLater_34 : decode cX3_isLater 34 = .ok (.iload 4, 2) := by decide +kernel
theorem dX3_isLater_36 : decode cX3_isLater 36 = .ok (.if_icmp .eq 24, 3) := by decide +kernel
theorem dX3_isLater_39 : decode cX3_isLater 39 = .ok (.aload_n 0, 1) := by decide +kernel
theorem dX3_isLater_40 : decode cX3_isLater 40 = .ok (.getfield 34, 3) := by decide +kernel
theorem dX3_isLater_43 : decode cX3_isLater 43 = .ok (.iload_n 1, 1) := by decide +kernel
theorem dX3_isLater_44 : decode cX3_isLater 44 = .ok (.iconst 3, 1) := by decide +kernel
theorem dX3_isLater_45 : decode cX3_isLater 45 = .ok (.iadd, 1) := by decide +kernel
theorem dX3_isLater_46 : decode cX3_isLater 46 = .ok (.iaload, 1) := by decide +kernel
theorem dX3_isLater_47 : decode cX3_isLater 47 = .ok (.iload 4, 2) := by decide +kernel
theorem dX3_isLater_49 : decode cX3_isLater 49 = .ok (.if_icmp .le 7, 3) := by decide +kernel
theorem dX3_isLater_52 : decode cX3_isLater 52 = .ok (.iconst 1, 1) := by decide +kernel
theorem dX3_isLater_53 : decode cX3_isLater 53 = .ok (.goto 24, 3) := by decide +kernel
theorem dX3_isLater_56 : decode cX3_isLater 56 = .ok (.iconst 0, 1) := by decide +kernel
theorem dX3_isLater_57 : decode cX3_isLater 57 = .ok (.goto 20, 3) := by decide +kernel
theorem dX3_isLater_60 : decode cX3_isLater 60 = .ok (.aload_n 0, 1) := by decide +kernel
theorem dX3_isLater_61 : decode cX3_isLater 61 = .ok (.getfield 34, 3) := by decide +kernel
theorem dX3_isLater_64 : decode cX3_isLater 64 = .ok (.iload_n 1, 1) := by decide +kernel
theorem dX3_isLater_65 : decode cX3_isLater 65 = .ok (.iconst 1, 1) := by decide +kernel
theorem dX3_isLater_66 : decode cX3_isLater 66 = .ok (.iadd, 1) := by decide +kernel
theorem dX3_isLater_67 : decode cX3_isLater 67 = .ok (.iaload, 1) := by decide +kernel
theorem dX3_isLater_68 : decode cX3_isLater 68 = .ok (.iload_n 3, 1) := by decide +kernel
theorem dX3_isLater_69 : decode cX3_isLater 69 = .ok (.if_icmp .le 7, 3) := by decide +kernel
theorem dX3_isLater_72 : decode cX3_isLater 72 = .ok (.iconst 1, 1) := by decide +kernel
theorem dX3_isLater_73 : decode cX3_isLater 73 = .ok (.goto 4, 3) := by decide +kernel
theorem dX3_isLater_76 : decode cX3_isLater 76 = .ok (.iconst 0, 1) := by decide +kernel
theorem dX3_isLater_77 : decode cX3_isLater 77 = .ok (.ireturn, 1) := by decide +kernel
theorem dX3_findEvents_0 : decode cX3_findEvents 0 = .ok (.aload_n 0, 1) := by decide +kernel
theorem dX3_findEvents_1 : decode cX3_findEvents 1 = .ok (.iconst 0, 1) := by decide +kernel
theorem dX3_findEvents_2 : decode cX3_findEvents 2 = .ok (.putfield 175, 3) := by decide +kernel
theorem dX3_findEvents_5 : decode cX3_findEvents 5 = .ok (.iconst 0, 1) := by decide +kernel
theorem dX3_findEvents_6 : decode cX3_findEvents 6 = .ok (.istore_n 1, 1) := by decide +kernel
theorem dX3_findEvents_7 : decode cX3_findEvents 7 = .ok (.iload_n 1, 1) := by decide +kernel
theorem dX3_findEvents_8 : decode cX3_findEvents 8 = .ok (.aload_n 0, 1) := by decide +kernel
theorem dX3_findEvents_9 : decode cX3_findEvents 9 = .ok (.getfield 40, 3) := by decide +kernel
theorem dX3_findEvents_12 : decode cX3_findEvents 12 = .ok (.if_icmp .ge 112, 3) := by decide +kernel
theorem dX3_findEvents_15 : decode cX3_findEvents 15 = .ok (.aload_n 0, 1) := by decide +kernel
theorem dX3_findEvents_16 : decode cX3_findEvents 16 = .ok (.iload_n 1, 1) := by decide +kernel
theorem dX3_findEvents_17 : decode cX3_findEvents 17 = .ok (.invokevirtual 88, 3) := by decide +kernel
theorem dX3_findEvents_20 : decode cX3_findEvents 20 = .ok (.iconst 0, 1) := by decide +kernel
theorem dX3_findEvents_21 : decode cX3_findEvents 21 = .ok (.istore_n 2, 1) := by decide +kernel
theorem dX3_findEvents_22 : decode cX3_findEvents 22 = .ok (.iload_n 2, 1) := by decide +kernel
theorem dX3_findEvents_23 : decode cX3_findEvents 23 = .ok (.aload_n 0, 1) := by decide +kernel
theorem dX3_findEvents_24 : decode cX3_findEvents 24 = .ok (.getfield 16, 3) := by decide +kernel
theorem dX3_findEvents_27 : decode cX3_findEvents 27 = .ok (.iload_n 1, 1) := by decide +kernel
theorem dX3_findEvents_28 : decode cX3_findEvents 28 = .ok (.iaload, 1) := by decide +kernel
theorem dX3_findEvents_29 : decode cX3_findEvents 29 = .ok (.if_icmp .ge 89, 3) := by decide +kernel
theorem dX3_findEvents_32 : decode cX3_findEvents 32 = .ok (.aload_n 0, 1) := by decide +kernel
theorem dX3_findEvents_33 : decode cX3_findEvents 33 = .ok (.iload_n 1, 1) := by decide +kernel
theorem dX3_findEvents_34 : decode cX3_findEvents 34 = .ok (.iload_n 2, 1) := by decide +kernel
theorem dX3_findEvents_35 : decode cX3_findEvents 35 = .ok (.iconst 2, 1) := by decide +kernel
theorem dX3_findEvents_36 : decode cX3_findEvents 36 = .ok (.invokevirtual 57, 3) := by decide +kernel
theorem dX3_findEvents_39 : decode cX3_findEvents 39 = .ok (.ifCond .ne 6, 3) := by decide +kernel
theorem dX3_findEvents_42 : decode cX3_findEvents 42 = .ok (.goto 70, 3) := by decide +kernel
theorem dX3_findEvents_45 : decode cX3_findEvents 45 = .ok (.aload_n 0, 1) := by decide +kernel
theorem dX3_findEvents_46 : decode cX3_findEvents 46 = .ok (.iload_n 1, 1) := by decide +kernel
theorem dX3_findEvents_47 : decode cX3_findEvents 47 = .ok (.iload_n 2, 1) := by decide +kernel
theorem dX3_findEvents_48 : decode cX3_findEvents 48 = .ok (.iconst 1, 1) := by decide +kernel
theorem dX3_findEvents_49 : decode cX3_findEvents 49 = .ok (.isub, 1) := by decide +kernel
theorem dX3_findEvents_50 : decode cX3_findEvents 50 = .ok (.invokevirtual 136, 3) := by decide +kernel
theorem dX3_findEvents_53 : decode cX3_findEvents 53 = .ok (.ifCond .ne 23, 3) := by decide +kernel
theorem dX3_findEvents_56 : decode cX3_findEvents 56 = .ok (.aload_n 0, 1) := by decide +kernel
theorem dX3_findEvents_57 : decode cX3_findEvents 57 = .ok (.aload_n 0, 1) := by decide +kernel
theorem dX3_findEvents_58 : decode cX3_findEvents 58 = .ok (.iload_n 1, 1) := by decide +kernel
theorem dX3_findEvents_59 : decode cX3_findEvents 59 = .ok (.iload_n 2, 1) := by decide +kernel
theorem dX3_findEvents_60 : decode cX3_findEvents 60 = .ok (.bipush 7, 2) := by decide +kernel
theorem dX3_findEvents_62 : decode cX3_findEvents 62 = .ok (.invokevirtual 57, 3) := by decide +kernel
theorem dX3_findEvents_65 : decode cX3_findEvents 65 = .ok (.iload_n 1, 1) := by decide +kernel
theorem dX3_findEvents_66 : decode cX3_findEvents 66 = .ok (.aload_n 0, 1) := by decide +kernel
theorem dX3_findEvents_67 : decode cX3_findEvents 67 = .ok (.iload_n 1, 1) := by decide +kernel
theorem dX3_findEvents_68 : decode cX3_findEvents 68 = .ok (.iload_n 2, 1) := by decide +kernel
theorem dX3_findEvents_69 : decode cX3_findEvents 69 = .ok (.invokevirtual 133, 3) := by decide +kernel
theorem dX3_findEvents_72 : decode cX3_findEvents 72 = .ok (.iconst 1, 1) := by decide +kernel
theorem dX3_findEvents_73 : decode cX3_findEvents 73 = .ok (.invokevirtual 182, 3) := by decide +kernel
theorem dX3_findEvents_76 : decode cX3_findEvents 76 = .ok (.aload_n 0, 1) := by decide +kernel
theorem dX3_findEvents_77 : decode cX3_findEvents 77 = .ok (.iload_n 1, 1) := by decide +kernel
theorem dX3_findEvents_78 : decode cX3_findEvents 78 = .ok (.iload_n 2, 1) := by decide +kernel
theorem dX3_findEvents_79 : decode cX3_findEvents 79 = .ok (.invokevirtual 136, 3) := by decide +kernel
theorem dX3_findEvents_82 : decode cX3_findEvents 82 = .ok (.ifCond .ne 30, 3) := by decide +kernel
theorem dX3_findEvents_85 : decode cX3_findEvents 85 = .ok (.aload_n 0, 1) := by decide +kernel
theorem dX3_findEvents_86 : decode cX3_findEvents 86 = .ok (.aload_n 0, 1) := by decide +kernel
theorem dX3_findEvents_87 : decode cX3_findEvents 87 = .ok (.iload_n 1, 1) := by decide +kernel
theorem dX3_findEvents_88 : decode cX3_findEvents 88 = .ok (.iload_n 2, 1) := by decide +kernel
theorem dX3_findEvents_89 : decode cX3_findEvents 89 = .ok (.bipush 7, 2) := by decide +kernel
theorem dX3_findEvents_91 : decode cX3_findEvents 91 = .ok (.invokevirtual 57, 3) := by decide +kernel
theorem dX3_findEvents_94 : decode cX3_findEvents 94 = .ok (.aload_n 0, 1) := by decide +kernel
theorem dX3_findEvents_95 : decode cX3_findEvents 95 = .ok (.iload_n 1, 1) := by decide +kernel
theorem dX3_findEvents_96 : decode cX3_findEvents 96 = .ok (.iload_n 2, 1) := by decide +kernel
theorem dX3_findEvents_97 : decode cX3_findEvents 97 = .ok (.invokevirtual 85, 3) := by decide +kernel
theorem dX3_findEvents_100 : decode cX3_findEvents 100 = .ok (.iadd, 1) := by decide +kernel
theorem dX3_findEvents_101 : decode cX3_findEvents 101 = .ok (.iload_n 1, 1) := by decide +kernel
theorem dX3_findEvents_102 : decode cX3_findEvents 102 = .ok (.aload_n 0, 1) := by decide +kernel
theorem dX3_findEvents_103 : decode cX3_findEvents 103 = .ok (.iload_n 1, 1) := by decide +kernel
theorem dX3_findEvents_104 : decode cX3_findEvents 104 = .ok (.iload_n 2, 1) := by decide +kernel
theorem dX3_findEvents_105 : decode cX3_findEvents 105 = .ok (.invokevirtual 133, 3) := by decide +kernel
theorem dX3_findEvents_108 : decode cX3_findEvents 108 = .ok (.iconst 0, 1) := by decide +kernel
theorem dX3_findEvents_109 : decode cX3_findEvents 109 = .ok (.invokevirtual 182, 3) := by decide +kernel
theorem dX3_findEvents_112 : decode cX3_findEvents 112 = .ok (.iinc 2 1, 3) := by decide +kernel
theorem dX3_findEvents_115 : decode cX3_findEvents 115 = .ok (.goto (-93), 3) := by decide +kernel
theorem dX3_findEvents_118 : decode cX3_findEvents 118 = .ok (.iinc 1 1, 3) := by decide +kernel
theorem dX3_findEvents_121 : decode cX3_findEvents 121 = .ok (.goto (-114), 3) := by decide +kernel
theorem dX3_findEvents_124 : decode cX3_findEvents 124 = .ok (.return_, 1) := by decide +kernel
theorem dX3_event_0 : decode cX3_event 0 = .ok (.aload_n 0, 1) := by decide +kernel
theorem dX3_event_1 : decode cX3_event 1 = .ok (.iconst 0, 1) := by decide +kernel
theorem dX3_event_2 : decode cX3_event 2 = .ok (.putfield 37, 3) := by decide +kernel
theorem dX3_event_5 : decode cX3_event 5 = .ok (.aload_n 0, 1) := by decide +kernel
theorem dX3_event_6 : decode cX3_event 6 = .ok (.invokevirtual 186, 3) := by decide +kernel
theorem dX3_event_9 : decode cX3_event 9 = .ok (.iload_n 1, 1) := by decide +kernel
theorem dX3_event_10 : decode cX3_event 10 = .ok (.iconst 0, 1) := by decide +kernel
theorem dX3_event_11 : decode cX3_event 11 = .ok (.aload_n 0, 1) := by decide +kernel
theorem dX3_event_12 : decode cX3_event 12 = .ok (.getfield 175, 3) := by decide +kernel
theorem dX3_event_15 : decode cX3_event 15 = .ok (.iconst 1, 1) := by decide +kernel
theorem dX3_event_16 : decode cX3_event 16 = .ok (.isub, 1) := by decide +kernel
theorem dX3_event_17 : decode cX3_event 17 = .ok (.invokestatic 43, 3) := by decide +kernel
theorem dX3_event_20 : decode cX3_event 20 = .ok (.ifCond .eq 25, 3) := by decide +kernel
theorem dX3_event_23 : decode cX3_event 23 = .ok (.iload_n 2, 1) := by decide +kernel
theorem dX3_event_24 : decode cX3_event 24 = .ok (.iconst 0, 1) := by decide +kernel
theorem dX3_event_25 : decode cX3_event 25 = .ok (.iconst 3, 1) := by decide +kernel
theorem dX3_event_26 : decode cX3_event 26 = .ok (.invokestatic 43, 3) := by decide +kernel
theorem dX3_event_29 : decode cX3_event 29 = .ok (.ifCond .eq 16, 3) := by decide +kernel
theorem dX3_event_32 : decode cX3_event 32 = .ok (.aload_n 0, 1) := by decide +kernel
theorem dX3_event_33 : decode cX3_event 33 = .ok (.getfield 34, 3) := by decide +kernel
theorem dX3_event_36 : decode cX3_event 36 = .ok (.iconst 4, 1) := by decide +kernel
theorem dX3_event_37 : decode cX3_event 37 = .ok (.iload_n 1, 1) := by decide +kernel
theorem dX3_event_38 : decode cX3_event 38 = .ok (.imul, 1) := by decide +kernel
theorem dX3_event_39 : decode cX3_event 39 = .ok (.iload_n 2, 1) := by decide +kernel
theorem dX3_event_40 : decode cX3_event 40 = .ok (.iadd, 1) := by decide +kernel
theorem dX3_event_41 : decode cX3_event 41 = .ok (.iaload, 1) := by decide +kernel
theorem dX3_event_42 : decode cX3_event 42 = .ok (.goto 8, 3) := by decide +kernel
theorem dX3_event_45 : decode cX3_event 45 = .ok (.aload_n 0, 1) := by decide +kernel
theorem dX3_event_46 : decode cX3_event 46 = .ok (.iconst 1, 1) := by decide +kernel
theorem dX3_event_47 : decode cX3_event 47 = .ok (.invokevirtual 77, 3) := by decide +kernel
theorem dX3_event_50 : decode cX3_event 50 = .ok (.ireturn, 1) := by decide +kernel
theorem dX3_events_0 : decode cX3_events 0 = .ok (.aload_n 0, 1) := by decide +kernel
theorem dX3_events_1 : decode cX3_events 1 = .ok (.iconst 0, 1) := by decide +kernel
theorem dX3_events_2 : decode cX3_events 2 = .ok (.putfield 37, 3) := by decide +kernel
theorem dX3_events_5 : decode cX3_events 5 = .ok (.aload_n 0, 1) := by decide +kernel
theorem dX3_events_6 : decode cX3_events 6 = .ok (.invokevirtual 186, 3) := by decide +kernel
theorem dX3_events_9 : decode cX3_events 9 = .ok (.aload_n 0, 1) := by decide +kernel
theorem dX3_events_10 : decode cX3_events 10 = .ok (.getfield 175, 3) := by decide +kernel
theorem dX3_events_13 : decode cX3_events 13 = .ok (.ireturn, 1) := by decide +kernel
theorem dX3_time_0 : decode cX3_time 0 = .ok (.aload_n 0, 1) := by decide +kernel
theorem dX3_time_1 : decode cX3_time 1 = .ok (.iload_n 1, 1) := by decide +kernel
theorem dX3_time_2 : decode cX3_time 2 = .ok (.iconst 0, 1) := by decide +kernel
theorem dX3_time_3 : decode cX3_time 3 = .ok (.ldc 189, 2) := by decide +kernel
theorem dX3_time_5 : decode cX3_time 5 = .ok (.invokestatic 43, 3) := by decide +kernel
theorem dX3_time_8 : decode cX3_time 8 = .ok (.ifCond .eq 19, 3) := by decide +kernel
theorem dX3_time_11 : decode cX3_time 11 = .ok (.iload_n 2, 1) := by decide +kernel
theorem dX3_time_12 : decode cX3_time 12 = .ok (.bipush 10, 2) := by decide +kernel
theorem dX3_time_14 : decode cX3_time 14 = .ok (.sipush 400, 3) := by decide +kernel
theorem dX3_time_17 : decode cX3_time 17 = .ok (.invokestatic 43, 3) := by decide +kernel
theorem dX3_time_20 : decode cX3_time 20 = .ok (.ifCond .eq 7, 3) := by decide +kernel
theorem dX3_time_23 : decode cX3_time 23 = .ok (.iconst 0, 1) := by decide +kernel
theorem dX3_time_24 : decode cX3_time 24 = .ok (.goto 4, 3) := by decide +kernel
theorem dX3_time_27 : decode cX3_time 27 = .ok (.iconst 1, 1) := by decide +kernel
theorem dX3_time_28 : decode cX3_time 28 = .ok (.putfield 37, 3) := by decide +kernel
theorem dX3_time_31 : decode cX3_time 31 = .ok (.aload_n 0, 1) := by decide +kernel
theorem dX3_time_32 : decode cX3_time 32 = .ok (.getfield 37, 3) := by decide +kernel
theorem dX3_time_35 : decode cX3_time 35 = .ok (.ifCond .ne 15, 3) := by decide +kernel
theorem dX3_time_38 : decode cX3_time 38 = .ok (.iload_n 1, 1) := by decide +kernel
theorem dX3_time_39 : decode cX3_time 39 = .ok (.i2l, 1) := by decide +kernel
theorem dX3_time_40 : decode cX3_time 40 = .ok (.ldc2_w 190, 3) := by decide +kernel
theorem dX3_time_43 : decode cX3_time 43 = .ok (.lmul, 1) := by decide +kernel
theorem dX3_time_44 : decode cX3_time 44 = .ok (.iload_n 2, 1) := by decide +kernel
theorem dX3_time_45 : decode cX3_time 45 = .ok (.i2l, 1) := by decide +kernel
theorem dX3_time_46 : decode cX3_time 46 = .ok (.ldiv, 1) := by decide +kernel
theorem dX3_time_47 : decode cX3_time 47 = .ok (.goto 4, 3) := by decide +kernel
theorem dX3_time_50 : decode cX3_time 50 = .ok (.lconst 0, 1) := by decide +kernel
theorem dX3_time_51 : decode cX3_time 51 = .ok (.lreturn, 1) := by decide +kernel
theorem dX3_meanTone_0 : decode cX3_meanTone 0 = .ok (.aload_n 0, 1) := by decide +kernel
theorem dX3_meanTone_1 : decode cX3_meanTone 1 = .ok (.iconst 0, 1) := by decide +kernel
theorem dX3_meanTone_2 : decode cX3_meanTone 2 = .ok (.putfield 37, 3) := by decide +kernel
theorem dX3_meanTone_5 : decode cX3_meanTone 5 = .ok (.iconst 0, 1) := by decide +kernel
theorem dX3_meanTone_6 : decode cX3_meanTone 6 = .ok (.istore_n 1, 1) := by decide +kernel
theorem dX3_meanTone_7 : decode cX3_meanTone 7 = .ok (.iconst 0, 1) := by decide +kernel
theorem dX3_meanTone_8 : decode cX3_meanTone 8 = .ok (.istore_n 2, 1) := by decide +kernel
theorem dX3_meanTone_9 : decode cX3_meanTone 9 = .ok (.iconst 0, 1) := by decide +kernel
theorem dX3_meanTone_10 : decode cX3_meanTone 10 = .ok (.istore_n 3, 1) := by decide +kernel
theorem dX3_meanTone_11 : decode cX3_meanTone 11 = .ok (.iload_n 3, 1) := by decide +kernel
theorem dX3_meanTone_12 : decode cX3_meanTone 12 = .ok (.aload_n 0, 1) := by decide +kernel
theorem dX3_meanTone_13 : decode cX3_meanTone 13 = .ok (.getfield 40, 3) := by decide +kernel
theorem dX3_meanTone_16 : decode cX3_meanTone 16 = .ok (.if_icmp .ge 71, 3) := by decide +kernel
theorem dX3_meanTone_19 : decode cX3_meanTone 19 = .ok (.iconst 0, 1) := by decide +kernel
theorem dX3_meanTone_20 : decode cX3_meanTone 20 = .ok (.istore 4, 2) := by decide +kernel
theorem dX3_meanTone_22 : decode cX3_meanTone 22 = .ok (.iload 4, 2) := by decide +kernel
theorem dX3_meanTone_24 : decode cX3_meanTone 24 = .ok (.aload_n 0, 1) := by decide +kernel
theorem dX3_meanTone_25 : decode cX3_meanTone 25 = .ok (.getfield 16, 3) := by decide +kernel
theorem dX3_meanTone_28 : decode cX3_meanTone 28 = .ok (.iload_n 3, 1) := by decide +kernel
theorem dX3_meanTone_29 : decode cX3_meanTone 29 = .ok (.iaload, 1) := by decide +kernel
theorem dX3_meanTone_30 : decode cX3_meanTone 30 = .ok (.if_icmp .ge 51, 3) := by decide +kernel
theorem dX3_meanTone_33 : decode cX3_meanTone 33 = .ok (.aload_n 0, 1) := by decide +kernel
theorem dX3_meanTone_34 : decode cX3_meanTone 34 = .ok (.iload_n 3, 1) := by decide +kernel
theorem dX3_meanTone_35 : decode cX3_meanTone 35 = .ok (.iload 4, 2) := by decide +kernel
theorem dX3_meanTone_37 : decode cX3_meanTone 37 = .ok (.iconst 2, 1) := by decide +kernel
theorem dX3_meanTone_38 : decode cX3_meanTone 38 = .ok (.invokevirtual 57, 3) := by decide +kernel
theorem dX3_meanTone_41 : decode cX3_meanTone 41 = .ok (.ifCond .ne 6, 3) := by decide +kernel
theorem dX3_meanTone_44 : decode cX3_meanTone 44 = .ok (.goto 31, 3) := by decide +kernel
theorem dX3_meanTone_47 : decode cX3_meanTone 47 = .ok (.iload_n 1, 1) := by decide +kernel
theorem dX3_meanTone_48 : decode cX3_meanTone 48 = .ok (.aload_n 0, 1) := by decide +kernel
theorem dX3_meanTone_49 : decode cX3_meanTone 49 = .ok (.iload_n 3, 1) := by decide +kernel
theorem dX3_meanTone_50 : decode cX3_meanTone 50 = .ok (.iload 4, 2) := by decide +kernel
theorem dX3_meanTone_52 : decode cX3_meanTone 52 = .ok (.invokevirtual 133, 3) := by decide +kernel
theorem dX3_meanTone_55 : decode cX3_meanTone 55 = .ok (.aload_n 0, 1) := by decide +kernel
theorem dX3_meanTone_56 : decode cX3_meanTone 56 = .ok (.iload_n 3, 1) := by decide +kernel
theorem dX3_meanTone_57 : decode cX3_meanTone 57 = .ok (.iload 4, 2) := by decide +kernel
theorem dX3_meanTone_59 : decode cX3_meanTone 59 = .ok (.invokevirtual 85, 3) := by decide +kernel
theorem dX3_meanTone_62 : decode cX3_meanTone 62 = .ok (.imul, 1) := by decide +kernel
theorem dX3_meanTone_63 : decode cX3_meanTone 63 = .ok (.iadd, 1) := by decide +kernel
theorem dX3_meanTone_64 : decode cX3_meanTone 64 = .ok (.istore_n 1, 1) := by decide +kernel
theorem dX3_meanTone_65 : decode cX3_meanTone 65 = .ok (.iload_n 2, 1) := by decide +kernel
theorem dX3_meanTone_66 : decode cX3_meanTone 66 = .ok (.aload_n 0, 1) := by decide +kernel
theorem dX3_meanTone_67 : decode cX3_meanTone 67 = .ok (.iload_n 3, 1) := by decide +kernel
theorem dX3_meanTone_68 : decode cX3_meanTone 68 = .ok (.iload 4, 2) := by decide +kernel
theorem dX3_meanTone_70 : decode cX3_meanTone 70 = .ok (.invokevirtual 85, 3) := by decide +kernel
theorem dX3_meanTone_73 : decode cX3_meanTone 73 = .ok (.iadd, 1) := by decide +kernel
theorem dX3_meanTone_74 : decode cX3_meanTone 74 = .ok (.istore_n 2, 1) := by decide +kernel
theorem dX3_meanTone_75 : decode cX3_meanTone 75 = .ok (.iinc 4 1, 3) := by decide +kernel
theorem dX3_meanTone_78 : decode cX3_meanTone 78 = .ok (.goto (-56), 3) := by decide +kernel
theorem dX3_meanTone_81 : decode cX3_meanTone 81 = .ok (.iinc 3 1, 3) := by decide +kernel
theorem dX3_meanTone_84 : decode cX3_meanTone 84 = .ok (.goto (-73), 3) := by decide +kernel
theorem dX3_meanTone_87 : decode cX3_meanTone 87 = .ok (.iload_n 2, 1) := by decide +kernel
theorem dX3_meanTone_88 : decode cX3_meanTone 88 = .ok (.ifCond .ne 7, 3) := by decide +kernel
theorem dX3_meanTone_91 : decode cX3_meanTone 91 = .ok (.dconst 0, 1) := by decide +kernel
theorem dX3_meanTone_92 : decode cX3_meanTone 92 = .ok (.goto 8, 3) := by decide +kernel
theorem dX3_meanTone_95 : decode cX3_meanTone 95 = .ok (.iload_n 1, 1) := by decide +kernel
theorem dX3_meanTone_96 : decode cX3_meanTone 96 = .ok (.i2d, 1) := by decide +kernel
theorem dX3_meanTone_97 : decode cX3_meanTone 97 = .ok (.iload_n 2, 1) := by decide +kernel
theorem dX3_meanTone_98 : decode cX3_meanTone 98 = .ok (.i2d, 1) := by decide +kernel
theorem dX3_meanTone_99 : decode cX3_meanTone 99 = .ok (.ddiv, 1) := by decide +kernel
theorem dX3_meanTone_100 : decode cX3_meanTone 100 = .ok (.dreturn, 1) := by decide +kernel
theorem dX3_digest_0 : decode cX3_digest 0 = .ok (.aload_n 0, 1) := by decide +kernel
theorem dX3_digest_1 : decode cX3_digest 1 = .ok (.iconst 0, 1) := by decide +kernel
theorem dX3_digest_2 : decode cX3_digest 2 = .ok (.putfield 37, 3) := by decide +kernel
theorem dX3_digest_5 : decode cX3_digest 5 = .ok (.ldc2_w 192, 3) := by decide +kernel
theorem dX3_digest_8 : decode cX3_digest 8 = .ok (.lstore_n 1, 1) := by decide +kernel
theorem dX3_digest_9 : decode cX3_digest 9 = .ok (.iconst 0, 1) := by decide +kernel
theorem dX3_digest_10 : decode cX3_digest 10 = .ok (.istore_n 3, 1) := by decide +kernel
theorem dX3_digest_11 : decode cX3_digest 11 = .ok (.iload_n 3, 1) := by decide +kernel
theorem dX3_digest_12 : decode cX3_digest 12 = .ok (.iconst 5, 1) := by decide +kernel
theorem dX3_digest_13 : decode cX3_digest 13 = .ok (.if_icmp .ge 22, 3) := by decide +kernel
theorem dX3_digest_16 : decode cX3_digest 16 = .ok (.lload_n 1, 1) := by decide +kernel
theorem dX3_digest_17 : decode cX3_digest 17 = .ok (.ldc2_w 194, 3) := by decide +kernel
theorem dX3_digest_20 : decode cX3_digest 20 = .ok (.lmul, 1) := by decide +kernel
theorem dX3_digest_21 : decode cX3_digest 21 = .ok (.aload_n 0, 1) := by decide +kernel
theorem dX3_digest_22 : decode cX3_digest 22 = .ok (.iload_n 3, 1) := by decide +kernel
theorem dX3_digest_23 : decode cX3_digest 23 = .ok (.invokevirtual 100, 3) := by decide +kernel
theorem dX3_digest_26 : decode cX3_digest 26 = .ok (.i2l, 1) := by decide +kernel
theorem dX3_digest_27 : decode cX3_digest 27 = .ok (.ladd, 1) := by decide +kernel
theorem dX3_digest_28 : decode cX3_digest 28 = .ok (.lstore_n 1, 1) := by decide +kernel
theorem dX3_digest_29 : decode cX3_digest 29 = .ok (.iinc 3 1, 3) := by decide +kernel
theorem dX3_digest_32 : decode cX3_digest 32 = .ok (.goto (-21), 3) := by decide +kernel
theorem dX3_digest_35 : decode cX3_digest 35 = .ok (.iconst 0, 1) := by decide +kernel
theorem dX3_digest_36 : decode cX3_digest 36 = .ok (.istore_n 3, 1) := by decide +kernel
theorem dX3_digest_37 : decode cX3_digest 37 = .ok (.iload_n 3, 1) := by decide +kernel
theorem dX3_digest_38 : decode cX3_digest 38 = .ok (.aload_n 0, 1) := by decide +kernel
theorem dX3_digest_39 : decode cX3_digest 39 = .ok (.getfield 40, 3) := by decide +kernel
theorem dX3_digest_42 : decode cX3_digest 42 = .ok (.if_icmp .ge 98, 3) := by decide +kernel
theorem dX3_digest_45 : decode cX3_digest 45 = .ok (.aload_n 0, 1) := by decide +kernel
theorem dX3_digest_46 : decode cX3_digest 46 = .ok (.iload_n 3, 1) := by decide +kernel
theorem dX3_digest_47 : decode cX3_digest 47 = .ok (.invokevirtual 145, 3) := by decide +kernel
theorem dX3_digest_50 : decode cX3_digest 50 = .ok (.iconst 0, 1) := by decide +kernel
theorem dX3_digest_51 : decode cX3_digest 51 = .ok (.istore 4, 2) := by decide +kernel
theorem dX3_digest_53 : decode cX3_digest 53 = .ok (.iload 4, 2) := by decide +kernel
theorem dX3_digest_55 : decode cX3_digest 55 = .ok (.bipush 7, 2) := by decide +kernel
theorem dX3_digest_57 : decode cX3_digest 57 = .ok (.if_icmp .ge 24, 3) := by decide +kernel
theorem dX3_digest_60 : decode cX3_digest 60 = .ok (.lload_n 1, 1) := by decide +kernel
theorem dX3_digest_61 : decode cX3_digest 61 = .ok (.ldc2_w 194, 3) := by decide +kernel
theorem dX3_digest_64 : decode cX3_digest 64 = .ok (.lmul, 1) := by decide +kernel
theorem dX3_digest_65 : decode cX3_digest 65 = .ok (.aload_n 0, 1) := by decide +kernel
theorem dX3_digest_66 : decode cX3_digest 66 = .ok (.iload_n 3, 1) := by decide +kernel
theorem dX3_digest_67 : decode cX3_digest 67 = .ok (.iload 4, 2) := by decide +kernel
theorem dX3_digest_69 : decode cX3_digest 69 = .ok (.invokevirtual 151, 3) := by decide +kernel
theorem dX3_digest_72 : decode cX3_digest 72 = .ok (.i2l, 1) := by decide +kernel
theorem dX3_digest_73 : decode cX3_digest 73 = .ok (.ladd, 1) := by decide +kernel
theorem dX3_digest_74 : decode cX3_digest 74 = .ok (.lstore_n 1, 1) := by decide +kernel
theorem dX3_digest_75 : decode cX3_digest 75 = .ok (.iinc 4 1, 3) := by decide +kernel
theorem dX3_digest_78 : decode cX3_digest 78 = .ok (.goto (-25), 3) := by decide +kernel
theorem dX3_digest_81 : decode cX3_digest 81 = .ok (.iconst 0, 1) := by decide +kernel
theorem dX3_digest_82 : decode cX3_digest 82 = .ok (.istore 4, 2) := by decide +kernel
theorem dX3_digest_84 : decode cX3_digest 84 = .ok (.iload 4, 2) := by decide +kernel
theorem dX3_digest_86 : decode cX3_digest 86 = .ok (.aload_n 0, 1) := by decide +kernel
theorem dX3_digest_87 : decode cX3_digest 87 = .ok (.getfield 16, 3) := by decide +kernel
theorem dX3_digest_90 : decode cX3_digest 90 = .ok (.iload_n 3, 1) := by decide +kernel
theorem dX3_digest_91 : decode cX3_digest 91 = .ok (.iaload, 1) := by decide +kernel
theorem dX3_digest_92 : decode cX3_digest 92 = .ok (.if_icmp .ge 42, 3) := by decide +kernel
theorem dX3_digest_95 : decode cX3_digest 95 = .ok (.iconst 0, 1) := by decide +kernel
theorem dX3_digest_96 : decode cX3_digest 96 = .ok (.istore 5, 2) := by decide +kernel
theorem dX3_digest_98 : decode cX3_digest 98 = .ok (.iload 5, 2) := by decide +kernel
theorem dX3_digest_100 : decode cX3_digest 100 = .ok (.bipush 9, 2) := by decide +kernel
theorem dX3_digest_102 : decode cX3_digest 102 = .ok (.if_icmp .ge 26, 3) := by decide +kernel
theorem dX3_digest_105 : decode cX3_digest 105 = .ok (.lload_n 1, 1) := by decide +kernel
theorem dX3_digest_106 : decode cX3_digest 106 = .ok (.ldc2_w 194, 3) := by decide +kernel
theorem dX3_digest_109 : decode cX3_digest 109 = .ok (.lmul, 1) := by decide +kernel
theorem dX3_digest_110 : decode cX3_digest 110 = .ok (.aload_n 0, 1) := by decide +kernel
theorem dX3_digest_111 : decode cX3_digest 111 = .ok (.iload_n 3, 1) := by decide +kernel
theorem dX3_digest_112 : decode cX3_digest 112 = .ok (.iload 4, 2) := by decide +kernel
theorem dX3_digest_114 : decode cX3_digest 114 = .ok (.iload 5, 2) := by decide +kernel
theorem dX3_digest_116 : decode cX3_digest 116 = .ok (.invokevirtual 148, 3) := by decide +kernel
theorem dX3_digest_119 : decode cX3_digest 119 = .ok (.i2l, 1) := by decide +kernel
theorem dX3_digest_120 : decode cX3_digest 120 = .ok (.ladd, 1) := by decide +kernel
theorem dX3_digest_121 : decode cX3_digest 121 = .ok (.lstore_n 1, 1) := by decide +kernel
theorem dX3_digest_122 : decode cX3_digest 122 = .ok (.iinc 5 1, 3) := by decide +kernel
theorem dX3_digest_125 : decode cX3_digest 125 = .ok (.goto (-27), 3) := by decide +kernel
theorem dX3_digest_128 : decode cX3_digest 128 = .ok (.iinc 4 1, 3) := by decide +kernel
theorem dX3_digest_131 : decode cX3_digest 131 = .ok (.goto (-47), 3) := by decide +kernel
theorem dX3_digest_134 : decode cX3_digest 134 = .ok (.iinc 3 1, 3) := by decide +kernel
theorem dX3_digest_137 : decode cX3_digest 137 = .ok (.goto (-100), 3) := by decide +kernel
theorem dX3_digest_140 : decode cX3_digest 140 = .ok (.aload_n 0, 1) := by decide +kernel
theorem dX3_digest_141 : decode cX3_digest 141 = .ok (.invokevirtual 186, 3) := by decide +kernel
theorem dX3_digest_144 : decode cX3_digest 144 = .ok (.lload_n 1, 1) := by decide +kernel
theorem dX3_digest_145 : decode cX3_digest 145 = .ok (.ldc2_w 194, 3) := by decide +kernel
theorem dX3_digest_148 : decode cX3_digest 148 = .ok (.lmul, 1) := by decide +kernel
theorem dX3_digest_149 : decode cX3_digest 149 = .ok (.aload_n 0, 1) := by decide +kernel
theorem dX3_digest_150 : decode cX3_digest 150 = .ok (.invokevirtual 169, 3) := by decide +kernel
theorem dX3_digest_153 : decode cX3_digest 153 = .ok (.i2l, 1) := by decide +kernel
theorem dX3_digest_154 : decode cX3_digest 154 = .ok (.ladd, 1) := by decide +kernel
theorem dX3_digest_155 : decode cX3_digest 155 = .ok (.ldc2_w 194, 3) := by decide +kernel
theorem dX3_digest_158 : decode cX3_digest 158 = .ok (.lmul, 1) := by decide +kernel
theorem dX3_digest_159 : decode cX3_digest 159 = .ok (.aload_n 0, 1) := by decide +kernel
theorem dX3_digest_160 : decode cX3_digest 160 = .ok (.getfield 175, 3) := by decide +kernel
theorem dX3_digest_163 : decode cX3_digest 163 = .ok (.i2l, 1) := by decide +kernel
theorem dX3_digest_164 : decode cX3_digest 164 = .ok (.ladd, 1) := by decide +kernel
theorem dX3_digest_165 : decode cX3_digest 165 = .ok (.lstore_n 1, 1) := by decide +kernel
theorem dX3_digest_166 : decode cX3_digest 166 = .ok (.iconst 0, 1) := by decide +kernel
theorem dX3_digest_167 : decode cX3_digest 167 = .ok (.istore_n 3, 1) := by decide +kernel
theorem dX3_digest_168 : decode cX3_digest 168 = .ok (.iload_n 3, 1) := by decide +kernel
theorem dX3_digest_169 : decode cX3_digest 169 = .ok (.iconst 4, 1) := by decide +kernel
theorem dX3_digest_170 : decode cX3_digest 170 = .ok (.aload_n 0, 1) := by decide +kernel
theorem dX3_digest_171 : decode cX3_digest 171 = .ok (.getfield 175, 3) := by decide +kernel
theorem dX3_digest_174 : decode cX3_digest 174 = .ok (.imul, 1) := by decide +kernel
theorem dX3_digest_175 : decode cX3_digest 175 = .ok (.if_icmp .ge 23, 3) := by decide +kernel
theorem dX3_digest_178 : decode cX3_digest 178 = .ok (.lload_n 1, 1) := by decide +kernel
theorem dX3_digest_179 : decode cX3_digest 179 = .ok (.ldc2_w 194, 3) := by decide +kernel
theorem dX3_digest_182 : decode cX3_digest 182 = .ok (.lmul, 1) := by decide +kernel
theorem dX3_digest_183 : decode cX3_digest 183 = .ok (.aload_n 0, 1) := by decide +kernel
theorem dX3_digest_184 : decode cX3_digest 184 = .ok (.getfield 34, 3) := by decide +kernel
theorem dX3_digest_187 : decode cX3_digest 187 = .ok (.iload_n 3, 1) := by decide +kernel
theorem dX3_digest_188 : decode cX3_digest 188 = .ok (.iaload, 1) := by decide +kernel
theorem dX3_digest_189 : decode cX3_digest 189 = .ok (.i2l, 1) := by decide +kernel
theorem dX3_digest_190 : decode cX3_digest 190 = .ok (.ladd, 1) := by decide +kernel
theorem dX3_digest_191 : decode cX3_digest 191 = .ok (.lstore_n 1, 1) := by decide +kernel
theorem dX3_digest_192 : decode cX3_digest 192 = .ok (.iinc 3 1, 3) := by decide +kernel
theorem dX3_digest_195 : decode cX3_digest 195 = .ok (.goto (-27), 3) := by decide +kernel
theorem dX3_digest_198 : decode cX3_digest 198 = .ok (.lload_n 1, 1) := by decide +kernel
theorem dX3_digest_199 : decode cX3_digest 199 = .ok (.lreturn, 1) := by decide +kernel
theorem dJ9_floorDiv_7cf53_0 : decode cJ9_floorDiv_7cf53 0 = .ok (.iload_n 0, 1) := by decide +kernel
theorem dJ9_floorDiv_7cf53_1 : decode cJ9_floorDiv_7cf53 1 = .ok (.iload_n 1, 1) := by decide +kernel
theorem dJ9_floorDiv_7cf53_2 : decode cJ9_floorDiv_7cf53 2 = .ok (.idiv, 1) := by decide +kernel
theorem dJ9_floorDiv_7cf53_3 : decode cJ9_floorDiv_7cf53 3 = .ok (.istore_n 2, 1) := by decide +kernel
theorem dJ9_floorDiv_7cf53_4 : decode cJ9_floorDiv_7cf53 4 = .ok (.iload_n 0, 1) := by decide +kernel
theorem dJ9_floorDiv_7cf53_5 : decode cJ9_floorDiv_7cf53 5 = .ok (.iload_n 1, 1) := by decide +kernel
theorem dJ9_floorDiv_7cf53_6 : decode cJ9_floorDiv_7cf53 6 = .ok (.ixor, 1) := by decide +kernel
theorem dJ9_floorDiv_7cf53_7 : decode cJ9_floorDiv_7cf53 7 = .ok (.ifCond .ge 14, 3) := by decide +kernel
theorem dJ9_floorDiv_7cf53_10 : decode cJ9_floorDiv_7cf53 10 = .ok (.iload_n 2, 1) := by decide +kernel
theorem dJ9_floorDiv_7cf53_11 : decode cJ9_floorDiv_7cf53 11 = .ok (.iload_n 1, 1) := by decide +kernel
theorem dJ9_floorDiv_7cf53_12 : decode cJ9_floorDiv_7cf53 12 = .ok (.imul, 1) := by decide +kernel
theorem dJ9_floorDiv_7cf53_13 : decode cJ9_floorDiv_7cf53 13 = .ok (.iload_n 0, 1) := by decide +kernel
theorem dJ9_floorDiv_7cf53_14 : decode cJ9_floorDiv_7cf53 14 = .ok (.if_icmp .eq 7, 3) := by decide +kernel
theorem dJ9_floorDiv_7cf53_17 : decode cJ9_floorDiv_7cf53 17 = .ok (.iload_n 2, 1) := by decide +kernel
theorem dJ9_floorDiv_7cf53_18 : decode cJ9_floorDiv_7cf53 18 = .ok (.iconst 1, 1) := by decide +kernel
theorem dJ9_floorDiv_7cf53_19 : decode cJ9_floorDiv_7cf53 19 = .ok (.isub, 1) := by decide +kernel
theorem dJ9_floorDiv_7cf53_20 : decode cJ9_floorDiv_7cf53 20 = .ok (.ireturn, 1) := by decide +kernel
theorem dJ9_floorDiv_7cf53_21 : decode cJ9_floorDiv_7cf53 21 = .ok (.iload_n 2, 1) := by decide +kernel
theorem dJ9_floorDiv_7cf53_22 : decode cJ9_floorDiv_7cf53 22 = .ok (.ireturn, 1) := by decide +kernel
theorem dJ9_floorMod_7cf53_0 : decode cJ9_floorMod_7cf53 0 = .ok (.iload_n 0, 1) := by decide +kernel
theorem dJ9_floorMod_7cf53_1 : decode cJ9_floorMod_7cf53 1 = .ok (.iload_n 1, 1) := by decide +kernel
theorem dJ9_floorMod_7cf53_2 : decode cJ9_floorMod_7cf53 2 = .ok (.irem, 1) := by decide +kernel
theorem dJ9_floorMod_7cf53_3 : decode cJ9_floorMod_7cf53 3 = .ok (.istore_n 2, 1) := by decide +kernel
theorem dJ9_floorMod_7cf53_4 : decode cJ9_floorMod_7cf53 4 = .ok (.iload_n 0, 1) := by decide +kernel
theorem dJ9_floorMod_7cf53_5 : decode cJ9_floorMod_7cf53 5 = .ok (.iload_n 1, 1) := by decide +kernel
theorem dJ9_floorMod_7cf53_6 : decode cJ9_floorMod_7cf53 6 = .ok (.ixor, 1) := by decide +kernel
theorem dJ9_floorMod_7cf53_7 : decode cJ9_floorMod_7cf53 7 = .ok (.ifCond .ge 11, 3) := by decide +kernel
theorem dJ9_floorMod_7cf53_10 : decode cJ9_floorMod_7cf53 10 = .ok (.iload_n 2, 1) := by decide +kernel
theorem dJ9_floorMod_7cf53_11 : decode cJ9_floorMod_7cf53 11 = .ok (.ifCond .eq 7, 3) := by decide +kernel
theorem dJ9_floorMod_7cf53_14 : decode cJ9_floorMod_7cf53 14 = .ok (.iload_n 2, 1) := by decide +kernel
theorem dJ9_floorMod_7cf53_15 : decode cJ9_floorMod_7cf53 15 = .ok (.iload_n 1, 1) := by decide +kernel
theorem dJ9_floorMod_7cf53_16 : decode cJ9_floorMod_7cf53 16 = .ok (.iadd, 1) := by decide +kernel
theorem dJ9_floorMod_7cf53_17 : decode cJ9_floorMod_7cf53 17 = .ok (.ireturn, 1) := by decide +kernel
theorem dJ9_floorMod_7cf53_18 : decode cJ9_floorMod_7cf53 18 = .ok (.iload_n 2, 1) := by decide +kernel
theorem dJ9_floorMod_7cf53_19 : decode cJ9_floorMod_7cf53 19 = .ok (.ireturn, 1) := by decide +kernel
theorem dJ9_max_7cf53_0 : decode cJ9_max_7cf53 0 = .ok (.iload_n 0, 1) := by decide +kernel
theorem dJ9_max_7cf53_1 : decode cJ9_max_7cf53 1 = .ok (.iload_n 1, 1) := by decide +kernel
theorem dJ9_max_7cf53_2 : decode cJ9_max_7cf53 2 = .ok (.if_icmp .lt 7, 3) := by decide +kernel
theorem dJ9_max_7cf53_5 : decode cJ9_max_7cf53 5 = .ok (.iload_n 0, 1) := by decide +kernel
theorem dJ9_max_7cf53_6 : decode cJ9_max_7cf53 6 = .ok (.goto 4, 3) := by decide +kernel
theorem dJ9_max_7cf53_9 : decode cJ9_max_7cf53 9 = .ok (.iload_n 1, 1) := by decide +kernel
theorem dJ9_max_7cf53_10 : decode cJ9_max_7cf53 10 = .ok (.ireturn, 1) := by decide +kernel
theorem dJ9_min_7cf53_0 : decode cJ9_min_7cf53 0 = .ok (.iload_n 0, 1) := by decide +kernel
theorem dJ9_min_7cf53_1 : decode cJ9_min_7cf53 1 = .ok (.iload_n 1, 1) := by decide +kernel
theorem dJ9_min_7cf53_2 : decode cJ9_min_7cf53 2 = .ok (.if_icmp .gt 7, 3) := by decide +kernel
theorem dJ9_min_7cf53_5 : decode cJ9_min_7cf53 5 = .ok (.iload_n 0, 1) := by decide +kernel
theorem dJ9_min_7cf53_6 : decode cJ9_min_7cf53 6 = .ok (.goto 4, 3) := by decide +kernel
theorem dJ9_min_7cf53_9 : decode cJ9_min_7cf53 9 = .ok (.iload_n 1, 1) := by decide +kernel
theorem dJ9_min_7cf53_10 : decode cJ9_min_7cf53 10 = .ok (.ireturn, 1) := by decide +kernel
theorem dL_setBars_0 : decode cL_setBars 0 = .ok (.aload_n 3, 1) := by decide +kernel
theorem dL_setBars_1 : decode cL_setBars 1 = .ok (.iconst 0, 1) := by decide +kernel
theorem dL_setBars_2 : decode cL_setBars 2 = .ok (.aload_n 0, 1) := by decide +kernel
theorem dL_setBars_3 : decode cL_setBars 3 = .ok (.iload_n 1, 1) := by decide +kernel
theorem dL_setBars_4 : decode cL_setBars 4 = .ok (.iload_n 2, 1) := by decide +kernel
theorem dL_setBars_5 : decode cL_setBars 5 = .ok (.invokevirtual 7, 3) := by decide +kernel
theorem dL_setBars_8 : decode cL_setBars 8 = .ok (.i2l, 1) := by decide +kernel
theorem dL_setBars_9 : decode cL_setBars 9 = .ok (.lastore, 1) := by decide +kernel
theorem dL_setBars_10 : decode cL_setBars 10 = .ok (.goto 11, 3) := by decide +kernel
theorem dL_setBars_13 : decode cL_setBars 13 = .ok (.astore 4, 2) := by decide +kernel
theorem dL_setBars_15 : decode cL_setBars 15 = .ok (.iconst 1, 1) := by decide +kernel
theorem dL_setBars_16 : decode cL_setBars 16 = .ok (.ireturn, 1) := by decide +kernel
theorem dL_setBars_17 : decode cL_setBars 17 = .ok (.astore 4, 2) := by decide +kernel
theorem dL_setBars_19 : decode cL_setBars 19 = .ok (.iconst 2, 1) := by decide +kernel
theorem dL_setBars_20 : decode cL_setBars 20 = .ok (.ireturn, 1) := by decide +kernel
theorem dL_setBars_21 : decode cL_setBars 21 = .ok (.iconst 0, 1) := by decide +kernel
theorem dL_setBars_22 : decode cL_setBars 22 = .ok (.ireturn, 1) := by decide +kernel
theorem dL_setKey_0 : decode cL_setKey 0 = .ok (.aload_n 2, 1) := by decide +kernel
theorem dL_setKey_1 : decode cL_setKey 1 = .ok (.iconst 0, 1) := by decide +kernel
theorem dL_setKey_2 : decode cL_setKey 2 = .ok (.aload_n 0, 1) := by decide +kernel
theorem dL_setKey_3 : decode cL_setKey 3 = .ok (.iload_n 1, 1) := by decide +kernel
theorem dL_setKey_4 : decode cL_setKey 4 = .ok (.invokevirtual 17, 3) := by decide +kernel
theorem dL_setKey_7 : decode cL_setKey 7 = .ok (.i2l, 1) := by decide +kernel
theorem dL_setKey_8 : decode cL_setKey 8 = .ok (.lastore, 1) := by decide +kernel
theorem dL_setKey_9 : decode cL_setKey 9 = .ok (.goto 6, 3) := by decide +kernel
theorem dL_setKey_12 : decode cL_setKey 12 = .ok (.astore_n 3, 1) := by decide +kernel
theorem dL_setKey_13 : decode cL_setKey 13 = .ok (.iconst 1, 1) := by decide +kernel
theorem dL_setKey_14 : decode cL_setKey 14 = .ok (.ireturn, 1) := by decide +kernel
theorem dL_setKey_15 : decode cL_setKey 15 = .ok (.iconst 0, 1) := by decide +kernel
theorem dL_setKey_16 : decode cL_setKey 16 = .ok (.ireturn, 1) := by decide +kernel
theorem dL_addVoice_0 : decode cL_addVoice 0 = .ok (.aload_n 1, 1) := by decide +kernel
theorem dL_addVoice_1 : decode cL_addVoice 1 = .ok (.iconst 0, 1) := by decide +kernel
theorem dL_addVoice_2 : decode cL_addVoice 2 = .ok (.aload_n 0, 1) := by decide +kernel
theorem dL_addVoice_3 : decode cL_addVoice 3 = .ok (.invokevirtual 21, 3) := by decide +kernel
theorem dL_addVoice_6 : decode cL_addVoice 6 = .ok (.i2l, 1) := by decide +kernel
theorem dL_addVoice_7 : decode cL_addVoice 7 = .ok (.lastore, 1) := by decide +kernel
theorem dL_addVoice_8 : decode cL_addVoice 8 = .ok (.goto 6, 3) := by decide +kernel
theorem dL_addVoice_11 : decode cL_addVoice 11 = .ok (.astore_n 2, 1) := by decide +kernel
theorem dL_addVoice_12 : decode cL_addVoice 12 = .ok (.iconst 1, 1) := by decide +kernel
theorem dL_addVoice_13 : decode cL_addVoice 13 = .ok (.ireturn, 1) := by decide +kernel
theorem dL_addVoice_14 : decode cL_addVoice 14 = .ok (.iconst 0, 1) := by decide +kernel
theorem dL_addVoice_15 : decode cL_addVoice 15 = .ok (.ireturn, 1) := by decide +kernel
theorem dL_score_0 : decode cL_score 0 = .ok (.aload_n 2, 1) := by decide +kernel
theorem dL_score_1 : decode cL_score 1 = .ok (.iconst 0, 1) := by decide +kernel
theorem dL_score_2 : decode cL_score 2 = .ok (.aload_n 0, 1) := by decide +kernel
theorem dL_score_3 : decode cL_score 3 = .ok (.iload_n 1, 1) := by decide +kernel
theorem dL_score_4 : decode cL_score 4 = .ok (.invokevirtual 25, 3) := by decide +kernel
theorem dL_score_7 : decode cL_score 7 = .ok (.i2l, 1) := by decide +kernel
theorem dL_score_8 : decode cL_score 8 = .ok (.lastore, 1) := by decide +kernel
theorem dL_score_9 : decode cL_score 9 = .ok (.goto 6, 3) := by decide +kernel
theorem dL_score_12 : decode cL_score 12 = .ok (.astore_n 3, 1) := by decide +kernel
theorem dL_score_13 : decode cL_score 13 = .ok (.iconst 1, 1) := by decide +kernel
theorem dL_score_14 : decode cL_score 14 = .ok (.ireturn, 1) := by decide +kernel
theorem dL_score_15 : decode cL_score 15 = .ok (.iconst 0, 1) := by decide +kernel
theorem dL_score_16 : decode cL_score 16 = .ok (.ireturn, 1) := by decide +kernel
theorem dL_sign_0 : decode cL_sign 0 = .ok (.aload_n 2, 1) := by decide +kernel
theorem dL_sign_1 : decode cL_sign 1 = .ok (.iconst 0, 1) := by decide +kernel
theorem dL_sign_2 : decode cL_sign 2 = .ok (.aload_n 0, 1) := by decide +kernel
theorem dL_sign_3 : decode cL_sign 3 = .ok (.iload_n 1, 1) := by decide +kernel
theorem dL_sign_4 : decode cL_sign 4 = .ok (.invokevirtual 30, 3) := by decide +kernel
theorem dL_sign_7 : decode cL_sign 7 = .ok (.i2l, 1) := by decide +kernel
theorem dL_sign_8 : decode cL_sign 8 = .ok (.lastore, 1) := by decide +kernel
theorem dL_sign_9 : decode cL_sign 9 = .ok (.goto 6, 3) := by decide +kernel
theorem dL_sign_12 : decode cL_sign 12 = .ok (.astore_n 3, 1) := by decide +kernel
theorem dL_sign_13 : decode cL_sign 13 = .ok (.iconst 1, 1) := by decide +kernel
theorem dL_sign_14 : decode cL_sign 14 = .ok (.ireturn, 1) := by decide +kernel
theorem dL_sign_15 : decode cL_sign 15 = .ok (.iconst 0, 1) := by decide +kernel
theorem dL_sign_16 : decode cL_sign 16 = .ok (.ireturn, 1) := by decide +kernel
theorem dL_ticks_0 : decode cL_ticks 0 = .ok (.aload_n 3, 1) := by decide +kernel
theorem dL_ticks_1 : decode cL_ticks 1 = .ok (.iconst 0, 1) := by decide +kernel
theorem dL_ticks_2 : decode cL_ticks 2 = .ok (.aload_n 0, 1) := by decide +kernel
theorem dL_ticks_3 : decode cL_ticks 3 = .ok (.iload_n 1, 1) := by decide +kernel
theorem dL_ticks_4 : decode cL_ticks 4 = .ok (.iload_n 2, 1) := by decide +kernel
theorem dL_ticks_5 : decode cL_ticks 5 = .ok (.invokevirtual 33, 3) := by decide +kernel
theorem dL_ticks_8 : decode cL_ticks 8 = .ok (.i2l, 1) := by decide +kernel
theorem dL_ticks_9 : decode cL_ticks 9 = .ok (.lastore, 1) := by decide +kernel
theorem dL_ticks_10 : decode cL_ticks 10 = .ok (.goto 7, 3) := by decide +kernel
theorem dL_ticks_13 : decode cL_ticks 13 = .ok (.astore 4, 2) := by decide +kernel
theorem dL_ticks_15 : decode cL_ticks 15 = .ok (.iconst 1, 1) := by decide +kernel
theorem dL_ticks_16 : decode cL_ticks 16 = .ok (.ireturn, 1) := by decide +kernel
theorem dL_ticks_17 : decode cL_ticks 17 = .ok (.iconst 0, 1) := by decide +kernel
theorem dL_ticks_18 : decode cL_ticks 18 = .ok (.ireturn, 1) := by decide +kernel
theorem dL_addNote_0 : decode cL_addNote 0 = .ok (.aload 8, 2) := by decide +kernel
theorem dL_addNote_2 : decode cL_addNote 2 = .ok (.iconst 0, 1) := by decide +kernel
theorem dL_addNote_3 : decode cL_addNote 3 = .ok (.aload_n 0, 1) := by decide +kernel
theorem dL_addNote_4 : decode cL_addNote 4 = .ok (.iload_n 1, 1) := by decide +kernel
theorem dL_addNote_5 : decode cL_addNote 5 = .ok (.iload_n 2, 1) := by decide +kernel
theorem dL_addNote_6 : decode cL_addNote 6 = .ok (.iload_n 3, 1) := by decide +kernel
theorem dL_addNote_7 : decode cL_addNote 7 = .ok (.iload 4, 2) := by decide +kernel
theorem dL_addNote_9 : decode cL_addNote 9 = .ok (.iload 5, 2) := by decide +kernel
theorem dL_addNote_11 : decode cL_addNote 11 = .ok (.iload 6, 2) := by decide +kernel
theorem dL_addNote_13 : decode cL_addNote 13 = .ok (.iload 7, 2) := by decide +kernel
theorem dL_addNote_15 : decode cL_addNote 15 = .ok (.invokevirtual 36, 3) := by decide +kernel
theorem dL_addNote_18 : decode cL_addNote 18 = .ok (.i2l, 1) := by decide +kernel
theorem dL_addNote_19 : decode cL_addNote 19 = .ok (.lastore, 1) := by decide +kernel
theorem dL_addNote_20 : decode cL_addNote 20 = .ok (.goto 15, 3) := by decide +kernel
theorem dL_addNote_23 : decode cL_addNote 23 = .ok (.astore 9, 2) := by decide +kernel
theorem dL_addNote_25 : decode cL_addNote 25 = .ok (.iconst 1, 1) := by decide +kernel
theorem dL_addNote_26 : decode cL_addNote 26 = .ok (.ireturn, 1) := by decide +kernel
theorem dL_addNote_27 : decode cL_addNote 27 = .ok (.astore 9, 2) := by decide +kernel
theorem dL_addNote_29 : decode cL_addNote 29 = .ok (.iconst 2, 1) := by decide +kernel
theorem dL_addNote_30 : decode cL_addNote 30 = .ok (.ireturn, 1) := by decide +kernel
theorem dL_addNote_31 : decode cL_addNote 31 = .ok (.astore 9, 2) := by decide +kernel
theorem dL_addNote_33 : decode cL_addNote 33 = .ok (.iconst 3, 1) := by decide +kernel
theorem dL_addNote_34 : decode cL_addNote 34 = .ok (.ireturn, 1) := by decide +kernel
theorem dL_addNote_35 : decode cL_addNote 35 = .ok (.iconst 0, 1) := by decide +kernel
theorem dL_addNote_36 : decode cL_addNote 36 = .ok (.ireturn, 1) := by decide +kernel
theorem dL_addRest_0 : decode cL_addRest 0 = .ok (.aload 4, 2) := by decide +kernel
theorem dL_addRest_2 : decode cL_addRest 2 = .ok (.iconst 0, 1) := by decide +kernel
theorem dL_addRest_3 : decode cL_addRest 3 = .ok (.aload_n 0, 1) := by decide +kernel
theorem dL_addRest_4 : decode cL_addRest 4 = .ok (.iload_n 1, 1) := by decide +kernel
theorem dL_addRest_5 : decode cL_addRest 5 = .ok (.iload_n 2, 1) := by decide +kernel
theorem dL_addRest_6 : decode cL_addRest 6 = .ok (.iload_n 3, 1) := by decide +kernel
theorem dL_addRest_7 : decode cL_addRest 7 = .ok (.invokevirtual 40, 3) := by decide +kernel
theorem dL_addRest_10 : decode cL_addRest 10 = .ok (.i2l, 1) := by decide +kernel
theorem dL_addRest_11 : decode cL_addRest 11 = .ok (.lastore, 1) := by decide +kernel
theorem dL_addRest_12 : decode cL_addRest 12 = .ok (.goto 15, 3) := by decide +kernel
theorem dL_addRest_15 : decode cL_addRest 15 = .ok (.astore 5, 2) := by decide +kernel
theorem dL_addRest_17 : decode cL_addRest 17 = .ok (.iconst 1, 1) := by decide +kernel
theorem dL_addRest_18 : decode cL_addRest 18 = .ok (.ireturn, 1) := by decide +kernel
theorem dL_addRest_19 : decode cL_addRest 19 = .ok (.astore 5, 2) := by decide +kernel
theorem dL_addRest_21 : decode cL_addRest 21 = .ok (.iconst 2, 1) := by decide +kernel
theorem dL_addRest_22 : decode cL_addRest 22 = .ok (.ireturn, 1) := by decide +kernel
theorem dL_addRest_23 : decode cL_addRest 23 = .ok (.astore 5, 2) := by decide +kernel
theorem dL_addRest_25 : decode cL_addRest 25 = .ok (.iconst 3, 1) := by decide +kernel
theorem dL_addRest_26 : decode cL_addRest 26 = .ok (.ireturn, 1) := by decide +kernel
theorem dL_addRest_27 : decode cL_addRest 27 = .ok (.iconst 0, 1) := by decide +kernel
theorem dL_addRest_28 : decode cL_addRest 28 = .ok (.ireturn, 1) := by decide +kernel
theorem dL_removeLast_0 : decode cL_removeLast 0 = .ok (.aload_n 2, 1) := by decide +kernel
theorem dL_removeLast_1 : decode cL_removeLast 1 = .ok (.iconst 0, 1) := by decide +kernel
theorem dL_removeLast_2 : decode cL_removeLast 2 = .ok (.aload_n 0, 1) := by decide +kernel
theorem dL_removeLast_3 : decode cL_removeLast 3 = .ok (.iload_n 1, 1) := by decide +kernel
theorem dL_removeLast_4 : decode cL_removeLast 4 = .ok (.invokevirtual 44, 3) := by decide +kernel
theorem dL_removeLast_7 : decode cL_removeLast 7 = .ok (.i2l, 1) := by decide +kernel
theorem dL_removeLast_8 : decode cL_removeLast 8 = .ok (.lastore, 1) := by decide +kernel
theorem dL_removeLast_9 : decode cL_removeLast 9 = .ok (.goto 9, 3) := by decide +kernel
theorem dL_removeLast_12 : decode cL_removeLast 12 = .ok (.astore_n 3, 1) := by decide +kernel
theorem dL_removeLast_13 : decode cL_removeLast 13 = .ok (.iconst 1, 1) := by decide +kernel
theorem dL_removeLast_14 : decode cL_removeLast 14 = .ok (.ireturn, 1) := by decide +kernel
theorem dL_removeLast_15 : decode cL_removeLast 15 = .ok (.astore_n 3, 1) := by decide +kernel
theorem dL_removeLast_16 : decode cL_removeLast 16 = .ok (.iconst 2, 1) := by decide +kernel
theorem dL_removeLast_17 : decode cL_removeLast 17 = .ok (.ireturn, 1) := by decide +kernel
theorem dL_removeLast_18 : decode cL_removeLast 18 = .ok (.iconst 0, 1) := by decide +kernel
theorem dL_removeLast_19 : decode cL_removeLast 19 = .ok (.ireturn, 1) := by decide +kernel
theorem dL_tie_0 : decode cL_tie 0 = .ok (.aload 4, 2) := by decide +kernel
theorem dL_tie_2 : decode cL_tie 2 = .ok (.iconst 0, 1) := by decide +kernel
theorem dL_tie_3 : decode cL_tie 3 = .ok (.aload_n 0, 1) := by decide +kernel
theorem dL_tie_4 : decode cL_tie 4 = .ok (.iload_n 1, 1) := by decide +kernel
theorem dL_tie_5 : decode cL_tie 5 = .ok (.iload_n 2, 1) := by decide +kernel
theorem dL_tie_6 : decode cL_tie 6 = .ok (.iload_n 3, 1) := by decide +kernel
theorem dL_tie_7 : decode cL_tie 7 = .ok (.invokevirtual 47, 3) := by decide +kernel
theorem dL_tie_10 : decode cL_tie 10 = .ok (.ifCond .eq 7, 3) := by decide +kernel
theorem dL_tie_13 : decode cL_tie 13 = .ok (.lconst 1, 1) := by decide +kernel
theorem dL_tie_14 : decode cL_tie 14 = .ok (.goto 4, 3) := by decide +kernel
theorem dL_tie_17 : decode cL_tie 17 = .ok (.lconst 0, 1) := by decide +kernel
theorem dL_tie_18 : decode cL_tie 18 = .ok (.lastore, 1) := by decide +kernel
theorem dL_tie_19 : decode cL_tie 19 = .ok (.goto 11, 3) := by decide +kernel
theorem dL_tie_22 : decode cL_tie 22 = .ok (.astore 5, 2) := by decide +kernel
theorem dL_tie_24 : decode cL_tie 24 = .ok (.iconst 1, 1) := by decide +kernel
theorem dL_tie_25 : decode cL_tie 25 = .ok (.ireturn, 1) := by decide +kernel
theorem dL_tie_26 : decode cL_tie 26 = .ok (.astore 5, 2) := by decide +kernel
theorem dL_tie_28 : decode cL_tie 28 = .ok (.iconst 2, 1) := by decide +kernel
theorem dL_tie_29 : decode cL_tie 29 = .ok (.ireturn, 1) := by decide +kernel
theorem dL_tie_30 : decode cL_tie 30 = .ok (.iconst 0, 1) := by decide +kernel
theorem dL_tie_31 : decode cL_tie 31 = .ok (.ireturn, 1) := by decide +kernel
theorem dL_element_0 : decode cL_element 0 = .ok (.aload 4, 2) := by decide +kernel
theorem dL_element_2 : decode cL_element 2 = .ok (.iconst 0, 1) := by decide +kernel
theorem dL_element_3 : decode cL_element 3 = .ok (.aload_n 0, 1) := by decide +kernel
theorem dL_element_4 : decode cL_element 4 = .ok (.iload_n 1, 1) := by decide +kernel
theorem dL_element_5 : decode cL_element 5 = .ok (.iload_n 2, 1) := by decide +kernel
theorem dL_element_6 : decode cL_element 6 = .ok (.iload_n 3, 1) := by decide +kernel
theorem dL_element_7 : decode cL_element 7 = .ok (.invokevirtual 51, 3) := by decide +kernel
theorem dL_element_10 : decode cL_element 10 = .ok (.i2l, 1) := by decide +kernel
theorem dL_element_11 : decode cL_element 11 = .ok (.lastore, 1) := by decide +kernel
theorem dL_element_12 : decode cL_element 12 = .ok (.goto 7, 3) := by decide +kernel
theorem dL_element_15 : decode cL_element 15 = .ok (.astore 5, 2) := by decide +kernel
theorem dL_element_17 : decode cL_element 17 = .ok (.iconst 1, 1) := by decide +kernel
theorem dL_element_18 : decode cL_element 18 = .ok (.ireturn, 1) := by decide +kernel
theorem dL_element_19 : decode cL_element 19 = .ok (.iconst 0, 1) := by decide +kernel
theorem dL_element_20 : decode cL_element 20 = .ok (.ireturn, 1) := by decide +kernel
theorem dL_pitch_0 : decode cL_pitch 0 = .ok (.aload 4, 2) := by decide +kernel
theorem dL_pitch_2 : decode cL_pitch 2 = .ok (.iconst 0, 1) := by decide +kernel
theorem dL_pitch_3 : decode cL_pitch 3 = .ok (.aload_n 0, 1) := by decide +kernel
theorem dL_pitch_4 : decode cL_pitch 4 = .ok (.iload_n 1, 1) := by decide +kernel
theorem dL_pitch_5 : decode cL_pitch 5 = .ok (.iload_n 2, 1) := by decide +kernel
theorem dL_pitch_6 : decode cL_pitch 6 = .ok (.iload_n 3, 1) := by decide +kernel
theorem dL_pitch_7 : decode cL_pitch 7 = .ok (.invokevirtual 54, 3) := by decide +kernel
theorem dL_pitch_10 : decode cL_pitch 10 = .ok (.i2l, 1) := by decide +kernel
theorem dL_pitch_11 : decode cL_pitch 11 = .ok (.lastore, 1) := by decide +kernel
theorem dL_pitch_12 : decode cL_pitch 12 = .ok (.goto 11, 3) := by decide +kernel
theorem dL_pitch_15 : decode cL_pitch 15 = .ok (.astore 5, 2) := by decide +kernel
theorem dL_pitch_17 : decode cL_pitch 17 = .ok (.iconst 1, 1) := by decide +kernel
theorem dL_pitch_18 : decode cL_pitch 18 = .ok (.ireturn, 1) := by decide +kernel
theorem dL_pitch_19 : decode cL_pitch 19 = .ok (.astore 5, 2) := by decide +kernel
theorem dL_pitch_21 : decode cL_pitch 21 = .ok (.iconst 2, 1) := by decide +kernel
theorem dL_pitch_22 : decode cL_pitch 22 = .ok (.ireturn, 1) := by decide +kernel
theorem dL_pitch_23 : decode cL_pitch 23 = .ok (.iconst 0, 1) := by decide +kernel
theorem dL_pitch_24 : decode cL_pitch 24 = .ok (.ireturn, 1) := by decide +kernel
theorem dL_voice_0 : decode cL_voice 0 = .ok (.aload_n 3, 1) := by decide +kernel
theorem dL_voice_1 : decode cL_voice 1 = .ok (.iconst 0, 1) := by decide +kernel
theorem dL_voice_2 : decode cL_voice 2 = .ok (.aload_n 0, 1) := by decide +kernel
theorem dL_voice_3 : decode cL_voice 3 = .ok (.iload_n 1, 1) := by decide +kernel
theorem dL_voice_4 : decode cL_voice 4 = .ok (.iload_n 2, 1) := by decide +kernel
theorem dL_voice_5 : decode cL_voice 5 = .ok (.invokevirtual 57, 3) := by decide +kernel
theorem dL_voice_8 : decode cL_voice 8 = .ok (.i2l, 1) := by decide +kernel
theorem dL_voice_9 : decode cL_voice 9 = .ok (.lastore, 1) := by decide +kernel
theorem dL_voice_10 : decode cL_voice 10 = .ok (.goto 7, 3) := by decide +kernel
theorem dL_voice_13 : decode cL_voice 13 = .ok (.astore 4, 2) := by decide +kernel
theorem dL_voice_15 : decode cL_voice 15 = .ok (.iconst 1, 1) := by decide +kernel
theorem dL_voice_16 : decode cL_voice 16 = .ok (.ireturn, 1) := by decide +kernel
theorem dL_voice_17 : decode cL_voice 17 = .ok (.iconst 0, 1) := by decide +kernel
theorem dL_voice_18 : decode cL_voice 18 = .ok (.ireturn, 1) := by decide +kernel
theorem dL_transpose_0 : decode cL_transpose 0 = .ok (.aload_n 3, 1) := by decide +kernel
theorem dL_transpose_1 : decode cL_transpose 1 = .ok (.iconst 0, 1) := by decide +kernel
theorem dL_transpose_2 : decode cL_transpose 2 = .ok (.aload_n 0, 1) := by decide +kernel
theorem dL_transpose_3 : decode cL_transpose 3 = .ok (.iload_n 1, 1) := by decide +kernel
theorem dL_transpose_4 : decode cL_transpose 4 = .ok (.iload_n 2, 1) := by decide +kernel
theorem dL_transpose_5 : decode cL_transpose 5 = .ok (.invokevirtual 60, 3) := by decide +kernel
theorem dL_transpose_8 : decode cL_transpose 8 = .ok (.i2l, 1) := by decide +kernel
theorem dL_transpose_9 : decode cL_transpose 9 = .ok (.lastore, 1) := by decide +kernel
theorem dL_transpose_10 : decode cL_transpose 10 = .ok (.goto 11, 3) := by decide +kernel
theorem dL_transpose_13 : decode cL_transpose 13 = .ok (.astore 4, 2) := by decide +kernel
theorem dL_transpose_15 : decode cL_transpose 15 = .ok (.iconst 1, 1) := by decide +kernel
theorem dL_transpose_16 : decode cL_transpose 16 = .ok (.ireturn, 1) := by decide +kernel
theorem dL_transpose_17 : decode cL_transpose 17 = .ok (.astore 4, 2) := by decide +kernel
theorem dL_transpose_19 : decode cL_transpose 19 = .ok (.iconst 2, 1) := by decide +kernel
theorem dL_transpose_20 : decode cL_transpose 20 = .ok (.ireturn, 1) := by decide +kernel
theorem dL_transpose_21 : decode cL_transpose 21 = .ok (.iconst 0, 1) := by decide +kernel
theorem dL_transpose_22 : decode cL_transpose 22 = .ok (.ireturn, 1) := by decide +kernel
theorem dL_interval_0 : decode cL_interval 0 = .ok (.aload 4, 2) := by decide +kernel
theorem dL_interval_2 : decode cL_interval 2 = .ok (.iconst 0, 1) := by decide +kernel
theorem dL_interval_3 : decode cL_interval 3 = .ok (.aload_n 0, 1) := by decide +kernel
theorem dL_interval_4 : decode cL_interval 4 = .ok (.iload_n 1, 1) := by decide +kernel
theorem dL_interval_5 : decode cL_interval 5 = .ok (.iload_n 2, 1) := by decide +kernel
theorem dL_interval_6 : decode cL_interval 6 = .ok (.iload_n 3, 1) := by decide +kernel
theorem dL_interval_7 : decode cL_interval 7 = .ok (.invokevirtual 63, 3) := by decide +kernel
theorem dL_interval_10 : decode cL_interval 10 = .ok (.i2l, 1) := by decide +kernel
theorem dL_interval_11 : decode cL_interval 11 = .ok (.lastore, 1) := by decide +kernel
theorem dL_interval_12 : decode cL_interval 12 = .ok (.goto 11, 3) := by decide +kernel
theorem dL_interval_15 : decode cL_interval 15 = .ok (.astore 5, 2) := by decide +kernel
theorem dL_interval_17 : decode cL_interval 17 = .ok (.iconst 1, 1) := by decide +kernel
theorem dL_interval_18 : decode cL_interval 18 = .ok (.ireturn, 1) := by decide +kernel
theorem dL_interval_19 : decode cL_interval 19 = .ok (.astore 5, 2) := by decide +kernel
theorem dL_interval_21 : decode cL_interval 21 = .ok (.iconst 2, 1) := by decide +kernel
theorem dL_interval_22 : decode cL_interval 22 = .ok (.ireturn, 1) := by decide +kernel
theorem dL_interval_23 : decode cL_interval 23 = .ok (.iconst 0, 1) := by decide +kernel
theorem dL_interval_24 : decode cL_interval 24 = .ok (.ireturn, 1) := by decide +kernel
theorem dL_event_0 : decode cL_event 0 = .ok (.aload_n 3, 1) := by decide +kernel
theorem dL_event_1 : decode cL_event 1 = .ok (.iconst 0, 1) := by decide +kernel
theorem dL_event_2 : decode cL_event 2 = .ok (.aload_n 0, 1) := by decide +kernel
theorem dL_event_3 : decode cL_event 3 = .ok (.iload_n 1, 1) := by decide +kernel
theorem dL_event_4 : decode cL_event 4 = .ok (.iload_n 2, 1) := by decide +kernel
theorem dL_event_5 : decode cL_event 5 = .ok (.invokevirtual 66, 3) := by decide +kernel
theorem dL_event_8 : decode cL_event 8 = .ok (.i2l, 1) := by decide +kernel
theorem dL_event_9 : decode cL_event 9 = .ok (.lastore, 1) := by decide +kernel
theorem dL_event_10 : decode cL_event 10 = .ok (.goto 7, 3) := by decide +kernel
theorem dL_event_13 : decode cL_event 13 = .ok (.astore 4, 2) := by decide +kernel
theorem dL_event_15 : decode cL_event 15 = .ok (.iconst 1, 1) := by decide +kernel
theorem dL_event_16 : decode cL_event 16 = .ok (.ireturn, 1) := by decide +kernel
theorem dL_event_17 : decode cL_event 17 = .ok (.iconst 0, 1) := by decide +kernel
theorem dL_event_18 : decode cL_event 18 = .ok (.ireturn, 1) := by decide +kernel
theorem dL_time_0 : decode cL_time 0 = .ok (.aload_n 3, 1) := by decide +kernel
theorem dL_time_1 : decode cL_time 1 = .ok (.iconst 0, 1) := by decide +kernel
theorem dL_time_2 : decode cL_time 2 = .ok (.aload_n 0, 1) := by decide +kernel
theorem dL_time_3 : decode cL_time 3 = .ok (.iload_n 1, 1) := by decide +kernel
theorem dL_time_4 : decode cL_time 4 = .ok (.iload_n 2, 1) := by decide +kernel
theorem dL_time_5 : decode cL_time 5 = .ok (.invokevirtual 69, 3) := by decide +kernel
theorem dL_time_8 : decode cL_time 8 = .ok (.lastore, 1) := by decide +kernel
theorem dL_time_9 : decode cL_time 9 = .ok (.goto 7, 3) := by decide +kernel
theorem dL_time_12 : decode cL_time 12 = .ok (.astore 4, 2) := by decide +kernel
theorem dL_time_14 : decode cL_time 14 = .ok (.iconst 1, 1) := by decide +kernel
theorem dL_time_15 : decode cL_time 15 = .ok (.ireturn, 1) := by decide +kernel
theorem dL_time_16 : decode cL_time 16 = .ok (.iconst 0, 1) := by decide +kernel
theorem dL_time_17 : decode cL_time 17 = .ok (.ireturn, 1) := by decide +kernel
theorem dL_law_0 : decode cL_law 0 = .ok (.new 8, 3) := by decide +kernel
theorem dL_law_3 : decode cL_law 3 = .ok (.dup, 1) := by decide +kernel
theorem dL_law_4 : decode cL_law 4 = .ok (.invokespecial 73, 3) := by decide +kernel
theorem dL_law_7 : decode cL_law 7 = .ok (.astore_n 1, 1) := by decide +kernel
theorem dL_law_8 : decode cL_law 8 = .ok (.new 74, 3) := by decide +kernel
theorem dL_law_11 : decode cL_law 11 = .ok (.dup, 1) := by decide +kernel
theorem dL_law_12 : decode cL_law 12 = .ok (.invokespecial 76, 3) := by decide +kernel
theorem dL_law_15 : decode cL_law 15 = .ok (.astore_n 2, 1) := by decide +kernel
theorem dL_law_16 : decode cL_law 16 = .ok (.iconst 1, 1) := by decide +kernel
theorem dL_law_17 : decode cL_law 17 = .ok (.newarray .long, 2) := by decide +kernel
theorem dL_law_19 : decode cL_law 19 = .ok (.astore_n 3, 1) := by decide +kernel
theorem dL_law_20 : decode cL_law 20 = .ok (.iconst 0, 1) := by decide +kernel
theorem dL_law_21 : decode cL_law 21 = .ok (.istore 4, 2) := by decide +kernel
theorem dL_law_23 : decode cL_law 23 = .ok (.iload 4, 2) := by decide +kernel
theorem dL_law_25 : decode cL_law 25 = .ok (.aload_n 0, 1) := by decide +kernel
theorem dL_law_26 : decode cL_law 26 = .ok (.arraylength, 1) := by decide +kernel
theorem dL_law_27 : decode cL_law 27 = .ok (.bipush 8, 2) := by decide +kernel
theorem dL_law_29 : decode cL_law 29 = .ok (.isub, 1) := by decide +kernel
theorem dL_law_30 : decode cL_law 30 = .ok (.if_icmp .gt 1443, 3) := by decide +kernel
theorem dL_law_33 : decode cL_law 33 = .ok (.aload_n 0, 1) := by decide +kernel
theorem dL_law_34 : decode cL_law 34 = .ok (.iload 4, 2) := by decide +kernel
theorem dL_law_36 : decode cL_law 36 = .ok (.iaload, 1) := by decide +kernel
theorem dL_law_37 : decode cL_law 37 = .ok (.bipush 31, 2) := by decide +kernel
theorem dL_law_39 : decode cL_law 39 = .ok (.iand, 1) := by decide +kernel
theorem dL_law_40 : decode cL_law 40 = .ok (.tableswitch 1427 0 20 #[100, 168, 224, 268, 324, 380, 448, 596, 676, 732, 835, 915, 995, 1063, 1131, 1144, 1224, 1292, 1305, 1372, 1413], 100) := by decide +kernel
theorem dL_law_140 : decode cL_law 140 = .ok (.aload_n 1, 1) := by decide +kernel
theorem dL_law_141 : decode cL_law 141 = .ok (.aload_n 0, 1) := by decide +kernel
theorem dL_law_142 : decode cL_law 142 = .ok (.iload 4, 2) := by decide +kernel
theorem dL_law_144 : decode cL_law 144 = .ok (.iconst 1, 1) := by decide +kernel
theorem dL_law_145 : decode cL_law 145 = .ok (.iadd, 1) := by decide +kernel
theorem dL_law_146 : decode cL_law 146 = .ok (.iaload, 1) := by decide +kernel
theorem dL_law_147 : decode cL_law 147 = .ok (.aload_n 0, 1) := by decide +kernel
theorem dL_law_148 : decode cL_law 148 = .ok (.iload 4, 2) := by decide +kernel
theorem dL_law_150 : decode cL_law 150 = .ok (.iconst 2, 1) := by decide +kernel
theorem dL_law_151 : decode cL_law 151 = .ok (.iadd, 1) := by decide +kernel
theorem dL_law_152 : decode cL_law 152 = .ok (.iaload, 1) := by decide +kernel
theorem dL_law_153 : decode cL_law 153 = .ok (.aload_n 3, 1) := by decide +kernel
theorem dL_law_154 : decode cL_law 154 = .ok (.invokestatic 77, 3) := by decide +kernel
theorem dL_law_157 : decode cL_law 157 = .ok (.istore 5, 2) := by decide +kernel
theorem dL_law_159 : decode cL_law 159 = .ok (.aload_n 2, 1) := by decide +kernel
theorem dL_law_160 : decode cL_law 160 = .ok (.aload_n 0, 1) := by decide +kernel
theorem dL_law_161 : decode cL_law 161 = .ok (.iload 4, 2) := by decide +kernel
theorem dL_law_163 : decode cL_law 163 = .ok (.iconst 1, 1) := by decide +kernel
theorem dL_law_164 : decode cL_law 164 = .ok (.iadd, 1) := by decide +kernel
theorem dL_law_165 : decode cL_law 165 = .ok (.iaload, 1) := by decide +kernel
theorem dL_law_166 : decode cL_law 166 = .ok (.aload_n 0, 1) := by decide +kernel
theorem dL_law_167 : decode cL_law 167 = .ok (.iload 4, 2) := by decide +kernel
theorem dL_law_169 : decode cL_law 169 = .ok (.iconst 2, 1) := by decide +kernel
theorem dL_law_170 : decode cL_law 170 = .ok (.iadd, 1) := by decide +kernel
theorem dL_law_171 : decode cL_law 171 = .ok (.iaload, 1) := by decide +kernel
theorem dL_law_172 : decode cL_law 172 = .ok (.invokevirtual 82, 3) := by decide +kernel
theorem dL_law_175 : decode cL_law 175 = .ok (.istore 6, 2) := by decide +kernel
theorem dL_law_177 : decode cL_law 177 = .ok (.aload_n 2, 1) := by decide +kernel
theorem dL_law_178 : decode cL_law 178 = .ok (.invokevirtual 83, 3) := by decide +kernel
theorem dL_law_181 : decode cL_law 181 = .ok (.iload 5, 2) := by decide +kernel
theorem dL_law_183 : decode cL_law 183 = .ok (.if_icmp .eq 5, 3) := by decide +kernel
theorem dL_law_186 : decode cL_law 186 = .ok (.iconst 0, 1) := by decide +kernel
theorem dL_law_187 : decode cL_law 187 = .ok (.ireturn, 1) := by decide +kernel
theorem dL_law_188 : decode cL_law 188 = .ok (.iload 5, 2) := by decide +kernel
theorem dL_law_190 : decode cL_law 190 = .ok (.ifCond .ne 15, 3) := by decide +kernel
theorem dL_law_193 : decode cL_law 193 = .ok (.aload_n 3, 1) := by decide +kernel
theorem dL_law_194 : decode cL_law 194 = .ok (.iconst 0, 1) := by decide +kernel
theorem dL_law_195 : decode cL_law 195 = .ok (.laload, 1) := by decide +kernel
theorem dL_law_196 : decode cL_law 196 = .ok (.iload 6, 2) := by decide +kernel
theorem dL_law_198 : decode cL_law 198 = .ok (.i2l, 1) := by decide +kernel
theorem dL_law_199 : decode cL_law 199 = .ok (.lcmp, 1) := by decide +kernel
theorem dL_law_200 : decode cL_law 200 = .ok (.ifCond .eq 5, 3) := by decide +kernel
theorem dL_law_203 : decode cL_law 203 = .ok (.iconst 0, 1) := by decide +kernel
theorem dL_law_204 : decode cL_law 204 = .ok (.ireturn, 1) := by decide +kernel
theorem dL_law_205 : decode cL_law 205 = .ok (.goto 1262, 3) := by decide +kernel
theorem dL_law_208 : decode cL_law 208 = .ok (.aload_n 1, 1) := by decide +kernel
theorem dL_law_209 : decode cL_law 209 = .ok (.aload_n 0, 1) := by decide +kernel
theorem dL_law_210 : decode cL_law 210 = .ok (.iload 4, 2) := by decide +kernel
theorem dL_law_212 : decode cL_law 212 = .ok (.iconst 1, 1) := by decide +kernel
theorem dL_law_213 : decode cL_law 213 = .ok (.iadd, 1) := by decide +kernel
theorem dL_law_214 : decode cL_law 214 = .ok (.iaload, 1) := by decide +kernel
theorem dL_law_215 : decode cL_law 215 = .ok (.aload_n 3, 1) := by decide +kernel
theorem dL_law_216 : decode cL_law 216 = .ok (.invokestatic 86, 3) := by decide +kernel
theorem dL_law_219 : decode cL_law 219 = .ok (.istore 5, 2) := by decide +kernel
theorem dL_law_221 : decode cL_law 221 = .ok (.aload_n 2, 1) := by decide +kernel
theorem dL_law_222 : decode cL_law 222 = .ok (.aload_n 0, 1) := by decide +kernel
theorem dL_law_223 : decode cL_law 223 = .ok (.iload 4, 2) := by decide +kernel
theorem dL_law_225 : decode cL_law 225 = .ok (.iconst 1, 1) := by decide +kernel
theorem dL_law_226 : decode cL_law 226 = .ok (.iadd, 1) := by decide +kernel
theorem dL_law_227 : decode cL_law 227 = .ok (.iaload, 1) := by decide +kernel
theorem dL_law_228 : decode cL_law 228 = .ok (.invokevirtual 89, 3) := by decide +kernel
theorem dL_law_231 : decode cL_law 231 = .ok (.istore 6, 2) := by decide +kernel
theorem dL_law_233 : decode cL_law 233 = .ok (.aload_n 2, 1) := by decide +kernel
theorem dL_law_234 : decode cL_law 234 = .ok (.invokevirtual 83, 3) := by decide +kernel
theorem dL_law_237 : decode cL_law 237 = .ok (.iload 5, 2) := by decide +kernel
theorem dL_law_239 : decode cL_law 239 = .ok (.if_icmp .eq 5, 3) := by decide +kernel
theorem dL_law_242 : decode cL_law 242 = .ok (.iconst 0, 1) := by decide +kernel
theorem dL_law_243 : decode cL_law 243 = .ok (.ireturn, 1) := by decide +kernel
theorem dL_law_244 : decode cL_law 244 = .ok (.iload 5, 2) := by decide +kernel
theorem dL_law_246 : decode cL_law 246 = .ok (.ifCond .ne 15, 3) := by decide +kernel
theorem dL_law_249 : decode cL_law 249 = .ok (.aload_n 3, 1) := by decide +kernel
theorem dL_law_250 : decode cL_law 250 = .ok (.iconst 0, 1) := by decide +kernel
theorem dL_law_251 : decode cL_law 251 = .ok (.laload, 1) := by decide +kernel
theorem dL_law_252 : decode cL_law 252 = .ok (.iload 6, 2) := by decide +kernel
theorem dL_law_254 : decode cL_law 254 = .ok (.i2l, 1) := by decide +kernel
theorem dL_law_255 : decode cL_law 255 = .ok (.lcmp, 1) := by decide +kernel
theorem dL_law_256 : decode cL_law 256 = .ok (.ifCond .eq 5, 3) := by decide +kernel
theorem dL_law_259 : decode cL_law 259 = .ok (.iconst 0, 1) := by decide +kernel
theorem dL_law_260 : decode cL_law 260 = .ok (.ireturn, 1) := by decide +kernel
theorem dL_law_261 : decode cL_law 261 = .ok (.goto 1206, 3) := by decide +kernel
theorem dL_law_264 : decode cL_law 264 = .ok (.aload_n 1, 1) := by decide +kernel
theorem dL_law_265 : decode cL_law 265 = .ok (.aload_n 3, 1) := by decide +kernel
theorem dL_law_266 : decode cL_law 266 = .ok (.invokestatic 90, 3) := by decide +kernel
theorem dL_law_269 : decode cL_law 269 = .ok (.istore 5, 2) := by decide +kernel
theorem dL_law_271 : decode cL_law 271 = .ok (.aload_n 2, 1) := by decide +kernel
theorem dL_law_272 : decode cL_law 272 = .ok (.invokevirtual 93, 3) := by decide +kernel
theorem dL_law_275 : decode cL_law 275 = .ok (.istore 6, 2) := by decide +kernel
theorem dL_law_277 : decode cL_law 277 = .ok (.aload_n 2, 1) := by decide +kernel
theorem dL_law_278 : decode cL_law 278 = .ok (.invokevirtual 83, 3) := by decide +kernel
theorem dL_law_281 : decode cL_law 281 = .ok (.iload 5, 2) := by decide +kernel
theorem dL_law_283 : decode cL_law 283 = .ok (.if_icmp .eq 5, 3) := by decide +kernel
theorem dL_law_286 : decode cL_law 286 = .ok (.iconst 0, 1) := by decide +kernel
theorem dL_law_287 : decode cL_law 287 = .ok (.ireturn, 1) := by decide +kernel
theorem dL_law_288 : decode cL_law 288 = .ok (.iload 5, 2) := by decide +kernel
theorem dL_law_290 : decode cL_law 290 = .ok (.ifCond .ne 15, 3) := by decide +kernel
theorem dL_law_293 : decode cL_law 293 = .ok (.aload_n 3, 1) := by decide +kernel
theorem dL_law_294 : decode cL_law 294 = .ok (.iconst 0, 1) := by decide +kernel
theorem dL_law_295 : decode cL_law 295 = .ok (.laload, 1) := by decide +kernel
theorem dL_law_296 : decode cL_law 296 = .ok (.iload 6, 2) := by decide +kernel
theorem dL_law_298 : decode cL_law 298 = .ok (.i2l, 1) := by decide +kernel
theorem dL_law_299 : decode cL_law 299 = .ok (.lcmp, 1) := by decide +kernel
theorem dL_law_300 : decode cL_law 300 = .ok (.ifCond .eq 5, 3) := by decide +kernel
theorem dL_law_303 : decode cL_law 303 = .ok (.iconst 0, 1) := by decide +kernel
theorem dL_law_304 : decode cL_law 304 = .ok (.ireturn, 1) := by decide +kernel
theorem dL_law_305 : decode cL_law 305 = .ok (.goto 1162, 3) := by decide +kernel
theorem dL_law_308 : decode cL_law 308 = .ok (.aload_n 1, 1) := by decide +kernel
theorem dL_law_309 : decode cL_law 309 = .ok (.aload_n 0, 1) := by decide +kernel
theorem dL_law_310 : decode cL_law 310 = .ok (.iload 4, 2) := by decide +kernel
theorem dL_law_312 : decode cL_law 312 = .ok (.iconst 1, 1) := by decide +kernel
theorem dL_law_313 : decode cL_law 313 = .ok (.iadd, 1) := by decide +kernel
theorem dL_law_314 : decode cL_law 314 = .ok (.iaload, 1) := by decide +kernel
theorem dL_law_315 : decode cL_law 315 = .ok (.aload_n 3, 1) := by decide +kernel
theorem dL_law_316 : decode cL_law 316 = .ok (.invokestatic 94, 3) := by decide +kernel
theorem dL_law_319 : decode cL_law 319 = .ok (.istore 5, 2) := by decide +kernel
theorem dL_law_321 : decode cL_law 321 = .ok (.aload_n 2, 1) := by decide +kernel
theorem dL_law_322 : decode cL_law 322 = .ok (.aload_n 0, 1) := by decide +kernel
theorem dL_law_323 : decode cL_law 323 = .ok (.iload 4, 2) := by decide +kernel
theorem dL_law_325 : decode cL_law 325 = .ok (.iconst 1, 1) := by decide +kernel
theorem dL_law_326 : decode cL_law 326 = .ok (.iadd, 1) := by decide +kernel
theorem dL_law_327 : decode cL_law 327 = .ok (.iaload, 1) := by decide +kernel
theorem dL_law_328 : decode cL_law 328 = .ok (.invokevirtual 96, 3) := by decide +kernel
theorem dL_law_331 : decode cL_law 331 = .ok (.istore 6, 2) := by decide +kernel
theorem dL_law_333 : decode cL_law 333 = .ok (.aload_n 2, 1) := by decide +kernel
theorem dL_law_334 : decode cL_law 334 = .ok (.invokevirtual 83, 3) := by decide +kernel
theorem dL_law_337 : decode cL_law 337 = .ok (.iload 5, 2) := by decide +kernel
theorem dL_law_339 : decode cL_law 339 = .ok (.if_icmp .eq 5, 3) := by decide +kernel
theorem dL_law_342 : decode cL_law 342 = .ok (.iconst 0, 1) := by decide +kernel
theorem dL_law_343 : decode cL_law 343 = .ok (.ireturn, 1) := by decide +kernel
theorem dL_law_344 : decode cL_law 344 = .ok (.iload 5, 2) := by decide +kernel
theorem dL_law_346 : decode cL_law 346 = .ok (.ifCond .ne 15, 3) := by decide +kernel
theorem dL_law_349 : decode cL_law 349 = .ok (.aload_n 3, 1) := by decide +kernel
theorem dL_law_350 : decode cL_law 350 = .ok (.iconst 0, 1) := by decide +kernel
theorem dL_law_351 : decode cL_law 351 = .ok (.laload, 1) := by decide +kernel
theorem dL_law_352 : decode cL_law 352 = .ok (.iload 6, 2) := by decide +kernel
theorem dL_law_354 : decode cL_law 354 = .ok (.i2l, 1) := by decide +kernel
theorem dL_law_355 : decode cL_law 355 = .ok (.lcmp, 1) := by decide +kernel
theorem dL_law_356 : decode cL_law 356 = .ok (.ifCond .eq 5, 3) := by decide +kernel
theorem dL_law_359 : decode cL_law 359 = .ok (.iconst 0, 1) := by decide +kernel
theorem dL_law_360 : decode cL_law 360 = .ok (.ireturn, 1) := by decide +kernel
theorem dL_law_361 : decode cL_law 361 = .ok (.goto 1106, 3) := by decide +kernel
theorem dL_law_364 : decode cL_law 364 = .ok (.aload_n 1, 1) := by decide +kernel
theorem dL_law_365 : decode cL_law 365 = .ok (.aload_n 0, 1) := by decide +kernel
theorem dL_law_366 : decode cL_law 366 = .ok (.iload 4, 2) := by decide +kernel
theorem dL_law_368 : decode cL_law 368 = .ok (.iconst 1, 1) := by decide +kernel
theorem dL_law_369 : decode cL_law 369 = .ok (.iadd, 1) := by decide +kernel
theorem dL_law_370 : decode cL_law 370 = .ok (.iaload, 1) := by decide +kernel
theorem dL_law_371 : decode cL_law 371 = .ok (.aload_n 3, 1) := by decide +kernel
theorem dL_law_372 : decode cL_law 372 = .ok (.invokestatic 97, 3) := by decide +kernel
theorem dL_law_375 : decode cL_law 375 = .ok (.istore 5, 2) := by decide +kernel
theorem dL_law_377 : decode cL_law 377 = .ok (.aload_n 2, 1) := by decide +kernel
theorem dL_law_378 : decode cL_law 378 = .ok (.aload_n 0, 1) := by decide +kernel
theorem dL_law_379 : decode cL_law 379 = .ok (.iload 4, 2) := by decide +kernel
theorem dL_law_381 : decode cL_law 381 = .ok (.iconst 1, 1) := by decide +kernel
theorem dL_law_382 : decode cL_law 382 = .ok (.iadd, 1) := by decide +kernel
theorem dL_law_383 : decode cL_law 383 = .ok (.iaload, 1) := by decide +kernel
theorem dL_law_384 : decode cL_law 384 = .ok (.invokevirtual 99, 3) := by decide +kernel
theorem dL_law_387 : decode cL_law 387 = .ok (.istore 6, 2) := by decide +kernel
theorem dL_law_389 : decode cL_law 389 = .ok (.aload_n 2, 1) := by decide +kernel
theorem dL_law_390 : decode cL_law 390 = .ok (.invokevirtual 83, 3) := by decide +kernel
theorem dL_law_393 : decode cL_law 393 = .ok (.iload 5, 2) := by decide +kernel
theorem dL_law_395 : decode cL_law 395 = .ok (.if_icmp .eq 5, 3) := by decide +kernel
theorem dL_law_398 : decode cL_law 398 = .ok (.iconst 0, 1) := by decide +kernel
theorem dL_law_399 : decode cL_law 399 = .ok (.ireturn, 1) := by decide +kernel
theorem dL_law_400 : decode cL_law 400 = .ok (.iload 5, 2) := by decide +kernel
theorem dL_law_402 : decode cL_law 402 = .ok (.ifCond .ne 15, 3) := by decide +kernel
theorem dL_law_405 : decode cL_law 405 = .ok (.aload_n 3, 1) := by decide +kernel
theorem dL_law_406 : decode cL_law 406 = .ok (.iconst 0, 1) := by decide +kernel
theorem dL_law_407 : decode cL_law 407 = .ok (.laload, 1) := by decide +kernel
theorem dL_law_408 : decode cL_law 408 = .ok (.iload 6, 2) := by decide +kernel
theorem dL_law_410 : decode cL_law 410 = .ok (.i2l, 1) := by decide +kernel
theorem dL_law_411 : decode cL_law 411 = .ok (.lcmp, 1) := by decide +kernel
theorem dL_law_412 : decode cL_law 412 = .ok (.ifCond .eq 5, 3) := by decide +kernel
theorem dL_law_415 : decode cL_law 415 = .ok (.iconst 0, 1) := by decide +kernel
theorem dL_law_416 : decode cL_law 416 = .ok (.ireturn, 1) := by decide +kernel
theorem dL_law_417 : decode cL_law 417 = .ok (.goto 1050, 3) := by decide +kernel
theorem dL_law_420 : decode cL_law 420 = .ok (.aload_n 1, 1) := by decide +kernel
theorem dL_law_421 : decode cL_law 421 = .ok (.aload_n 0, 1) := by decide +kernel
theorem dL_law_422 : decode cL_law 422 = .ok (.iload 4, 2) := by decide +kernel
theorem dL_law_424 : decode cL_law 424 = .ok (.iconst 1, 1) := by decide +kernel
theorem dL_law_425 : decode cL_law 425 = .ok (.iadd, 1) := by decide +kernel
theorem dL_law_426 : decode cL_law 426 = .ok (.iaload, 1) := by decide +kernel
theorem dL_law_427 : decode cL_law 427 = .ok (.aload_n 0, 1) := by decide +kernel
theorem dL_law_428 : decode cL_law 428 = .ok (.iload 4, 2) := by decide +kernel
theorem dL_law_430 : decode cL_law 430 = .ok (.iconst 2, 1) := by decide +kernel
theorem dL_law_431 : decode cL_law 431 = .ok (.iadd, 1) := by decide +kernel
theorem dL_law_432 : decode cL_law 432 = .ok (.iaload, 1) := by decide +kernel
theorem dL_law_433 : decode cL_law 433 = .ok (.aload_n 3, 1) := by decide +kernel
theorem dL_law_434 : decode cL_law 434 = .ok (.invokestatic 100, 3) := by decide +kernel
theorem dL_law_437 : decode cL_law 437 = .ok (.istore 5, 2) := by decide +kernel
theorem dL_law_439 : decode cL_law 439 = .ok (.aload_n 2, 1) := by decide +kernel
theorem dL_law_440 : decode cL_law 440 = .ok (.aload_n 0, 1) := by decide +kernel
theorem dL_law_441 : decode cL_law 441 = .ok (.iload 4, 2) := by decide +kernel
theorem dL_law_443 : decode cL_law 443 = .ok (.iconst 1, 1) := by decide +kernel
theorem dL_law_444 : decode cL_law 444 = .ok (.iadd, 1) := by decide +kernel
theorem dL_law_445 : decode cL_law 445 = .ok (.iaload, 1) := by decide +kernel
theorem dL_law_446 : decode cL_law 446 = .ok (.aload_n 0, 1) := by decide +kernel
theorem dL_law_447 : decode cL_law 447 = .ok (.iload 4, 2) := by decide +kernel
theorem dL_law_449 : decode cL_law 449 = .ok (.iconst 2, 1) := by decide +kernel
theorem dL_law_450 : decode cL_law 450 = .ok (.iadd, 1) := by decide +kernel
theorem dL_law_451 : decode cL_law 451 = .ok (.iaload, 1) := by decide +kernel
theorem dL_law_452 : decode cL_law 452 = .ok (.invokevirtual 102, 3) := by decide +kernel
theorem dL_law_455 : decode cL_law 455 = .ok (.istore 6, 2) := by decide +kernel
theorem dL_law_457 : decode cL_law 457 = .ok (.aload_n 2, 1) := by decide +kernel
theorem dL_law_458 : decode cL_law 458 = .ok (.invokevirtual 83, 3) := by decide +kernel
theorem dL_law_461 : decode cL_law 461 = .ok (.iload 5, 2) := by decide +kernel
theorem dL_law_463 : decode cL_law 463 = .ok (.if_icmp .eq 5, 3) := by decide +kernel
theorem dL_law_466 : decode cL_law 466 = .ok (.iconst 0, 1) := by decide +kernel
theorem dL_law_467 : decode cL_law 467 = .ok (.ireturn, 1) := by decide +kernel
theorem dL_law_468 : decode cL_law 468 = .ok (.iload 5, 2) := by decide +kernel
theorem dL_law_470 : decode cL_law 470 = .ok (.ifCond .ne 15, 3) := by decide +kernel
theorem dL_law_473 : decode cL_law 473 = .ok (.aload_n 3, 1) := by decide +kernel
theorem dL_law_474 : decode cL_law 474 = .ok (.iconst 0, 1) := by decide +kernel
theorem dL_law_475 : decode cL_law 475 = .ok (.laload, 1) := by decide +kernel
theorem dL_law_476 : decode cL_law 476 = .ok (.iload 6, 2) := by decide +kernel
theorem dL_law_478 : decode cL_law 478 = .ok (.i2l, 1) := by decide +kernel
theorem dL_law_479 : decode cL_law 479 = .ok (.lcmp, 1) := by decide +kernel
theorem dL_law_480 : decode cL_law 480 = .ok (.ifCond .eq 5, 3) := by decide +kernel
theorem dL_law_483 : decode cL_law 483 = .ok (.iconst 0, 1) := by decide +kernel
theorem dL_law_484 : decode cL_law 484 = .ok (.ireturn, 1) := by decide +kernel
theorem dL_law_485 : decode cL_law 485 = .ok (.goto 982, 3) := by decide +kernel
theorem dL_law_488 : decode cL_law 488 = .ok (.aload_n 1, 1) := by decide +kernel
theorem dL_law_489 : decode cL_law 489 = .ok (.aload_n 0, 1) := by decide +kernel
theorem dL_law_490 : decode cL_law 490 = .ok (.iload 4, 2) := by decide +kernel
theorem dL_law_492 : decode cL_law 492 = .ok (.iconst 1, 1) := by decide +kernel
theorem dL_law_493 : decode cL_law 493 = .ok (.iadd, 1) := by decide +kernel
theorem dL_law_494 : decode cL_law 494 = .ok (.iaload, 1) := by decide +kernel
theorem dL_law_495 : decode cL_law 495 = .ok (.aload_n 0, 1) := by decide +kernel
theorem dL_law_496 : decode cL_law 496 = .ok (.iload 4, 2) := by decide +kernel
theorem dL_law_498 : decode cL_law 498 = .ok (.iconst 2, 1) := by decide +kernel
theorem dL_law_499 : decode cL_law 499 = .ok (.iadd, 1) := by decide +kernel
theorem dL_law_500 : decode cL_law 500 = .ok (.iaload, 1) := by decide +kernel
theorem dL_law_501 : decode cL_law 501 = .ok (.aload_n 0, 1) := by decide +kernel
theorem dL_law_502 : decode cL_law 502 = .ok (.iload 4, 2) := by decide +kernel
theorem dL_law_504 : decode cL_law 504 = .ok (.iconst 3, 1) := by decide +kernel
theorem dL_law_505 : decode cL_law 505 = .ok (.iadd, 1) := by decide +kernel
theorem dL_law_506 : decode cL_law 506 = .ok (.iaload, 1) := by decide +kernel
theorem dL_law_507 : decode cL_law 507 = .ok (.aload_n 0, 1) := by decide +kernel
theorem dL_law_508 : decode cL_law 508 = .ok (.iload 4, 2) := by decide +kernel
theorem dL_law_510 : decode cL_law 510 = .ok (.iconst 4, 1) := by decide +kernel
theorem dL_law_511 : decode cL_law 511 = .ok (.iadd, 1) := by decide +kernel
theorem dL_law_512 : decode cL_law 512 = .ok (.iaload, 1) := by decide +kernel
theorem dL_law_513 : decode cL_law 513 = .ok (.aload_n 0, 1) := by decide +kernel
theorem dL_law_514 : decode cL_law 514 = .ok (.iload 4, 2) := by decide +kernel
theorem dL_law_516 : decode cL_law 516 = .ok (.iconst 5, 1) := by decide +kernel
theorem dL_law_517 : decode cL_law 517 = .ok (.iadd, 1) := by decide +kernel
theorem dL_law_518 : decode cL_law 518 = .ok (.iaload, 1) := by decide +kernel
theorem dL_law_519 : decode cL_law 519 = .ok (.aload_n 0, 1) := by decide +kernel
theorem dL_law_520 : decode cL_law 520 = .ok (.iload 4, 2) := by decide +kernel
theorem dL_law_522 : decode cL_law 522 = .ok (.bipush 6, 2) := by decide +kernel
theorem dL_law_524 : decode cL_law 524 = .ok (.iadd, 1) := by decide +kernel
theorem dL_law_525 : decode cL_law 525 = .ok (.iaload, 1) := by decide +kernel
theorem dL_law_526 : decode cL_law 526 = .ok (.aload_n 0, 1) := by decide +kernel
theorem dL_law_527 : decode cL_law 527 = .ok (.iload 4, 2) := by decide +kernel
theorem dL_law_529 : decode cL_law 529 = .ok (.bipush 7, 2) := by decide +kernel
theorem dL_law_531 : decode cL_law 531 = .ok (.iadd, 1) := by decide +kernel
theorem dL_law_532 : decode cL_law 532 = .ok (.iaload, 1) := by decide +kernel
theorem dL_law_533 : decode cL_law 533 = .ok (.ifCond .eq 7, 3) := by decide +kernel
theorem dL_law_536 : decode cL_law 536 = .ok (.iconst 1, 1) := by decide +kernel
theorem dL_law_537 : decode cL_law 537 = .ok (.goto 4, 3) := by decide +kernel
theorem dL_law_540 : decode cL_law 540 = .ok (.iconst 0, 1) := by decide +kernel
theorem dL_law_541 : decode cL_law 541 = .ok (.aload_n 3, 1) := by decide +kernel
theorem dL_law_542 : decode cL_law 542 = .ok (.invokestatic 103, 3) := by decide +kernel
theorem dL_law_545 : decode cL_law 545 = .ok (.istore 5, 2) := by decide +kernel
theorem dL_law_547 : decode cL_law 547 = .ok (.aload_n 2, 1) := by decide +kernel
theorem dL_law_548 : decode cL_law 548 = .ok (.aload_n 0, 1) := by decide +kernel
theorem dL_law_549 : decode cL_law 549 = .ok (.iload 4, 2) := by decide +kernel
theorem dL_law_551 : decode cL_law 551 = .ok (.iconst 1, 1) := by decide +kernel
theorem dL_law_552 : decode cL_law 552 = .ok (.iadd, 1) := by decide +kernel
theorem dL_law_553 : decode cL_law 553 = .ok (.iaload, 1) := by decide +kernel
theorem dL_law_554 : decode cL_law 554 = .ok (.aload_n 0, 1) := by decide +kernel
theorem dL_law_555 : decode cL_law 555 = .ok (.iload 4, 2) := by decide +kernel
theorem dL_law_557 : decode cL_law 557 = .ok (.iconst 2, 1) := by decide +kernel
theorem dL_law_558 : decode cL_law 558 = .ok (.iadd, 1) := by decide +kernel
theorem dL_law_559 : decode cL_law 559 = .ok (.iaload, 1) := by decide +kernel
theorem dL_law_560 : decode cL_law 560 = .ok (.aload_n 0, 1) := by decide +kernel
theorem dL_law_561 : decode cL_law 561 = .ok (.iload 4, 2) := by decide +kernel
theorem dL_law_563 : decode cL_law 563 = .ok (.iconst 3, 1) := by decide +kernel
theorem dL_law_564 : decode cL_law 564 = .ok (.iadd, 1) := by decide +kernel
theorem dL_law_565 : decode cL_law 565 = .ok (.iaload, 1) := by decide +kernel
theorem dL_law_566 : decode cL_law 566 = .ok (.aload_n 0, 1) := by decide +kernel
theorem dL_law_567 : decode cL_law 567 = .ok (.iload 4, 2) := by decide +kernel
theorem dL_law_569 : decode cL_law 569 = .ok (.iconst 4, 1) := by decide +kernel
theorem dL_law_570 : decode cL_law 570 = .ok (.iadd, 1) := by decide +kernel
theorem dL_law_571 : decode cL_law 571 = .ok (.iaload, 1) := by decide +kernel
theorem dL_law_572 : decode cL_law 572 = .ok (.aload_n 0, 1) := by decide +kernel
theorem dL_law_573 : decode cL_law 573 = .ok (.iload 4, 2) := by decide +kernel
theorem dL_law_575 : decode cL_law 575 = .ok (.iconst 5, 1) := by decide +kernel
theorem dL_law_576 : decode cL_law 576 = .ok (.iadd, 1) := by decide +kernel
theorem dL_law_577 : decode cL_law 577 = .ok (.iaload, 1) := by decide +kernel
theorem dL_law_578 : decode cL_law 578 = .ok (.aload_n 0, 1) := by decide +kernel
theorem dL_law_579 : decode cL_law 579 = .ok (.iload 4, 2) := by decide +kernel
theorem dL_law_581 : decode cL_law 581 = .ok (.bipush 6, 2) := by decide +kernel
theorem dL_law_583 : decode cL_law 583 = .ok (.iadd, 1) := by decide +kernel
theorem dL_law_584 : decode cL_law 584 = .ok (.iaload, 1) := by decide +kernel
theorem dL_law_585 : decode cL_law 585 = .ok (.aload_n 0, 1) := by decide +kernel
theorem dL_law_586 : decode cL_law 586 = .ok (.iload 4, 2) := by decide +kernel
theorem dL_law_588 : decode cL_law 588 = .ok (.bipush 7, 2) := by decide +kernel
theorem dL_law_590 : decode cL_law 590 = .ok (.iadd, 1) := by decide +kernel
theorem dL_law_591 : decode cL_law 591 = .ok (.iaload, 1) := by decide +kernel
theorem dL_law_592 : decode cL_law 592 = .ok (.ifCond .eq 7, 3) := by decide +kernel
theorem dL_law_595 : decode cL_law 595 = .ok (.iconst 1, 1) := by decide +kernel
theorem dL_law_596 : decode cL_law 596 = .ok (.goto 4, 3) := by decide +kernel
theorem dL_law_599 : decode cL_law 599 = .ok (.iconst 0, 1) := by decide +kernel
theorem dL_law_600 : decode cL_law 600 = .ok (.invokevirtual 106, 3) := by decide +kernel
theorem dL_law_603 : decode cL_law 603 = .ok (.istore 6, 2) := by decide +kernel
theorem dL_law_605 : decode cL_law 605 = .ok (.aload_n 2, 1) := by decide +kernel
theorem dL_law_606 : decode cL_law 606 = .ok (.invokevirtual 83, 3) := by decide +kernel
theorem dL_law_609 : decode cL_law 609 = .ok (.iload 5, 2) := by decide +kernel
theorem dL_law_611 : decode cL_law 611 = .ok (.if_icmp .eq 5, 3) := by decide +kernel
theorem dL_law_614 : decode cL_law 614 = .ok (.iconst 0, 1) := by decide +kernel
theorem dL_law_615 : decode cL_law 615 = .ok (.ireturn, 1) := by decide +kernel
theorem dL_law_616 : decode cL_law 616 = .ok (.iload 5, 2) := by decide +kernel
theorem dL_law_618 : decode cL_law 618 = .ok (.ifCond .ne 15, 3) := by decide +kernel
theorem dL_law_621 : decode cL_law 621 = .ok (.aload_n 3, 1) := by decide +kernel
theorem dL_law_622 : decode cL_law 622 = .ok (.iconst 0, 1) := by decide +kernel
theorem dL_law_623 : decode cL_law 623 = .ok (.laload, 1) := by decide +kernel
theorem dL_law_624 : decode cL_law 624 = .ok (.iload 6, 2) := by decide +kernel
theorem dL_law_626 : decode cL_law 626 = .ok (.i2l, 1) := by decide +kernel
theorem dL_law_627 : decode cL_law 627 = .ok (.lcmp, 1) := by decide +kernel
theorem dL_law_628 : decode cL_law 628 = .ok (.ifCond .eq 5, 3) := by decide +kernel
theorem dL_law_631 : decode cL_law 631 = .ok (.iconst 0, 1) := by decide +kernel
theorem dL_law_632 : decode cL_law 632 = .ok (.ireturn, 1) := by decide +kernel
theorem dL_law_633 : decode cL_law 633 = .ok (.goto 834, 3) := by decide +kernel
theorem dL_law_636 : decode cL_law 636 = .ok (.aload_n 1, 1) := by decide +kernel
theorem dL_law_637 : decode cL_law 637 = .ok (.aload_n 0, 1) := by decide +kernel
theorem dL_law_638 : decode cL_law 638 = .ok (.iload 4, 2) := by decide +kernel
theorem dL_law_640 : decode cL_law 640 = .ok (.iconst 1, 1) := by decide +kernel
theorem dL_law_641 : decode cL_law 641 = .ok (.iadd, 1) := by decide +kernel
theorem dL_law_642 : decode cL_law 642 = .ok (.iaload, 1) := by decide +kernel
theorem dL_law_643 : decode cL_law 643 = .ok (.aload_n 0, 1) := by decide +kernel
theorem dL_law_644 : decode cL_law 644 = .ok (.iload 4, 2) := by decide +kernel
theorem dL_law_646 : decode cL_law 646 = .ok (.iconst 2, 1) := by decide +kernel
theorem dL_law_647 : decode cL_law 647 = .ok (.iadd, 1) := by decide +kernel
theorem dL_law_648 : decode cL_law 648 = .ok (.iaload, 1) := by decide +kernel
theorem dL_law_649 : decode cL_law 649 = .ok (.aload_n 0, 1) := by decide +kernel
theorem dL_law_650 : decode cL_law 650 = .ok (.iload 4, 2) := by decide +kernel
theorem dL_law_652 : decode cL_law 652 = .ok (.iconst 3, 1) := by decide +kernel
theorem dL_law_653 : decode cL_law 653 = .ok (.iadd, 1) := by decide +kernel
theorem dL_law_654 : decode cL_law 654 = .ok (.iaload, 1) := by decide +kernel
theorem dL_law_655 : decode cL_law 655 = .ok (.aload_n 3, 1) := by decide +kernel
theorem dL_law_656 : decode cL_law 656 = .ok (.invokestatic 107, 3) := by decide +kernel
theorem dL_law_659 : decode cL_law 659 = .ok (.istore 5, 2) := by decide +kernel
theorem dL_law_661 : decode cL_law 661 = .ok (.aload_n 2, 1) := by decide +kernel
theorem dL_law_662 : decode cL_law 662 = .ok (.aload_n 0, 1) := by decide +kernel
theorem dL_law_663 : decode cL_law 663 = .ok (.iload 4, 2) := by decide +kernel
theorem dL_law_665 : decode cL_law 665 = .ok (.iconst 1, 1) := by decide +kernel
theorem dL_law_666 : decode cL_law 666 = .ok (.iadd, 1) := by decide +kernel
theorem dL_law_667 : decode cL_law 667 = .ok (.iaload, 1) := by decide +kernel
theorem dL_law_668 : decode cL_law 668 = .ok (.aload_n 0, 1) := by decide +kernel
theorem dL_law_669 : decode cL_law 669 = .ok (.iload 4, 2) := by decide +kernel
theorem dL_law_671 : decode cL_law 671 = .ok (.iconst 2, 1) := by decide +kernel
theorem dL_law_672 : decode cL_law 672 = .ok (.iadd, 1) := by decide +kernel
theorem dL_law_673 : decode cL_law 673 = .ok (.iaload, 1) := by decide +kernel
theorem dL_law_674 : decode cL_law 674 = .ok (.aload_n 0, 1) := by decide +kernel
theorem dL_law_675 : decode cL_law 675 = .ok (.iload 4, 2) := by decide +kernel
theorem dL_law_677 : decode cL_law 677 = .ok (.iconst 3, 1) := by decide +kernel
theorem dL_law_678 : decode cL_law 678 = .ok (.iadd, 1) := by decide +kernel
theorem dL_law_679 : decode cL_law 679 = .ok (.iaload, 1) := by decide +kernel
theorem dL_law_680 : decode cL_law 680 = .ok (.invokevirtual 110, 3) := by decide +kernel
theorem dL_law_683 : decode cL_law 683 = .ok (.istore 6, 2) := by decide +kernel
theorem dL_law_685 : decode cL_law 685 = .ok (.aload_n 2, 1) := by decide +kernel
theorem dL_law_686 : decode cL_law 686 = .ok (.invokevirtual 83, 3) := by decide +kernel
theorem dL_law_689 : decode cL_law 689 = .ok (.iload 5, 2) := by decide +kernel
theorem dL_law_691 : decode cL_law 691 = .ok (.if_icmp .eq 5, 3) := by decide +kernel
theorem dL_law_694 : decode cL_law 694 = .ok (.iconst 0, 1) := by decide +kernel
theorem dL_law_695 : decode cL_law 695 = .ok (.ireturn, 1) := by decide +kernel
theorem dL_law_696 : decode cL_law 696 = .ok (.iload 5, 2) := by decide +kernel
theorem dL_law_698 : decode cL_law 698 = .ok (.ifCond .ne 15, 3) := by decide +kernel
theorem dL_law_701 : decode cL_law 701 = .ok (.aload_n 3, 1) := by decide +kernel
theorem dL_law_702 : decode cL_law 702 = .ok (.iconst 0, 1) := by decide +kernel
theorem dL_law_703 : decode cL_law 703 = .ok (.laload, 1) := by decide +kernel
theorem dL_law_704 : decode cL_law 704 = .ok (.iload 6, 2) := by decide +kernel
theorem dL_law_706 : decode cL_law 706 = .ok (.i2l, 1) := by decide +kernel
theorem dL_law_707 : decode cL_law 707 = .ok (.lcmp, 1) := by decide +kernel
theorem dL_law_708 : decode cL_law 708 = .ok (.ifCond .eq 5, 3) := by decide +kernel
theorem dL_law_711 : decode cL_law 711 = .ok (.iconst 0, 1) := by decide +kernel
theorem dL_law_712 : decode cL_law 712 = .ok (.ireturn, 1) := by decide +kernel
theorem dL_law_713 : decode cL_law 713 = .ok (.goto 754, 3) := by decide +kernel
theorem dL_law_716 : decode cL_law 716 = .ok (.aload_n 1, 1) := by decide +kernel
theorem dL_law_717 : decode cL_law 717 = .ok (.aload_n 0, 1) := by decide +kernel
theorem dL_law_718 : decode cL_law 718 = .ok (.iload 4, 2) := by decide +kernel
theorem dL_law_720 : decode cL_law 720 = .ok (.iconst 1, 1) := by decide +kernel
theorem dL_law_721 : decode cL_law 721 = .ok (.iadd, 1) := by decide +kernel
theorem dL_law_722 : decode cL_law 722 = .ok (.iaload, 1) := by decide +kernel
theorem dL_law_723 : decode cL_law 723 = .ok (.aload_n 3, 1) := by decide +kernel
theorem dL_law_724 : decode cL_law 724 = .ok (.invokestatic 111, 3) := by decide +kernel
theorem dL_law_727 : decode cL_law 727 = .ok (.istore 5, 2) := by decide +kernel
theorem dL_law_729 : decode cL_law 729 = .ok (.aload_n 2, 1) := by decide +kernel
theorem dL_law_730 : decode cL_law 730 = .ok (.aload_n 0, 1) := by decide +kernel
theorem dL_law_731 : decode cL_law 731 = .ok (.iload 4, 2) := by decide +kernel
theorem dL_law_733 : decode cL_law 733 = .ok (.iconst 1, 1) := by decide +kernel
theorem dL_law_734 : decode cL_law 734 = .ok (.iadd, 1) := by decide +kernel
theorem dL_law_735 : decode cL_law 735 = .ok (.iaload, 1) := by decide +kernel
theorem dL_law_736 : decode cL_law 736 = .ok (.invokevirtual 113, 3) := by decide +kernel
theorem dL_law_739 : decode cL_law 739 = .ok (.istore 6, 2) := by decide +kernel
theorem dL_law_741 : decode cL_law 741 = .ok (.aload_n 2, 1) := by decide +kernel
theorem dL_law_742 : decode cL_law 742 = .ok (.invokevirtual 83, 3) := by decide +kernel
theorem dL_law_745 : decode cL_law 745 = .ok (.iload 5, 2) := by decide +kernel
theorem dL_law_747 : decode cL_law 747 = .ok (.if_icmp .eq 5, 3) := by decide +kernel
theorem dL_law_750 : decode cL_law 750 = .ok (.iconst 0, 1) := by decide +kernel
theorem dL_law_751 : decode cL_law 751 = .ok (.ireturn, 1) := by decide +kernel
theorem dL_law_752 : decode cL_law 752 = .ok (.iload 5, 2) := by decide +kernel
theorem dL_law_754 : decode cL_law 754 = .ok (.ifCond .ne 15, 3) := by decide +kernel
theorem dL_law_757 : decode cL_law 757 = .ok (.aload_n 3, 1) := by decide +kernel
theorem dL_law_758 : decode cL_law 758 = .ok (.iconst 0, 1) := by decide +kernel
theorem dL_law_759 : decode cL_law 759 = .ok (.laload, 1) := by decide +kernel
theorem dL_law_760 : decode cL_law 760 = .ok (.iload 6, 2) := by decide +kernel
theorem dL_law_762 : decode cL_law 762 = .ok (.i2l, 1) := by decide +kernel
theorem dL_law_763 : decode cL_law 763 = .ok (.lcmp, 1) := by decide +kernel
theorem dL_law_764 : decode cL_law 764 = .ok (.ifCond .eq 5, 3) := by decide +kernel
theorem dL_law_767 : decode cL_law 767 = .ok (.iconst 0, 1) := by decide +kernel
theorem dL_law_768 : decode cL_law 768 = .ok (.ireturn, 1) := by decide +kernel
theorem dL_law_769 : decode cL_law 769 = .ok (.goto 698, 3) := by decide +kernel
theorem dL_law_772 : decode cL_law 772 = .ok (.aload_n 1, 1) := by decide +kernel
theorem dL_law_773 : decode cL_law 773 = .ok (.aload_n 0, 1) := by decide +kernel
theorem dL_law_774 : decode cL_law 774 = .ok (.iload 4, 2) := by decide +kernel
theorem dL_law_776 : decode cL_law 776 = .ok (.iconst 1, 1) := by decide +kernel
theorem dL_law_777 : decode cL_law 777 = .ok (.iadd, 1) := by decide +kernel
theorem dL_law_778 : decode cL_law 778 = .ok (.iaload, 1) := by decide +kernel
theorem dL_law_779 : decode cL_law 779 = .ok (.aload_n 0, 1) := by decide +kernel
theorem dL_law_780 : decode cL_law 780 = .ok (.iload 4, 2) := by decide +kernel
theorem dL_law_782 : decode cL_law 782 = .ok (.iconst 2, 1) := by decide +kernel
theorem dL_law_783 : decode cL_law 783 = .ok (.iadd, 1) := by decide +kernel
theorem dL_law_784 : decode cL_law 784 = .ok (.iaload, 1) := by decide +kernel
theorem dL_law_785 : decode cL_law 785 = .ok (.aload_n 0, 1) := by decide +kernel
theorem dL_law_786 : decode cL_law 786 = .ok (.iload 4, 2) := by decide +kernel
theorem dL_law_788 : decode cL_law 788 = .ok (.iconst 3, 1) := by decide +kernel
theorem dL_law_789 : decode cL_law 789 = .ok (.iadd, 1) := by decide +kernel
theorem dL_law_790 : decode cL_law 790 = .ok (.iaload, 1) := by decide +kernel
theorem dL_law_791 : decode cL_law 791 = .ok (.ifCond .eq 7, 3) := by decide +kernel
theorem dL_law_794 : decode cL_law 794 = .ok (.iconst 1, 1) := by decide +kernel
theorem dL_law_795 : decode cL_law 795 = .ok (.goto 4, 3) := by decide +kernel
theorem dL_law_798 : decode cL_law 798 = .ok (.iconst 0, 1) := by decide +kernel
theorem dL_law_799 : decode cL_law 799 = .ok (.aload_n 3, 1) := by decide +kernel
theorem dL_law_800 : decode cL_law 800 = .ok (.invokestatic 114, 3) := by decide +kernel
theorem dL_law_803 : decode cL_law 803 = .ok (.istore 5, 2) := by decide +kernel
theorem dL_law_805 : decode cL_law 805 = .ok (.aload_n 2, 1) := by decide +kernel
theorem dL_law_806 : decode cL_law 806 = .ok (.aload_n 0, 1) := by decide +kernel
theorem dL_law_807 : decode cL_law 807 = .ok (.iload 4, 2) := by decide +kernel
theorem dL_law_809 : decode cL_law 809 = .ok (.iconst 1, 1) := by decide +kernel
theorem dL_law_810 : decode cL_law 810 = .ok (.iadd, 1) := by decide +kernel
theorem dL_law_811 : decode cL_law 811 = .ok (.iaload, 1) := by decide +kernel
theorem dL_law_812 : decode cL_law 812 = .ok (.aload_n 0, 1) := by decide +kernel
theorem dL_law_813 : decode cL_law 813 = .ok (.iload 4, 2) := by decide +kernel
theorem dL_law_815 : decode cL_law 815 = .ok (.iconst 2, 1) := by decide +kernel
theorem dL_law_816 : decode cL_law 816 = .ok (.iadd, 1) := by decide +kernel
theorem dL_law_817 : decode cL_law 817 = .ok (.iaload, 1) := by decide +kernel
theorem dL_law_818 : decode cL_law 818 = .ok (.aload_n 0, 1) := by decide +kernel
theorem dL_law_819 : decode cL_law 819 = .ok (.iload 4, 2) := by decide +kernel
theorem dL_law_821 : decode cL_law 821 = .ok (.iconst 3, 1) := by decide +kernel
theorem dL_law_822 : decode cL_law 822 = .ok (.iadd, 1) := by decide +kernel
theorem dL_law_823 : decode cL_law 823 = .ok (.iaload, 1) := by decide +kernel
theorem dL_law_824 : decode cL_law 824 = .ok (.ifCond .eq 7, 3) := by decide +kernel
theorem dL_law_827 : decode cL_law 827 = .ok (.iconst 1, 1) := by decide +kernel
theorem dL_law_828 : decode cL_law 828 = .ok (.goto 4, 3) := by decide +kernel
theorem dL_law_831 : decode cL_law 831 = .ok (.iconst 0, 1) := by decide +kernel
theorem dL_law_832 : decode cL_law 832 = .ok (.invokevirtual 117, 3) := by decide +kernel
theorem dL_law_835 : decode cL_law 835 = .ok (.istore 6, 2) := by decide +kernel
theorem dL_law_837 : decode cL_law 837 = .ok (.aload_n 2, 1) := by decide +kernel
theorem dL_law_838 : decode cL_law 838 = .ok (.invokevirtual 83, 3) := by decide +kernel
theorem dL_law_841 : decode cL_law 841 = .ok (.iload 5, 2) := by decide +kernel
theorem dL_law_843 : decode cL_law 843 = .ok (.if_icmp .eq 5, 3) := by decide +kernel
theorem dL_law_846 : decode cL_law 846 = .ok (.iconst 0, 1) := by decide +kernel
theorem dL_law_847 : decode cL_law 847 = .ok (.ireturn, 1) := by decide +kernel
theorem dL_law_848 : decode cL_law 848 = .ok (.iload 5, 2) := by decide +kernel
theorem dL_law_850 : decode cL_law 850 = .ok (.ifCond .ne 22, 3) := by decide +kernel
theorem dL_law_853 : decode cL_law 853 = .ok (.aload_n 3, 1) := by decide +kernel
theorem dL_law_854 : decode cL_law 854 = .ok (.iconst 0, 1) := by decide +kernel
theorem dL_law_855 : decode cL_law 855 = .ok (.laload, 1) := by decide +kernel
theorem dL_law_856 : decode cL_law 856 = .ok (.iload 6, 2) := by decide +kernel
theorem dL_law_858 : decode cL_law 858 = .ok (.ifCond .eq 7, 3) := by decide +kernel
theorem dL_law_861 : decode cL_law 861 = .ok (.lconst 1, 1) := by decide +kernel
theorem dL_law_862 : decode cL_law 862 = .ok (.goto 4, 3) := by decide +kernel
theorem dL_law_865 : decode cL_law 865 = .ok (.lconst 0, 1) := by decide +kernel
theorem dL_law_866 : decode cL_law 866 = .ok (.lcmp, 1) := by decide +kernel
theorem dL_law_867 : decode cL_law 867 = .ok (.ifCond .eq 5, 3) := by decide +kernel
theorem dL_law_870 : decode cL_law 870 = .ok (.iconst 0, 1) := by decide +kernel
theorem dL_law_871 : decode cL_law 871 = .ok (.ireturn, 1) := by decide +kernel
theorem dL_law_872 : decode cL_law 872 = .ok (.goto 595, 3) := by decide +kernel
theorem dL_law_875 : decode cL_law 875 = .ok (.aload_n 1, 1) := by decide +kernel
theorem dL_law_876 : decode cL_law 876 = .ok (.aload_n 0, 1) := by decide +kernel
theorem dL_law_877 : decode cL_law 877 = .ok (.iload 4, 2) := by decide +kernel
theorem dL_law_879 : decode cL_law 879 = .ok (.iconst 1, 1) := by decide +kernel
theorem dL_law_880 : decode cL_law 880 = .ok (.iadd, 1) := by decide +kernel
theorem dL_law_881 : decode cL_law 881 = .ok (.iaload, 1) := by decide +kernel
theorem dL_law_882 : decode cL_law 882 = .ok (.aload_n 0, 1) := by decide +kernel
theorem dL_law_883 : decode cL_law 883 = .ok (.iload 4, 2) := by decide +kernel
theorem dL_law_885 : decode cL_law 885 = .ok (.iconst 2, 1) := by decide +kernel
theorem dL_law_886 : decode cL_law 886 = .ok (.iadd, 1) := by decide +kernel
theorem dL_law_887 : decode cL_law 887 = .ok (.iaload, 1) := by decide +kernel
theorem dL_law_888 : decode cL_law 888 = .ok (.aload_n 0, 1) := by decide +kernel
theorem dL_law_889 : decode cL_law 889 = .ok (.iload 4, 2) := by decide +kernel
theorem dL_law_891 : decode cL_law 891 = .ok (.iconst 3, 1) := by decide +kernel
theorem dL_law_892 : decode cL_law 892 = .ok (.iadd, 1) := by decide +kernel
theorem dL_law_893 : decode cL_law 893 = .ok (.iaload, 1) := by decide +kernel
theorem dL_law_894 : decode cL_law 894 = .ok (.aload_n 3, 1) := by decide +kernel
theorem dL_law_895 : decode cL_law 895 = .ok (.invokestatic 118, 3) := by decide +kernel
theorem dL_law_898 : decode cL_law 898 = .ok (.istore 5, 2) := by decide +kernel
theorem dL_law_900 : decode cL_law 900 = .ok (.aload_n 2, 1) := by decide +kernel
theorem dL_law_901 : decode cL_law 901 = .ok (.aload_n 0, 1) := by decide +kernel
theorem dL_law_902 : decode cL_law 902 = .ok (.iload 4, 2) := by decide +kernel
theorem dL_law_904 : decode cL_law 904 = .ok (.iconst 1, 1) := by decide +kernel
theorem dL_law_905 : decode cL_law 905 = .ok (.iadd, 1) := by decide +kernel
theorem dL_law_906 : decode cL_law 906 = .ok (.iaload, 1) := by decide +kernel
theorem dL_law_907 : decode cL_law 907 = .ok (.aload_n 0, 1) := by decide +kernel
theorem dL_law_908 : decode cL_law 908 = .ok (.iload 4, 2) := by decide +kernel
theorem dL_law_910 : decode cL_law 910 = .ok (.iconst 2, 1) := by decide +kernel
theorem dL_law_911 : decode cL_law 911 = .ok (.iadd, 1) := by decide +kernel
theorem dL_law_912 : decode cL_law 912 = .ok (.iaload, 1) := by decide +kernel
theorem dL_law_913 : decode cL_law 913 = .ok (.aload_n 0, 1) := by decide +kernel
theorem dL_law_914 : decode cL_law 914 = .ok (.iload 4, 2) := by decide +kernel
theorem dL_law_916 : decode cL_law 916 = .ok (.iconst 3, 1) := by decide +kernel
theorem dL_law_917 : decode cL_law 917 = .ok (.iadd, 1) := by decide +kernel
theorem dL_law_918 : decode cL_law 918 = .ok (.iaload, 1) := by decide +kernel
theorem dL_law_919 : decode cL_law 919 = .ok (.invokevirtual 120, 3) := by decide +kernel
theorem dL_law_922 : decode cL_law 922 = .ok (.istore 6, 2) := by decide +kernel
theorem dL_law_924 : decode cL_law 924 = .ok (.aload_n 2, 1) := by decide +kernel
theorem dL_law_925 : decode cL_law 925 = .ok (.invokevirtual 83, 3) := by decide +kernel
theorem dL_law_928 : decode cL_law 928 = .ok (.iload 5, 2) := by decide +kernel
theorem dL_law_930 : decode cL_law 930 = .ok (.if_icmp .eq 5, 3) := by decide +kernel
theorem dL_law_933 : decode cL_law 933 = .ok (.iconst 0, 1) := by decide +kernel
theorem dL_law_934 : decode cL_law 934 = .ok (.ireturn, 1) := by decide +kernel
theorem dL_law_935 : decode cL_law 935 = .ok (.iload 5, 2) := by decide +kernel
theorem dL_law_937 : decode cL_law 937 = .ok (.ifCond .ne 15, 3) := by decide +kernel
theorem dL_law_940 : decode cL_law 940 = .ok (.aload_n 3, 1) := by decide +kernel
theorem dL_law_941 : decode cL_law 941 = .ok (.iconst 0, 1) := by decide +kernel
theorem dL_law_942 : decode cL_law 942 = .ok (.laload, 1) := by decide +kernel
theorem dL_law_943 : decode cL_law 943 = .ok (.iload 6, 2) := by decide +kernel
theorem dL_law_945 : decode cL_law 945 = .ok (.i2l, 1) := by decide +kernel
theorem dL_law_946 : decode cL_law 946 = .ok (.lcmp, 1) := by decide +kernel
theorem dL_law_947 : decode cL_law 947 = .ok (.ifCond .eq 5, 3) := by decide +kernel
theorem dL_law_950 : decode cL_law 950 = .ok (.iconst 0, 1) := by decide +kernel
theorem dL_law_951 : decode cL_law 951 = .ok (.ireturn, 1) := by decide +kernel
theorem dL_law_952 : decode cL_law 952 = .ok (.goto 515, 3) := by decide +kernel
theorem dL_law_955 : decode cL_law 955 = .ok (.aload_n 1, 1) := by decide +kernel
theorem dL_law_956 : decode cL_law 956 = .ok (.aload_n 0, 1) := by decide +kernel
theorem dL_law_957 : decode cL_law 957 = .ok (.iload 4, 2) := by decide +kernel
theorem dL_law_959 : decode cL_law 959 = .ok (.iconst 1, 1) := by decide +kernel
theorem dL_law_960 : decode cL_law 960 = .ok (.iadd, 1) := by decide +kernel
theorem dL_law_961 : decode cL_law 961 = .ok (.iaload, 1) := by decide +kernel
theorem dL_law_962 : decode cL_law 962 = .ok (.aload_n 0, 1) := by decide +kernel
theorem dL_law_963 : decode cL_law 963 = .ok (.iload 4, 2) := by decide +kernel
theorem dL_law_965 : decode cL_law 965 = .ok (.iconst 2, 1) := by decide +kernel
theorem dL_law_966 : decode cL_law 966 = .ok (.iadd, 1) := by decide +kernel
theorem dL_law_967 : decode cL_law 967 = .ok (.iaload, 1) := by decide +kernel
theorem dL_law_968 : decode cL_law 968 = .ok (.aload_n 0, 1) := by decide +kernel
theorem dL_law_969 : decode cL_law 969 = .ok (.iload 4, 2) := by decide +kernel
theorem dL_law_971 : decode cL_law 971 = .ok (.iconst 3, 1) := by decide +kernel
theorem dL_law_972 : decode cL_law 972 = .ok (.iadd, 1) := by decide +kernel
theorem dL_law_973 : decode cL_law 973 = .ok (.iaload, 1) := by decide +kernel
theorem dL_law_974 : decode cL_law 974 = .ok (.aload_n 3, 1) := by decide +kernel
theorem dL_law_975 : decode cL_law 975 = .ok (.invokestatic 121, 3) := by decide +kernel
theorem dL_law_978 : decode cL_law 978 = .ok (.istore 5, 2) := by decide +kernel
theorem dL_law_980 : decode cL_law 980 = .ok (.aload_n 2, 1) := by decide +kernel
theorem dL_law_981 : decode cL_law 981 = .ok (.aload_n 0, 1) := by decide +kernel
theorem dL_law_982 : decode cL_law 982 = .ok (.iload 4, 2) := by decide +kernel
theorem dL_law_984 : decode cL_law 984 = .ok (.iconst 1, 1) := by decide +kernel
theorem dL_law_985 : decode cL_law 985 = .ok (.iadd, 1) := by decide +kernel
theorem dL_law_986 : decode cL_law 986 = .ok (.iaload, 1) := by decide +kernel
theorem dL_law_987 : decode cL_law 987 = .ok (.aload_n 0, 1) := by decide +kernel
theorem dL_law_988 : decode cL_law 988 = .ok (.iload 4, 2) := by decide +kernel
theorem dL_law_990 : decode cL_law 990 = .ok (.iconst 2, 1) := by decide +kernel
theorem dL_law_991 : decode cL_law 991 = .ok (.iadd, 1) := by decide +kernel
theorem dL_law_992 : decode cL_law 992 = .ok (.iaload, 1) := by decide +kernel
theorem dL_law_993 : decode cL_law 993 = .ok (.aload_n 0, 1) := by decide +kernel
theorem dL_law_994 : decode cL_law 994 = .ok (.iload 4, 2) := by decide +kernel
theorem dL_law_996 : decode cL_law 996 = .ok (.iconst 3, 1) := by decide +kernel
theorem dL_law_997 : decode cL_law 997 = .ok (.iadd, 1) := by decide +kernel
theorem dL_law_998 : decode cL_law 998 = .ok (.iaload, 1) := by decide +kernel
theorem dL_law_999 : decode cL_law 999 = .ok (.invokevirtual 123, 3) := by decide +kernel
theorem dL_law_1002 : decode cL_law 1002 = .ok (.istore 6, 2) := by decide +kernel
theorem dL_law_1004 : decode cL_law 1004 = .ok (.aload_n 2, 1) := by decide +kernel
theorem dL_law_1005 : decode cL_law 1005 = .ok (.invokevirtual 83, 3) := by decide +kernel
theorem dL_law_1008 : decode cL_law 1008 = .ok (.iload 5, 2) := by decide +kernel
theorem dL_law_1010 : decode cL_law 1010 = .ok (.if_icmp .eq 5, 3) := by decide +kernel
theorem dL_law_1013 : decode cL_law 1013 = .ok (.iconst 0, 1) := by decide +kernel
theorem dL_law_1014 : decode cL_law 1014 = .ok (.ireturn, 1) := by decide +kernel
theorem dL_law_1015 : decode cL_law 1015 = .ok (.iload 5, 2) := by decide +kernel
theorem dL_law_1017 : decode cL_law 1017 = .ok (.ifCond .ne 15, 3) := by decide +kernel
theorem dL_law_1020 : decode cL_law 1020 = .ok (.aload_n 3, 1) := by decide +kernel
theorem dL_law_1021 : decode cL_law 1021 = .ok (.iconst 0, 1) := by decide +kernel
theorem dL_law_1022 : decode cL_law 1022 = .ok (.laload, 1) := by decide +kernel
theorem dL_law_1023 : decode cL_law 1023 = .ok (.iload 6, 2) := by decide +kernel
theorem dL_law_1025 : decode cL_law 1025 = .ok (.i2l, 1) := by decide +kernel
theorem dL_law_1026 : decode cL_law 1026 = .ok (.lcmp, 1) := by decide +kernel
theorem dL_law_1027 : decode cL_law 1027 = .ok (.ifCond .eq 5, 3) := by decide +kernel
theorem dL_law_1030 : decode cL_law 1030 = .ok (.iconst 0, 1) := by decide +kernel
theorem dL_law_1031 : decode cL_law 1031 = .ok (.ireturn, 1) := by decide +kernel
theorem dL_law_1032 : decode cL_law 1032 = .ok (.goto 435, 3) := by decide +kernel
theorem dL_law_1035 : decode cL_law 1035 = .ok (.aload_n 1, 1) := by decide +kernel
theorem dL_law_1036 : decode cL_law 1036 = .ok (.aload_n 0, 1) := by decide +kernel
theorem dL_law_1037 : decode cL_law 1037 = .ok (.iload 4, 2) := by decide +kernel
theorem dL_law_1039 : decode cL_law 1039 = .ok (.iconst 1, 1) := by decide +kernel
theorem dL_law_1040 : decode cL_law 1040 = .ok (.iadd, 1) := by decide +kernel
theorem dL_law_1041 : decode cL_law 1041 = .ok (.iaload, 1) := by decide +kernel
theorem dL_law_1042 : decode cL_law 1042 = .ok (.aload_n 0, 1) := by decide +kernel
theorem dL_law_1043 : decode cL_law 1043 = .ok (.iload 4, 2) := by decide +kernel
theorem dL_law_1045 : decode cL_law 1045 = .ok (.iconst 2, 1) := by decide +kernel
theorem dL_law_1046 : decode cL_law 1046 = .ok (.iadd, 1) := by decide +kernel
theorem dL_law_1047 : decode cL_law 1047 = .ok (.iaload, 1) := by decide +kernel
theorem dL_law_1048 : decode cL_law 1048 = .ok (.aload_n 3, 1) := by decide +kernel
theorem dL_law_1049 : decode cL_law 1049 = .ok (.invokestatic 124, 3) := by decide +kernel
theorem dL_law_1052 : decode cL_law 1052 = .ok (.istore 5, 2) := by decide +kernel
theorem dL_law_1054 : decode cL_law 1054 = .ok (.aload_n 2, 1) := by decide +kernel
theorem dL_law_1055 : decode cL_law 1055 = .ok (.aload_n 0, 1) := by decide +kernel
theorem dL_law_1056 : decode cL_law 1056 = .ok (.iload 4, 2) := by decide +kernel
theorem dL_law_1058 : decode cL_law 1058 = .ok (.iconst 1, 1) := by decide +kernel
theorem dL_law_1059 : decode cL_law 1059 = .ok (.iadd, 1) := by decide +kernel
theorem dL_law_1060 : decode cL_law 1060 = .ok (.iaload, 1) := by decide +kernel
theorem dL_law_1061 : decode cL_law 1061 = .ok (.aload_n 0, 1) := by decide +kernel
theorem dL_law_1062 : decode cL_law 1062 = .ok (.iload 4, 2) := by decide +kernel
theorem dL_law_1064 : decode cL_law 1064 = .ok (.iconst 2, 1) := by decide +kernel
theorem dL_law_1065 : decode cL_law 1065 = .ok (.iadd, 1) := by decide +kernel
theorem dL_law_1066 : decode cL_law 1066 = .ok (.iaload, 1) := by decide +kernel
theorem dL_law_1067 : decode cL_law 1067 = .ok (.invokevirtual 126, 3) := by decide +kernel
theorem dL_law_1070 : decode cL_law 1070 = .ok (.istore 6, 2) := by decide +kernel
theorem dL_law_1072 : decode cL_law 1072 = .ok (.aload_n 2, 1) := by decide +kernel
theorem dL_law_1073 : decode cL_law 1073 = .ok (.invokevirtual 83, 3) := by decide +kernel
theorem dL_law_1076 : decode cL_law 1076 = .ok (.iload 5, 2) := by decide +kernel
theorem dL_law_1078 : decode cL_law 1078 = .ok (.if_icmp .eq 5, 3) := by decide +kernel
theorem dL_law_1081 : decode cL_law 1081 = .ok (.iconst 0, 1) := by decide +kernel
theorem dL_law_1082 : decode cL_law 1082 = .ok (.ireturn, 1) := by decide +kernel
theorem dL_law_1083 : decode cL_law 1083 = .ok (.iload 5, 2) := by decide +kernel
theorem dL_law_1085 : decode cL_law 1085 = .ok (.ifCond .ne 15, 3) := by decide +kernel
theorem dL_law_1088 : decode cL_law 1088 = .ok (.aload_n 3, 1) := by decide +kernel
theorem dL_law_1089 : decode cL_law 1089 = .ok (.iconst 0, 1) := by decide +kernel
theorem dL_law_1090 : decode cL_law 1090 = .ok (.laload, 1) := by decide +kernel
theorem dL_law_1091 : decode cL_law 1091 = .ok (.iload 6, 2) := by decide +kernel
theorem dL_law_1093 : decode cL_law 1093 = .ok (.i2l, 1) := by decide +kernel
theorem dL_law_1094 : decode cL_law 1094 = .ok (.lcmp, 1) := by decide +kernel
theorem dL_law_1095 : decode cL_law 1095 = .ok (.ifCond .eq 5, 3) := by decide +kernel
theorem dL_law_1098 : decode cL_law 1098 = .ok (.iconst 0, 1) := by decide +kernel
theorem dL_law_1099 : decode cL_law 1099 = .ok (.ireturn, 1) := by decide +kernel
theorem dL_law_1100 : decode cL_law 1100 = .ok (.goto 367, 3) := by decide +kernel
theorem dL_law_1103 : decode cL_law 1103 = .ok (.aload_n 1, 1) := by decide +kernel
theorem dL_law_1104 : decode cL_law 1104 = .ok (.aload_n 0, 1) := by decide +kernel
theorem dL_law_1105 : decode cL_law 1105 = .ok (.iload 4, 2) := by decide +kernel
theorem dL_law_1107 : decode cL_law 1107 = .ok (.iconst 1, 1) := by decide +kernel
theorem dL_law_1108 : decode cL_law 1108 = .ok (.iadd, 1) := by decide +kernel
theorem dL_law_1109 : decode cL_law 1109 = .ok (.iaload, 1) := by decide +kernel
theorem dL_law_1110 : decode cL_law 1110 = .ok (.aload_n 0, 1) := by decide +kernel
theorem dL_law_1111 : decode cL_law 1111 = .ok (.iload 4, 2) := by decide +kernel
theorem dL_law_1113 : decode cL_law 1113 = .ok (.iconst 2, 1) := by decide +kernel
theorem dL_law_1114 : decode cL_law 1114 = .ok (.iadd, 1) := by decide +kernel
theorem dL_law_1115 : decode cL_law 1115 = .ok (.iaload, 1) := by decide +kernel
theorem dL_law_1116 : decode cL_law 1116 = .ok (.aload_n 3, 1) := by decide +kernel
theorem dL_law_1117 : decode cL_law 1117 = .ok (.invokestatic 127, 3) := by decide +kernel
theorem dL_law_1120 : decode cL_law 1120 = .ok (.istore 5, 2) := by decide +kernel
theorem dL_law_1122 : decode cL_law 1122 = .ok (.aload_n 2, 1) := by decide +kernel
theorem dL_law_1123 : decode cL_law 1123 = .ok (.aload_n 0, 1) := by decide +kernel
theorem dL_law_1124 : decode cL_law 1124 = .ok (.iload 4, 2) := by decide +kernel
theorem dL_law_1126 : decode cL_law 1126 = .ok (.iconst 1, 1) := by decide +kernel
theorem dL_law_1127 : decode cL_law 1127 = .ok (.iadd, 1) := by decide +kernel
theorem dL_law_1128 : decode cL_law 1128 = .ok (.iaload, 1) := by decide +kernel
theorem dL_law_1129 : decode cL_law 1129 = .ok (.aload_n 0, 1) := by decide +kernel
theorem dL_law_1130 : decode cL_law 1130 = .ok (.iload 4, 2) := by decide +kernel
theorem dL_law_1132 : decode cL_law 1132 = .ok (.iconst 2, 1) := by decide +kernel
theorem dL_law_1133 : decode cL_law 1133 = .ok (.iadd, 1) := by decide +kernel
theorem dL_law_1134 : decode cL_law 1134 = .ok (.iaload, 1) := by decide +kernel
theorem dL_law_1135 : decode cL_law 1135 = .ok (.invokevirtual 129, 3) := by decide +kernel
theorem dL_law_1138 : decode cL_law 1138 = .ok (.istore 6, 2) := by decide +kernel
theorem dL_law_1140 : decode cL_law 1140 = .ok (.aload_n 2, 1) := by decide +kernel
theorem dL_law_1141 : decode cL_law 1141 = .ok (.invokevirtual 83, 3) := by decide +kernel
theorem dL_law_1144 : decode cL_law 1144 = .ok (.iload 5, 2) := by decide +kernel
theorem dL_law_1146 : decode cL_law 1146 = .ok (.if_icmp .eq 5, 3) := by decide +kernel
theorem dL_law_1149 : decode cL_law 1149 = .ok (.iconst 0, 1) := by decide +kernel
theorem dL_law_1150 : decode cL_law 1150 = .ok (.ireturn, 1) := by decide +kernel
theorem dL_law_1151 : decode cL_law 1151 = .ok (.iload 5, 2) := by decide +kernel
theorem dL_law_1153 : decode cL_law 1153 = .ok (.ifCond .ne 15, 3) := by decide +kernel
theorem dL_law_1156 : decode cL_law 1156 = .ok (.aload_n 3, 1) := by decide +kernel
theorem dL_law_1157 : decode cL_law 1157 = .ok (.iconst 0, 1) := by decide +kernel
theorem dL_law_1158 : decode cL_law 1158 = .ok (.laload, 1) := by decide +kernel
theorem dL_law_1159 : decode cL_law 1159 = .ok (.iload 6, 2) := by decide +kernel
theorem dL_law_1161 : decode cL_law 1161 = .ok (.i2l, 1) := by decide +kernel
theorem dL_law_1162 : decode cL_law 1162 = .ok (.lcmp, 1) := by decide +kernel
theorem dL_law_1163 : decode cL_law 1163 = .ok (.ifCond .eq 5, 3) := by decide +kernel
theorem dL_law_1166 : decode cL_law 1166 = .ok (.iconst 0, 1) := by decide +kernel
theorem dL_law_1167 : decode cL_law 1167 = .ok (.ireturn, 1) := by decide +kernel
theorem dL_law_1168 : decode cL_law 1168 = .ok (.goto 299, 3) := by decide +kernel
theorem dL_law_1171 : decode cL_law 1171 = .ok (.aload_n 1, 1) := by decide +kernel
theorem dL_law_1172 : decode cL_law 1172 = .ok (.invokevirtual 130, 3) := by decide +kernel
theorem dL_law_1175 : decode cL_law 1175 = .ok (.aload_n 2, 1) := by decide +kernel
theorem dL_law_1176 : decode cL_law 1176 = .ok (.invokevirtual 133, 3) := by decide +kernel
theorem dL_law_1179 : decode cL_law 1179 = .ok (.if_icmp .eq 288, 3) := by decide +kernel
theorem dL_law_1182 : decode cL_law 1182 = .ok (.iconst 0, 1) := by decide +kernel
theorem dL_law_1183 : decode cL_law 1183 = .ok (.ireturn, 1) := by decide +kernel
theorem dL_law_1184 : decode cL_law 1184 = .ok (.aload_n 1, 1) := by decide +kernel
theorem dL_law_1185 : decode cL_law 1185 = .ok (.aload_n 0, 1) := by decide +kernel
theorem dL_law_1186 : decode cL_law 1186 = .ok (.iload 4, 2) := by decide +kernel
theorem dL_law_1188 : decode cL_law 1188 = .ok (.iconst 1, 1) := by decide +kernel
theorem dL_law_1189 : decode cL_law 1189 = .ok (.iadd, 1) := by decide +kernel
theorem dL_law_1190 : decode cL_law 1190 = .ok (.iaload, 1) := by decide +kernel
theorem dL_law_1191 : decode cL_law 1191 = .ok (.aload_n 0, 1) := by decide +kernel
theorem dL_law_1192 : decode cL_law 1192 = .ok (.iload 4, 2) := by decide +kernel
theorem dL_law_1194 : decode cL_law 1194 = .ok (.iconst 2, 1) := by decide +kernel
theorem dL_law_1195 : decode cL_law 1195 = .ok (.iadd, 1) := by decide +kernel
theorem dL_law_1196 : decode cL_law 1196 = .ok (.iaload, 1) := by decide +kernel
theorem dL_law_1197 : decode cL_law 1197 = .ok (.aload_n 0, 1) := by decide +kernel
theorem dL_law_1198 : decode cL_law 1198 = .ok (.iload 4, 2) := by decide +kernel
theorem dL_law_1200 : decode cL_law 1200 = .ok (.iconst 3, 1) := by decide +kernel
theorem dL_law_1201 : decode cL_law 1201 = .ok (.iadd, 1) := by decide +kernel
theorem dL_law_1202 : decode cL_law 1202 = .ok (.iaload, 1) := by decide +kernel
theorem dL_law_1203 : decode cL_law 1203 = .ok (.aload_n 3, 1) := by decide +kernel
theorem dL_law_1204 : decode cL_law 1204 = .ok (.invokestatic 134, 3) := by decide +kernel
theorem dL_law_1207 : decode cL_law 1207 = .ok (.istore 5, 2) := by decide +kernel
theorem dL_law_1209 : decode cL_law 1209 = .ok (.aload_n 2, 1) := by decide +kernel
theorem dL_law_1210 : decode cL_law 1210 = .ok (.aload_n 0, 1) := by decide +kernel
theorem dL_law_1211 : decode cL_law 1211 = .ok (.iload 4, 2) := by decide +kernel
theorem dL_law_1213 : decode cL_law 1213 = .ok (.iconst 1, 1) := by decide +kernel
theorem dL_law_1214 : decode cL_law 1214 = .ok (.iadd, 1) := by decide +kernel
theorem dL_law_1215 : decode cL_law 1215 = .ok (.iaload, 1) := by decide +kernel
theorem dL_law_1216 : decode cL_law 1216 = .ok (.aload_n 0, 1) := by decide +kernel
theorem dL_law_1217 : decode cL_law 1217 = .ok (.iload 4, 2) := by decide +kernel
theorem dL_law_1219 : decode cL_law 1219 = .ok (.iconst 2, 1) := by decide +kernel
theorem dL_law_1220 : decode cL_law 1220 = .ok (.iadd, 1) := by decide +kernel
theorem dL_law_1221 : decode cL_law 1221 = .ok (.iaload, 1) := by decide +kernel
theorem dL_law_1222 : decode cL_law 1222 = .ok (.aload_n 0, 1) := by decide +kernel
theorem dL_law_1223 : decode cL_law 1223 = .ok (.iload 4, 2) := by decide +kernel
theorem dL_law_1225 : decode cL_law 1225 = .ok (.iconst 3, 1) := by decide +kernel
theorem dL_law_1226 : decode cL_law 1226 = .ok (.iadd, 1) := by decide +kernel
theorem dL_law_1227 : decode cL_law 1227 = .ok (.iaload, 1) := by decide +kernel
theorem dL_law_1228 : decode cL_law 1228 = .ok (.invokevirtual 136, 3) := by decide +kernel
theorem dL_law_1231 : decode cL_law 1231 = .ok (.istore 6, 2) := by decide +kernel
theorem dL_law_1233 : decode cL_law 1233 = .ok (.aload_n 2, 1) := by decide +kernel
theorem dL_law_1234 : decode cL_law 1234 = .ok (.invokevirtual 83, 3) := by decide +kernel
theorem dL_law_1237 : decode cL_law 1237 = .ok (.iload 5, 2) := by decide +kernel
theorem dL_law_1239 : decode cL_law 1239 = .ok (.if_icmp .eq 5, 3) := by decide +kernel
theorem dL_law_1242 : decode cL_law 1242 = .ok (.iconst 0, 1) := by decide +kernel
theorem dL_law_1243 : decode cL_law 1243 = .ok (.ireturn, 1) := by decide +kernel
theorem dL_law_1244 : decode cL_law 1244 = .ok (.iload 5, 2) := by decide +kernel
theorem dL_law_1246 : decode cL_law 1246 = .ok (.ifCond .ne 15, 3) := by decide +kernel
theorem dL_law_1249 : decode cL_law 1249 = .ok (.aload_n 3, 1) := by decide +kernel
theorem dL_law_1250 : decode cL_law 1250 = .ok (.iconst 0, 1) := by decide +kernel
theorem dL_law_1251 : decode cL_law 1251 = .ok (.laload, 1) := by decide +kernel
theorem dL_law_1252 : decode cL_law 1252 = .ok (.iload 6, 2) := by decide +kernel
theorem dL_law_1254 : decode cL_law 1254 = .ok (.i2l, 1) := by decide +kernel
theorem dL_law_1255 : decode cL_law 1255 = .ok (.lcmp, 1) := by decide +kernel
theorem dL_law_1256 : decode cL_law 1256 = .ok (.ifCond .eq 5, 3) := by decide +kernel
theorem dL_law_1259 : decode cL_law 1259 = .ok (.iconst 0, 1) := by decide +kernel
theorem dL_law_1260 : decode cL_law 1260 = .ok (.ireturn, 1) := by decide +kernel
theorem dL_law_1261 : decode cL_law 1261 = .ok (.goto 206, 3) := by decide +kernel
theorem dL_law_1264 : decode cL_law 1264 = .ok (.aload_n 1, 1) := by decide +kernel
theorem dL_law_1265 : decode cL_law 1265 = .ok (.aload_n 0, 1) := by decide +kernel
theorem dL_law_1266 : decode cL_law 1266 = .ok (.iload 4, 2) := by decide +kernel
theorem dL_law_1268 : decode cL_law 1268 = .ok (.iconst 1, 1) := by decide +kernel
theorem dL_law_1269 : decode cL_law 1269 = .ok (.iadd, 1) := by decide +kernel
theorem dL_law_1270 : decode cL_law 1270 = .ok (.iaload, 1) := by decide +kernel
theorem dL_law_1271 : decode cL_law 1271 = .ok (.aload_n 0, 1) := by decide +kernel
theorem dL_law_1272 : decode cL_law 1272 = .ok (.iload 4, 2) := by decide +kernel
theorem dL_law_1274 : decode cL_law 1274 = .ok (.iconst 2, 1) := by decide +kernel
theorem dL_law_1275 : decode cL_law 1275 = .ok (.iadd, 1) := by decide +kernel
theorem dL_law_1276 : decode cL_law 1276 = .ok (.iaload, 1) := by decide +kernel
theorem dL_law_1277 : decode cL_law 1277 = .ok (.aload_n 3, 1) := by decide +kernel
theorem dL_law_1278 : decode cL_law 1278 = .ok (.invokestatic 137, 3) := by decide +kernel
theorem dL_law_1281 : decode cL_law 1281 = .ok (.istore 5, 2) := by decide +kernel
theorem dL_law_1283 : decode cL_law 1283 = .ok (.aload_n 2, 1) := by decide +kernel
theorem dL_law_1284 : decode cL_law 1284 = .ok (.aload_n 0, 1) := by decide +kernel
theorem dL_law_1285 : decode cL_law 1285 = .ok (.iload 4, 2) := by decide +kernel
theorem dL_law_1287 : decode cL_law 1287 = .ok (.iconst 1, 1) := by decide +kernel
theorem dL_law_1288 : decode cL_law 1288 = .ok (.iadd, 1) := by decide +kernel
theorem dL_law_1289 : decode cL_law 1289 = .ok (.iaload, 1) := by decide +kernel
theorem dL_law_1290 : decode cL_law 1290 = .ok (.aload_n 0, 1) := by decide +kernel
theorem dL_law_1291 : decode cL_law 1291 = .ok (.iload 4, 2) := by decide +kernel
theorem dL_law_1293 : decode cL_law 1293 = .ok (.iconst 2, 1) := by decide +kernel
theorem dL_law_1294 : decode cL_law 1294 = .ok (.iadd, 1) := by decide +kernel
theorem dL_law_1295 : decode cL_law 1295 = .ok (.iaload, 1) := by decide +kernel
theorem dL_law_1296 : decode cL_law 1296 = .ok (.invokevirtual 139, 3) := by decide +kernel
theorem dL_law_1299 : decode cL_law 1299 = .ok (.istore 6, 2) := by decide +kernel
theorem dL_law_1301 : decode cL_law 1301 = .ok (.aload_n 2, 1) := by decide +kernel
theorem dL_law_1302 : decode cL_law 1302 = .ok (.invokevirtual 83, 3) := by decide +kernel
theorem dL_law_1305 : decode cL_law 1305 = .ok (.iload 5, 2) := by decide +kernel
theorem dL_law_1307 : decode cL_law 1307 = .ok (.if_icmp .eq 5, 3) := by decide +kernel
theorem dL_law_1310 : decode cL_law 1310 = .ok (.iconst 0, 1) := by decide +kernel
theorem dL_law_1311 : decode cL_law 1311 = .ok (.ireturn, 1) := by decide +kernel
theorem dL_law_1312 : decode cL_law 1312 = .ok (.iload 5, 2) := by decide +kernel
theorem dL_law_1314 : decode cL_law 1314 = .ok (.ifCond .ne 15, 3) := by decide +kernel
theorem dL_law_1317 : decode cL_law 1317 = .ok (.aload_n 3, 1) := by decide +kernel
theorem dL_law_1318 : decode cL_law 1318 = .ok (.iconst 0, 1) := by decide +kernel
theorem dL_law_1319 : decode cL_law 1319 = .ok (.laload, 1) := by decide +kernel
theorem dL_law_1320 : decode cL_law 1320 = .ok (.iload 6, 2) := by decide +kernel
theorem dL_law_1322 : decode cL_law 1322 = .ok (.i2l, 1) := by decide +kernel
theorem dL_law_1323 : decode cL_law 1323 = .ok (.lcmp, 1) := by decide +kernel
theorem dL_law_1324 : decode cL_law 1324 = .ok (.ifCond .eq 5, 3) := by decide +kernel
theorem dL_law_1327 : decode cL_law 1327 = .ok (.iconst 0, 1) := by decide +kernel
theorem dL_law_1328 : decode cL_law 1328 = .ok (.ireturn, 1) := by decide +kernel
theorem dL_law_1329 : decode cL_law 1329 = .ok (.goto 138, 3) := by decide +kernel
theorem dL_law_1332 : decode cL_law 1332 = .ok (.aload_n 1, 1) := by decide +kernel
theorem dL_law_1333 : decode cL_law 1333 = .ok (.invokevirtual 140, 3) := by decide +kernel
theorem dL_law_1336 : decode cL_law 1336 = .ok (.aload_n 2, 1) := by decide +kernel
theorem dL_law_1337 : decode cL_law 1337 = .ok (.invokevirtual 143, 3) := by decide +kernel
theorem dL_law_1340 : decode cL_law 1340 = .ok (.if_icmp .eq 127, 3) := by decide +kernel
theorem dL_law_1343 : decode cL_law 1343 = .ok (.iconst 0, 1) := by decide +kernel
theorem dL_law_1344 : decode cL_law 1344 = .ok (.ireturn, 1) := by decide +kernel
theorem dL_law_1345 : decode cL_law 1345 = .ok (.aload_n 1, 1) := by decide +kernel
theorem dL_law_1346 : decode cL_law 1346 = .ok (.aload_n 0, 1) := by decide +kernel
theorem dL_law_1347 : decode cL_law 1347 = .ok (.iload 4, 2) := by decide +kernel
theorem dL_law_1349 : decode cL_law 1349 = .ok (.iconst 1, 1) := by decide +kernel
theorem dL_law_1350 : decode cL_law 1350 = .ok (.iadd, 1) := by decide +kernel
theorem dL_law_1351 : decode cL_law 1351 = .ok (.iaload, 1) := by decide +kernel
theorem dL_law_1352 : decode cL_law 1352 = .ok (.aload_n 0, 1) := by decide +kernel
theorem dL_law_1353 : decode cL_law 1353 = .ok (.iload 4, 2) := by decide +kernel
theorem dL_law_1355 : decode cL_law 1355 = .ok (.iconst 2, 1) := by decide +kernel
theorem dL_law_1356 : decode cL_law 1356 = .ok (.iadd, 1) := by decide +kernel
theorem dL_law_1357 : decode cL_law 1357 = .ok (.iaload, 1) := by decide +kernel
theorem dL_law_1358 : decode cL_law 1358 = .ok (.aload_n 3, 1) := by decide +kernel
theorem dL_law_1359 : decode cL_law 1359 = .ok (.invokestatic 144, 3) := by decide +kernel
theorem dL_law_1362 : decode cL_law 1362 = .ok (.istore 5, 2) := by decide +kernel
theorem dL_law_1364 : decode cL_law 1364 = .ok (.aload_n 2, 1) := by decide +kernel
theorem dL_law_1365 : decode cL_law 1365 = .ok (.aload_n 0, 1) := by decide +kernel
theorem dL_law_1366 : decode cL_law 1366 = .ok (.iload 4, 2) := by decide +kernel
theorem dL_law_1368 : decode cL_law 1368 = .ok (.iconst 1, 1) := by decide +kernel
theorem dL_law_1369 : decode cL_law 1369 = .ok (.iadd, 1) := by decide +kernel
theorem dL_law_1370 : decode cL_law 1370 = .ok (.iaload, 1) := by decide +kernel
theorem dL_law_1371 : decode cL_law 1371 = .ok (.aload_n 0, 1) := by decide +kernel
theorem dL_law_1372 : decode cL_law 1372 = .ok (.iload 4, 2) := by decide +kernel
theorem dL_law_1374 : decode cL_law 1374 = .ok (.iconst 2, 1) := by decide +kernel
theorem dL_law_1375 : decode cL_law 1375 = .ok (.iadd, 1) := by decide +kernel
theorem dL_law_1376 : decode cL_law 1376 = .ok (.iaload, 1) := by decide +kernel
theorem dL_law_1377 : decode cL_law 1377 = .ok (.invokevirtual 146, 3) := by decide +kernel
theorem dL_law_1380 : decode cL_law 1380 = .ok (.lstore 6, 2) := by decide +kernel
theorem dL_law_1382 : decode cL_law 1382 = .ok (.aload_n 2, 1) := by decide +kernel
theorem dL_law_1383 : decode cL_law 1383 = .ok (.invokevirtual 83, 3) := by decide +kernel
theorem dL_law_1386 : decode cL_law 1386 = .ok (.iload 5, 2) := by decide +kernel
theorem dL_law_1388 : decode cL_law 1388 = .ok (.if_icmp .eq 5, 3) := by decide +kernel
theorem dL_law_1391 : decode cL_law 1391 = .ok (.iconst 0, 1) := by decide +kernel
theorem dL_law_1392 : decode cL_law 1392 = .ok (.ireturn, 1) := by decide +kernel
theorem dL_law_1393 : decode cL_law 1393 = .ok (.iload 5, 2) := by decide +kernel
theorem dL_law_1395 : decode cL_law 1395 = .ok (.ifCond .ne 14, 3) := by decide +kernel
theorem dL_law_1398 : decode cL_law 1398 = .ok (.aload_n 3, 1) := by decide +kernel
theorem dL_law_1399 : decode cL_law 1399 = .ok (.iconst 0, 1) := by decide +kernel
theorem dL_law_1400 : decode cL_law 1400 = .ok (.laload, 1) := by decide +kernel
theorem dL_law_1401 : decode cL_law 1401 = .ok (.lload 6, 2) := by decide +kernel
theorem dL_law_1403 : decode cL_law 1403 = .ok (.lcmp, 1) := by decide +kernel
theorem dL_law_1404 : decode cL_law 1404 = .ok (.ifCond .eq 5, 3) := by decide +kernel
theorem dL_law_1407 : decode cL_law 1407 = .ok (.iconst 0, 1) := by decide +kernel
theorem dL_law_1408 : decode cL_law 1408 = .ok (.ireturn, 1) := by decide +kernel
theorem dL_law_1409 : decode cL_law 1409 = .ok (.goto 58, 3) := by decide +kernel
theorem dL_law_1412 : decode cL_law 1412 = .ok (.aload_n 1, 1) := by decide +kernel
theorem dL_law_1413 : decode cL_law 1413 = .ok (.invokevirtual 147, 3) := by decide +kernel
theorem dL_law_1416 : decode cL_law 1416 = .ok (.dstore 5, 2) := by decide +kernel
theorem dL_law_1418 : decode cL_law 1418 = .ok (.aload_n 2, 1) := by decide +kernel
theorem dL_law_1419 : decode cL_law 1419 = .ok (.invokevirtual 151, 3) := by decide +kernel
theorem dL_law_1422 : decode cL_law 1422 = .ok (.dstore 7, 2) := by decide +kernel
theorem dL_law_1424 : decode cL_law 1424 = .ok (.dload 5, 2) := by decide +kernel
theorem dL_law_1426 : decode cL_law 1426 = .ok (.dload 7, 2) := by decide +kernel
theorem dL_law_1428 : decode cL_law 1428 = .ok (.dcmp .l, 1) := by decide +kernel
theorem dL_law_1429 : decode cL_law 1429 = .ok (.ifCond .eq 21, 3) := by decide +kernel
theorem dL_law_1432 : decode cL_law 1432 = .ok (.dload 5, 2) := by decide +kernel
theorem dL_law_1434 : decode cL_law 1434 = .ok (.dload 5, 2) := by decide +kernel
theorem dL_law_1436 : decode cL_law 1436 = .ok (.dcmp .l, 1) := by decide +kernel
theorem dL_law_1437 : decode cL_law 1437 = .ok (.ifCond .eq 11, 3) := by decide +kernel
theorem dL_law_1440 : decode cL_law 1440 = .ok (.dload 7, 2) := by decide +kernel
theorem dL_law_1442 : decode cL_law 1442 = .ok (.dload 7, 2) := by decide +kernel
theorem dL_law_1444 : decode cL_law 1444 = .ok (.dcmp .l, 1) := by decide +kernel
theorem dL_law_1445 : decode cL_law 1445 = .ok (.ifCond .ne 5, 3) := by decide +kernel
theorem dL_law_1448 : decode cL_law 1448 = .ok (.iconst 0, 1) := by decide +kernel
theorem dL_law_1449 : decode cL_law 1449 = .ok (.ireturn, 1) := by decide +kernel
theorem dL_law_1450 : decode cL_law 1450 = .ok (.goto 17, 3) := by decide +kernel
theorem dL_law_1453 : decode cL_law 1453 = .ok (.aload_n 1, 1) := by decide +kernel
theorem dL_law_1454 : decode cL_law 1454 = .ok (.invokevirtual 152, 3) := by decide +kernel
theorem dL_law_1457 : decode cL_law 1457 = .ok (.aload_n 2, 1) := by decide +kernel
theorem dL_law_1458 : decode cL_law 1458 = .ok (.invokevirtual 156, 3) := by decide +kernel
theorem dL_law_1461 : decode cL_law 1461 = .ok (.lcmp, 1) := by decide +kernel
theorem dL_law_1462 : decode cL_law 1462 = .ok (.ifCond .eq 5, 3) := by decide +kernel
theorem dL_law_1465 : decode cL_law 1465 = .ok (.iconst 0, 1) := by decide +kernel
theorem dL_law_1466 : decode cL_law 1466 = .ok (.ireturn, 1) := by decide +kernel
theorem dL_law_1467 : decode cL_law 1467 = .ok (.iinc 4 8, 3) := by decide +kernel
theorem dL_law_1470 : decode cL_law 1470 = .ok (.goto (-1447), 3) := by decide +kernel
theorem dL_law_1473 : decode cL_law 1473 = .ok (.iconst 1, 1) := by decide +kernel
theorem dL_law_1474 : decode cL_law 1474 = .ok (.ireturn, 1) := by decide +kernel
end
section
theorem q_ini_RL : Cond.initialized RL ∈ lw_all := lw_all_t 0 (by decide +kernel) (by decide +kernel)
theorem q_ini_RX2 : Cond.initialized RX2 ∈ lw_all := lw_all_t 1 (by decide +kernel) (by decide +kernel)
theorem q_ini_RX0 : Cond.initialized RX0 ∈ lw_all := lw_all_t 2 (by decide +kernel) (by decide +kernel)
theorem q_ini_RX1 : Cond.initialized RX1 ∈ lw_all := lw_all_t 3 (by decide +kernel) (by decide +kernel)
theorem q_ini_RX3 : Cond.initialized RX3 ∈ lw_all := lw_all_t 4 (by decide +kernel) (by decide +kernel)
theorem q_ini_java_lang_Throwable : Cond.initialized "java/lang/Throwable" ∈ lw_all := lw_all_t 5 (by decide +kernel) (by decide +kernel)
theorem q_ini_java_lang_Exception : Cond.initialized "java/lang/Exception" ∈ lw_all := lw_all_t 6 (by decide +kernel) (by decide +kernel)
theorem q_ini_java_lang_RuntimeException : Cond.initialized "java/lang/RuntimeException" ∈ lw_all := lw_all_t 7 (by decide +kernel) (by decide +kernel)
theorem q_ini_java_lang_IllegalArgumentException : Cond.initialized "java/lang/IllegalArgumentException" ∈ lw_all := lw_all_t 8 (by decide +kernel) (by decide +kernel)
theorem q_ini_RJ9 : Cond.initialized RJ9 ∈ lw_all := lw_all_t 9 (by decide +kernel) (by decide +kernel)
theorem q_ini_java_lang_IllegalStateException : Cond.initialized "java/lang/IllegalStateException" ∈ lw_all := lw_all_t 10 (by decide +kernel) (by decide +kernel)
theorem q_ini_java_lang_IndexOutOfBoundsException : Cond.initialized "java/lang/IndexOutOfBoundsException" ∈ lw_all := lw_all_t 11 (by decide +kernel) (by decide +kernel)
theorem q_ini_RJ10 : Cond.initialized RJ10 ∈ lw_all := lw_all_t 12 (by decide +kernel) (by decide +kernel)
theorem q_cl_RL_8 : Cond.classLink RL 8 RX2 ∈ lw_all := lw_all_t 13 (by decide +kernel) (by decide +kernel)
theorem q_inst_RX2 : Cond.instantiable RX2 8 ∈ lw_all := lw_all_t 14 (by decide +kernel) (by decide +kernel)
theorem q_ml_RL_73 : Cond.methodLink RL 73 yX2_init ∈ lw_all := lw_all_t 15 (by decide +kernel) (by decide +kernel)
theorem q_im_X2_init : Cond.instanceMethod yX2_init ∈ lw_all := lw_all_t 16 (by decide +kernel) (by decide +kernel)
theorem q_code_X2_init : Cond.code yX2_init cX2_init 2 none ∈ lw_all := lw_all_t 17 (by decide +kernel) (by decide +kernel)
theorem q_cl_RX2_9 : Cond.classLink RX2 9 RX1 ∈ lw_all := lw_all_t 21 (by decide +kernel) (by decide +kernel)
theorem q_cl_RX2_15 : Cond.classLink RX2 15 RX0 ∈ lw_all := lw_all_t 23 (by decide +kernel) (by decide +kernel)
theorem q_inst_RX0 : Cond.instantiable RX0 2 ∈ lw_all := lw_all_t 24 (by decide +kernel) (by decide +kernel)
theorem n_ml_RX2_17 : Cond.methodLinkNest RX2 17 yX0_init RX2 ∈ lw_tbl := lw_tbl_t 25 (by decide +kernel)
theorem q_im_X0_init : Cond.instanceMethod yX0_init ∈ lw_all := lw_all_t 26 (by decide +kernel) (by decide +kernel)
theorem q_code_X0_init : Cond.code yX0_init cX0_init 1 none ∈ lw_all := lw_all_t 27 (by decide +kernel) (by decide +kernel)
theorem q_cl_RX0_9 : Cond.classLink RX0 9 "[[I" ∈ lw_all := lw_all_t 29 (by decide +kernel) (by decide +kernel)
theorem q_fl_RX0_11 : Cond.fieldLink RX0 11 "ScorePress$EventRows" "told" "[[I" ∈ lw_all := lw_all_t 31 (by decide +kernel) (by decide +kernel)
theorem q_fl_RX2_193 : Cond.fieldLink RX2 193 "ScorePress$EventRows" "told" "[[I" ∈ lw_all := lw_all_t 32 (by decide +kernel) (by decide +kernel)
theorem q_fl_RX0_16 : Cond.fieldLink RX0 16 "ScorePress$EventRows" "done" "[I" ∈ lw_all := lw_all_t 33 (by decide +kernel) (by decide +kernel)
theorem q_arr_int : Cond.arrayClass .int ∈ lw_all := lw_all_t 39 (by decide +kernel) (by decide +kernel)
theorem q_inst_RX1 : Cond.instantiable RX1 12 ∈ lw_all := lw_all_t 40 (by decide +kernel) (by decide +kernel)
theorem n_ml_RX2_43 : Cond.methodLinkNest RX2 43 yX1_init RX2 ∈ lw_tbl := lw_tbl_t 41 (by decide +kernel)
theorem q_im_X1_init : Cond.instanceMethod yX1_init ∈ lw_all := lw_all_t 42 (by decide +kernel) (by decide +kernel)
theorem q_code_X1_init : Cond.code yX1_init cX1_init 1 none ∈ lw_all := lw_all_t 43 (by decide +kernel) (by decide +kernel)
theorem q_cl_RX1_9 : Cond.classLink RX1 9 "[[I" ∈ lw_all := lw_all_t 45 (by decide +kernel) (by decide +kernel)
theorem q_fl_RX1_11 : Cond.fieldLink RX1 11 "ScorePress$Voice" "told" "[[I" ∈ lw_all := lw_all_t 46 (by decide +kernel) (by decide +kernel)
theorem q_fl_RX2_114 : Cond.fieldLink RX2 114 "ScorePress$Voice" "told" "[[I" ∈ lw_all := lw_all_t 47 (by decide +kernel) (by decide +kernel)
theorem q_fl_RX1_16 : Cond.fieldLink RX1 16 "ScorePress$Voice" "pitches" "[[I" ∈ lw_all := lw_all_t 48 (by decide +kernel) (by decide +kernel)
theorem q_fl_RX2_143 : Cond.fieldLink RX2 143 "ScorePress$Voice" "pitches" "[[I" ∈ lw_all := lw_all_t 49 (by decide +kernel) (by decide +kernel)
theorem q_fl_RX1_19 : Cond.fieldLink RX1 19 "ScorePress$Voice" "sounds" "[[I" ∈ lw_all := lw_all_t 50 (by decide +kernel) (by decide +kernel)
theorem q_fl_RX0_45 : Cond.fieldLink RX0 45 "ScorePress$Voice" "sounds" "[[I" ∈ lw_all := lw_all_t 51 (by decide +kernel) (by decide +kernel)
theorem q_fl_RX1_22 : Cond.fieldLink RX1 22 "ScorePress$Voice" "heldBars" "[I" ∈ lw_all := lw_all_t 52 (by decide +kernel) (by decide +kernel)
theorem q_fl_RX1_26 : Cond.fieldLink RX1 26 "ScorePress$Voice" "heldSigns" "[I" ∈ lw_all := lw_all_t 53 (by decide +kernel) (by decide +kernel)
theorem q_fl_RX1_29 : Cond.fieldLink RX1 29 "ScorePress$Voice" "count" "I" ∈ lw_all := lw_all_t 54 (by decide +kernel) (by decide +kernel)
theorem q_fl_RX2_103 : Cond.fieldLink RX2 103 "ScorePress$Voice" "count" "I" ∈ lw_all := lw_all_t 55 (by decide +kernel) (by decide +kernel)
theorem q_fl_RX1_33 : Cond.fieldLink RX1 33 "ScorePress$Voice" "end" "I" ∈ lw_all := lw_all_t 56 (by decide +kernel) (by decide +kernel)
theorem q_fl_RX2_165 : Cond.fieldLink RX2 165 "ScorePress$Voice" "end" "I" ∈ lw_all := lw_all_t 57 (by decide +kernel) (by decide +kernel)
theorem q_fl_RX1_36 : Cond.fieldLink RX1 36 "ScorePress$Voice" "soundCount" "I" ∈ lw_all := lw_all_t 58 (by decide +kernel) (by decide +kernel)
theorem q_fl_RX0_28 : Cond.fieldLink RX0 28 "ScorePress$Voice" "soundCount" "I" ∈ lw_all := lw_all_t 59 (by decide +kernel) (by decide +kernel)
theorem q_fl_RX2_277 : Cond.fieldLink RX2 277 "ScorePress$Voice" "soundCount" "I" ∈ lw_all := lw_all_t 60 (by decide +kernel) (by decide +kernel)
theorem q_fl_RX1_39 : Cond.fieldLink RX1 39 "ScorePress$Voice" "beamCount" "I" ∈ lw_all := lw_all_t 61 (by decide +kernel) (by decide +kernel)
theorem q_fl_RX1_42 : Cond.fieldLink RX1 42 "ScorePress$Voice" "shownCount" "I" ∈ lw_all := lw_all_t 62 (by decide +kernel) (by decide +kernel)
theorem q_fl_RX1_45 : Cond.fieldLink RX1 45 "ScorePress$Voice" "greatestTone" "I" ∈ lw_all := lw_all_t 63 (by decide +kernel) (by decide +kernel)
theorem q_fl_RX1_48 : Cond.fieldLink RX1 48 "ScorePress$Voice" "leastTone" "I" ∈ lw_all := lw_all_t 64 (by decide +kernel) (by decide +kernel)
theorem q_fl_RX2_11 : Cond.fieldLink RX2 11 "ScorePress" "voices" "[LScorePress$Voice;" ∈ lw_all := lw_all_t 90 (by decide +kernel) (by decide +kernel)
theorem q_fl_RX2_18 : Cond.fieldLink RX2 18 "ScorePress" "eventRows" "LScorePress$EventRows;" ∈ lw_all := lw_all_t 91 (by decide +kernel) (by decide +kernel)
theorem q_fl_RX2_22 : Cond.fieldLink RX2 22 "ScorePress" "pieces" "[I" ∈ lw_all := lw_all_t 92 (by decide +kernel) (by decide +kernel)
theorem q_fl_RX2_26 : Cond.fieldLink RX2 26 "ScorePress" "voiceCount" "I" ∈ lw_all := lw_all_t 93 (by decide +kernel) (by decide +kernel)
theorem q_fl_RX2_30 : Cond.fieldLink RX2 30 "ScorePress" "beatTicks" "I" ∈ lw_all := lw_all_t 94 (by decide +kernel) (by decide +kernel)
theorem q_fl_RX2_33 : Cond.fieldLink RX2 33 "ScorePress" "barTicks" "I" ∈ lw_all := lw_all_t 95 (by decide +kernel) (by decide +kernel)
theorem q_fl_RX2_36 : Cond.fieldLink RX2 36 "ScorePress" "key" "I" ∈ lw_all := lw_all_t 96 (by decide +kernel) (by decide +kernel)
theorem q_fl_RX2_39 : Cond.fieldLink RX2 39 "ScorePress" "eventsStand" "Z" ∈ lw_all := lw_all_t 97 (by decide +kernel) (by decide +kernel)
theorem q_ml_RL_130 : Cond.methodLink RL 130 yX2_faults ∈ lw_all := lw_all_t 115 (by decide +kernel) (by decide +kernel)
theorem q_im_X2_faults : Cond.instanceMethod yX2_faults ∈ lw_all := lw_all_t 116 (by decide +kernel) (by decide +kernel)
theorem q_sel_X2_faults : Cond.selects RX2 yX2_faults yX2_faults ∈ lw_all := lw_all_t 117 (by decide +kernel) (by decide +kernel)
theorem q_code_X2_faults : Cond.code yX2_faults cX2_faults 5 (some .int) ∈ lw_all := lw_all_t 118 (by decide +kernel) (by decide +kernel)
theorem q_ml_RX2_76 : Cond.methodLink RX2 76 yX2_barsBegun ∈ lw_all := lw_all_t 119 (by decide +kernel) (by decide +kernel)
theorem q_im_X2_barsBegun : Cond.instanceMethod yX2_barsBegun ∈ lw_all := lw_all_t 121 (by decide +kernel) (by decide +kernel)
theorem q_code_X2_barsBegun : Cond.code yX2_barsBegun cX2_barsBegun 4 (some .int) ∈ lw_all := lw_all_t 122 (by decide +kernel) (by decide +kernel)
theorem q_ml_RX2_221 : Cond.methodLink RX2 221 yJ9_max_7cf53 ∈ lw_all := lw_all_t 123 (by decide +kernel) (by decide +kernel)
theorem q_st_J9_max_7cf53 : Cond.static yJ9_max_7cf53 ∈ lw_all := lw_all_t 124 (by decide +kernel) (by decide +kernel)
theorem q_code_J9_max_7cf53 : Cond.code yJ9_max_7cf53 cJ9_max_7cf53 2 (some .int) ∈ lw_all := lw_all_t 125 (by decide +kernel) (by decide +kernel)
theorem q_ml_RX2_168 : Cond.methodLink RX2 168 yX2_wholeParts ∈ lw_all := lw_all_t 126 (by decide +kernel) (by decide +kernel)
theorem q_st_X2_wholeParts : Cond.static yX2_wholeParts ∈ lw_all := lw_all_t 127 (by decide +kernel) (by decide +kernel)
theorem q_code_X2_wholeParts : Cond.code yX2_wholeParts cX2_wholeParts 2 (some .int) ∈ lw_all := lw_all_t 128 (by decide +kernel) (by decide +kernel)
theorem q_ml_RX2_171 : Cond.methodLink RX2 171 yX1_countLooseTies ∈ lw_all := lw_all_t 129 (by decide +kernel) (by decide +kernel)
theorem q_im_X1_countLooseTies : Cond.instanceMethod yX1_countLooseTies ∈ lw_all := lw_all_t 130 (by decide +kernel) (by decide +kernel)
theorem q_sel_X1_countLooseTies : Cond.selects RX1 yX1_countLooseTies yX1_countLooseTies ∈ lw_all := lw_all_t 131 (by decide +kernel) (by decide +kernel)
theorem q_code_X1_countLooseTies : Cond.code yX1_countLooseTies cX1_countLooseTies 3 (some .int) ∈ lw_all := lw_all_t 132 (by decide +kernel) (by decide +kernel)
theorem q_ml_RX1_51 : Cond.methodLink RX1 51 yX1_isTied ∈ lw_all := lw_all_t 133 (by decide +kernel) (by decide +kernel)
theorem q_im_X1_isTied : Cond.instanceMethod yX1_isTied ∈ lw_all := lw_all_t 134 (by decide +kernel) (by decide +kernel)
theorem q_sel_X1_isTied : Cond.selects RX1 yX1_isTied yX1_isTied ∈ lw_all := lw_all_t 135 (by decide +kernel) (by decide +kernel)
theorem q_code_X1_isTied : Cond.code yX1_isTied cX1_isTied 2 (some .boolean) ∈ lw_all := lw_all_t 136 (by decide +kernel) (by decide +kernel)
theorem q_ml_RX1_93 : Cond.methodLink RX1 93 yX1_isJoinedToNext ∈ lw_all := lw_all_t 137 (by decide +kernel) (by decide +kernel)
theorem q_im_X1_isJoinedToNext : Cond.instanceMethod yX1_isJoinedToNext ∈ lw_all := lw_all_t 138 (by decide +kernel) (by decide +kernel)
theorem q_sel_X1_isJoinedToNext : Cond.selects RX1 yX1_isJoinedToNext yX1_isJoinedToNext ∈ lw_all := lw_all_t 139 (by decide +kernel) (by decide +kernel)
theorem q_code_X1_isJoinedToNext : Cond.code yX1_isJoinedToNext cX1_isJoinedToNext 2 (some .boolean) ∈ lw_all := lw_all_t 140 (by decide +kernel) (by decide +kernel)
theorem q_ml_RX2_174 : Cond.methodLink RX2 174 yX2_countParallels ∈ lw_all := lw_all_t 141 (by decide +kernel) (by decide +kernel)
theorem q_st_X2_countParallels : Cond.static yX2_countParallels ∈ lw_all := lw_all_t 142 (by decide +kernel) (by decide +kernel)
theorem q_code_X2_countParallels : Cond.code yX2_countParallels cX2_countParallels 11 (some .int) ∈ lw_all := lw_all_t 143 (by decide +kernel) (by decide +kernel)
theorem q_ml_RX2_131 : Cond.methodLink RX2 131 yX1_isNote ∈ lw_all := lw_all_t 144 (by decide +kernel) (by decide +kernel)
theorem q_im_X1_isNote : Cond.instanceMethod yX1_isNote ∈ lw_all := lw_all_t 145 (by decide +kernel) (by decide +kernel)
theorem q_sel_X1_isNote : Cond.selects RX1 yX1_isNote yX1_isNote ∈ lw_all := lw_all_t 146 (by decide +kernel) (by decide +kernel)
theorem q_code_X1_isNote : Cond.code yX1_isNote cX1_isNote 2 (some .boolean) ∈ lw_all := lw_all_t 147 (by decide +kernel) (by decide +kernel)
theorem q_ml_RX2_273 : Cond.methodLink RX2 273 yX2_isParallel ∈ lw_all := lw_all_t 148 (by decide +kernel) (by decide +kernel)
theorem q_st_X2_isParallel : Cond.static yX2_isParallel ∈ lw_all := lw_all_t 149 (by decide +kernel) (by decide +kernel)
theorem q_code_X2_isParallel : Cond.code yX2_isParallel cX2_isParallel 7 (some .boolean) ∈ lw_all := lw_all_t 150 (by decide +kernel) (by decide +kernel)
theorem q_ml_RX2_257 : Cond.methodLink RX2 257 yJ9_floorMod_7cf53 ∈ lw_all := lw_all_t 151 (by decide +kernel) (by decide +kernel)
theorem q_st_J9_floorMod_7cf53 : Cond.static yJ9_floorMod_7cf53 ∈ lw_all := lw_all_t 152 (by decide +kernel) (by decide +kernel)
theorem q_code_J9_floorMod_7cf53 : Cond.code yJ9_floorMod_7cf53 cJ9_floorMod_7cf53 3 (some .int) ∈ lw_all := lw_all_t 153 (by decide +kernel) (by decide +kernel)
theorem q_ml_RL_140 : Cond.methodLink RL 140 yX2_events ∈ lw_all := lw_all_t 154 (by decide +kernel) (by decide +kernel)
theorem q_im_X2_events : Cond.instanceMethod yX2_events ∈ lw_all := lw_all_t 155 (by decide +kernel) (by decide +kernel)
theorem q_sel_X2_events : Cond.selects RX2 yX2_events yX2_events ∈ lw_all := lw_all_t 156 (by decide +kernel) (by decide +kernel)
theorem q_code_X2_events : Cond.code yX2_events cX2_events 1 (some .int) ∈ lw_all := lw_all_t 157 (by decide +kernel) (by decide +kernel)
theorem q_ml_RX2_183 : Cond.methodLink RX2 183 yX2_countEvents ∈ lw_all := lw_all_t 158 (by decide +kernel) (by decide +kernel)
theorem q_im_X2_countEvents : Cond.instanceMethod yX2_countEvents ∈ lw_all := lw_all_t 160 (by decide +kernel) (by decide +kernel)
theorem q_code_X2_countEvents : Cond.code yX2_countEvents cX2_countEvents 3 (some .int) ∈ lw_all := lw_all_t 161 (by decide +kernel) (by decide +kernel)
theorem q_ml_RL_147 : Cond.methodLink RL 147 yX2_meanTone ∈ lw_all := lw_all_t 162 (by decide +kernel) (by decide +kernel)
theorem q_im_X2_meanTone : Cond.instanceMethod yX2_meanTone ∈ lw_all := lw_all_t 163 (by decide +kernel) (by decide +kernel)
theorem q_sel_X2_meanTone : Cond.selects RX2 yX2_meanTone yX2_meanTone ∈ lw_all := lw_all_t 164 (by decide +kernel) (by decide +kernel)
theorem q_code_X2_meanTone : Cond.code yX2_meanTone cX2_meanTone 8 (some .double) ∈ lw_all := lw_all_t 165 (by decide +kernel) (by decide +kernel)
theorem q_ml_RL_152 : Cond.methodLink RL 152 yX2_digest ∈ lw_all := lw_all_t 166 (by decide +kernel) (by decide +kernel)
theorem q_im_X2_digest : Cond.instanceMethod yX2_digest ∈ lw_all := lw_all_t 167 (by decide +kernel) (by decide +kernel)
theorem q_sel_X2_digest : Cond.selects RX2 yX2_digest yX2_digest ∈ lw_all := lw_all_t 168 (by decide +kernel) (by decide +kernel)
theorem q_code_X2_digest : Cond.code yX2_digest cX2_digest 4 (some .long) ∈ lw_all := lw_all_t 169 (by decide +kernel) (by decide +kernel)
theorem q_k_RX2_199 : Cond.constantLong RX2 199 389 ∈ lw_all := lw_all_t 170 (by decide +kernel) (by decide +kernel)
theorem q_k_RX2_201 : Cond.constantLong RX2 201 31 ∈ lw_all := lw_all_t 171 (by decide +kernel) (by decide +kernel)
theorem q_ml_RX2_203 : Cond.methodLink RX2 203 yX2_score ∈ lw_all := lw_all_t 172 (by decide +kernel) (by decide +kernel)
theorem q_im_X2_score : Cond.instanceMethod yX2_score ∈ lw_all := lw_all_t 173 (by decide +kernel) (by decide +kernel)
theorem q_sel_X2_score : Cond.selects RX2 yX2_score yX2_score ∈ lw_all := lw_all_t 174 (by decide +kernel) (by decide +kernel)
theorem q_code_X2_score : Cond.code yX2_score cX2_score 2 (some .int) ∈ lw_all := lw_all_t 175 (by decide +kernel) (by decide +kernel)
theorem q_cl_RX2_71 : Cond.classLink RX2 71 "java/lang/IndexOutOfBoundsException" ∈ lw_all := lw_all_t 176 (by decide +kernel) (by decide +kernel)
theorem q_inst_java_lang_IndexOutOfBoundsException : Cond.instantiable "java/lang/IndexOutOfBoundsException" 6 ∈ lw_all := lw_all_t 177 (by decide +kernel) (by decide +kernel)
theorem q_fl_java_lang_Throwable_198 : Cond.fieldLink "java/lang/Throwable" 198 "java/lang/Throwable" "backtrace" "Ljava/lang/Object;" ∈ lw_all := lw_all_t 197 (by decide +kernel) (by decide +kernel)
theorem q_fl_java_lang_Throwable_13 : Cond.fieldLink "java/lang/Throwable" 13 "java/lang/Throwable" "UNASSIGNED_STACK" "[Ljava/lang/StackTraceElement;" ∈ lw_all := lw_all_t 202 (by decide +kernel) (by decide +kernel)
theorem q_fl_java_lang_Throwable_20 : Cond.fieldLink "java/lang/Throwable" 20 "java/lang/Throwable" "SUPPRESSED_SENTINEL" "Ljava/util/List;" ∈ lw_all := lw_all_t 204 (by decide +kernel) (by decide +kernel)
theorem q_inst_java_lang_Throwable : Cond.instantiable "java/lang/Throwable" 6 ∈ lw_all := lw_all_t 215 (by decide +kernel) (by decide +kernel)
theorem q_fl_java_lang_Throwable_31 : Cond.fieldLink "java/lang/Throwable" 31 "java/lang/Throwable" "detailMessage" "Ljava/lang/String;" ∈ lw_all := lw_all_t 231 (by decide +kernel) (by decide +kernel)
theorem q_fl_java_lang_Throwable_7 : Cond.fieldLink "java/lang/Throwable" 7 "java/lang/Throwable" "cause" "Ljava/lang/Throwable;" ∈ lw_all := lw_all_t 232 (by decide +kernel) (by decide +kernel)
theorem q_fl_java_lang_Throwable_17 : Cond.fieldLink "java/lang/Throwable" 17 "java/lang/Throwable" "stackTrace" "[Ljava/lang/StackTraceElement;" ∈ lw_all := lw_all_t 233 (by decide +kernel) (by decide +kernel)
theorem q_fl_java_lang_Throwable_24 : Cond.fieldLink "java/lang/Throwable" 24 "java/lang/Throwable" "suppressedExceptions" "Ljava/util/List;" ∈ lw_all := lw_all_t 234 (by decide +kernel) (by decide +kernel)
theorem q_arr_byte : Cond.arrayClass .byte ∈ lw_all := lw_all_t 243 (by decide +kernel) (by decide +kernel)
theorem q_ml_RX2_51 : Cond.methodLink RX2 51 yX2_greatestEnd ∈ lw_all := lw_all_t 244 (by decide +kernel) (by decide +kernel)
theorem q_im_X2_greatestEnd : Cond.instanceMethod yX2_greatestEnd ∈ lw_all := lw_all_t 246 (by decide +kernel) (by decide +kernel)
theorem q_code_X2_greatestEnd : Cond.code yX2_greatestEnd cX2_greatestEnd 3 (some .int) ∈ lw_all := lw_all_t 247 (by decide +kernel) (by decide +kernel)
theorem q_ml_RX2_206 : Cond.methodLink RX2 206 yX2_digestVoice ∈ lw_all := lw_all_t 248 (by decide +kernel) (by decide +kernel)
theorem q_st_X2_digestVoice : Cond.static yX2_digestVoice ∈ lw_all := lw_all_t 249 (by decide +kernel) (by decide +kernel)
theorem q_code_X2_digestVoice : Cond.code yX2_digestVoice cX2_digestVoice 7 (some .long) ∈ lw_all := lw_all_t 250 (by decide +kernel) (by decide +kernel)
theorem q_ml_RX2_148 : Cond.methodLink RX2 148 yX1_tell ∈ lw_all := lw_all_t 251 (by decide +kernel) (by decide +kernel)
theorem q_im_X1_tell : Cond.instanceMethod yX1_tell ∈ lw_all := lw_all_t 252 (by decide +kernel) (by decide +kernel)
theorem q_sel_X1_tell : Cond.selects RX1 yX1_tell yX1_tell ∈ lw_all := lw_all_t 253 (by decide +kernel) (by decide +kernel)
theorem q_code_X1_tell : Cond.code yX1_tell cX1_tell 2 (some .int) ∈ lw_all := lw_all_t 254 (by decide +kernel) (by decide +kernel)
theorem q_ml_RX2_210 : Cond.methodLink RX2 210 yX2_faults ∈ lw_all := lw_all_t 255 (by decide +kernel) (by decide +kernel)
theorem q_ml_RX2_213 : Cond.methodLink RX2 213 yX2_digestEvents ∈ lw_all := lw_all_t 256 (by decide +kernel) (by decide +kernel)
theorem q_im_X2_digestEvents : Cond.instanceMethod yX2_digestEvents ∈ lw_all := lw_all_t 258 (by decide +kernel) (by decide +kernel)
theorem q_code_X2_digestEvents : Cond.code yX2_digestEvents cX2_digestEvents 8 (some .long) ∈ lw_all := lw_all_t 259 (by decide +kernel) (by decide +kernel)
theorem q_ml_RX2_190 : Cond.methodLink RX2 190 yX2_refreshEvents ∈ lw_all := lw_all_t 260 (by decide +kernel) (by decide +kernel)
theorem q_im_X2_refreshEvents : Cond.instanceMethod yX2_refreshEvents ∈ lw_all := lw_all_t 262 (by decide +kernel) (by decide +kernel)
theorem q_code_X2_refreshEvents : Cond.code yX2_refreshEvents cX2_refreshEvents 1 none ∈ lw_all := lw_all_t 263 (by decide +kernel) (by decide +kernel)
theorem q_ml_RX2_280 : Cond.methodLink RX2 280 yX0_merge ∈ lw_all := lw_all_t 264 (by decide +kernel) (by decide +kernel)
theorem q_im_X0_merge : Cond.instanceMethod yX0_merge ∈ lw_all := lw_all_t 265 (by decide +kernel) (by decide +kernel)
theorem q_sel_X0_merge : Cond.selects RX0 yX0_merge yX0_merge ∈ lw_all := lw_all_t 266 (by decide +kernel) (by decide +kernel)
theorem q_code_X0_merge : Cond.code yX0_merge cX0_merge 6 none ∈ lw_all := lw_all_t 267 (by decide +kernel) (by decide +kernel)
theorem q_ml_RX0_20 : Cond.methodLink RX0 20 yX0_findEarliest ∈ lw_all := lw_all_t 268 (by decide +kernel) (by decide +kernel)
theorem q_im_X0_findEarliest : Cond.instanceMethod yX0_findEarliest ∈ lw_all := lw_all_t 270 (by decide +kernel) (by decide +kernel)
theorem q_code_X0_findEarliest : Cond.code yX0_findEarliest cX0_findEarliest 7 (some .int) ∈ lw_all := lw_all_t 271 (by decide +kernel) (by decide +kernel)
theorem q_ml_RX0_34 : Cond.methodLink RX0 34 yX0_rankOf ∈ lw_all := lw_all_t 272 (by decide +kernel) (by decide +kernel)
theorem q_st_X0_rankOf : Cond.static yX0_rankOf ∈ lw_all := lw_all_t 273 (by decide +kernel) (by decide +kernel)
theorem q_code_X0_rankOf : Cond.code yX0_rankOf cX0_rankOf 2 (some .int) ∈ lw_all := lw_all_t 274 (by decide +kernel) (by decide +kernel)
theorem q_ml_RX0_38 : Cond.methodLink RX0 38 yX0_tickOf ∈ lw_all := lw_all_t 275 (by decide +kernel) (by decide +kernel)
theorem q_st_X0_tickOf : Cond.static yX0_tickOf ∈ lw_all := lw_all_t 276 (by decide +kernel) (by decide +kernel)
theorem q_code_X0_tickOf : Cond.code yX0_tickOf cX0_tickOf 2 (some .int) ∈ lw_all := lw_all_t 277 (by decide +kernel) (by decide +kernel)
theorem q_ml_RX0_41 : Cond.methodLink RX0 41 yX0_isBeginning ∈ lw_all := lw_all_t 278 (by decide +kernel) (by decide +kernel)
theorem q_st_X0_isBeginning : Cond.static yX0_isBeginning ∈ lw_all := lw_all_t 279 (by decide +kernel) (by decide +kernel)
theorem q_code_X0_isBeginning : Cond.code yX0_isBeginning cX0_isBeginning 1 (some .boolean) ∈ lw_all := lw_all_t 280 (by decide +kernel) (by decide +kernel)
theorem q_ml_RX0_24 : Cond.methodLink RX0 24 yX0_put ∈ lw_all := lw_all_t 281 (by decide +kernel) (by decide +kernel)
theorem q_im_X0_put : Cond.instanceMethod yX0_put ∈ lw_all := lw_all_t 283 (by decide +kernel) (by decide +kernel)
theorem q_code_X0_put : Cond.code yX0_put cX0_put 5 none ∈ lw_all := lw_all_t 284 (by decide +kernel) (by decide +kernel)
theorem q_ml_RL_77 : Cond.methodLink RL 77 yL_setBars ∈ lw_all := lw_all_t 285 (by decide +kernel) (by decide +kernel)
theorem q_st_L_setBars : Cond.static yL_setBars ∈ lw_all := lw_all_t 286 (by decide +kernel) (by decide +kernel)
theorem q_code_L_setBars : Cond.codeWith yL_setBars cL_setBars 5 (some .int) [(0, 10, 13, 13), (0, 10, 17, 15)] ∈ lw_all := lw_all_t 287 (by decide +kernel) (by decide +kernel)
theorem q_cl_RL_13 : Cond.classLink RL 13 "java/lang/IllegalArgumentException" ∈ lw_all := lw_all_t 288 (by decide +kernel) (by decide +kernel)
theorem q_cl_RL_15 : Cond.classLink RL 15 "java/lang/IllegalStateException" ∈ lw_all := lw_all_t 289 (by decide +kernel) (by decide +kernel)
theorem q_ml_RL_7 : Cond.methodLink RL 7 yX2_setBars ∈ lw_all := lw_all_t 290 (by decide +kernel) (by decide +kernel)
theorem q_im_X2_setBars : Cond.instanceMethod yX2_setBars ∈ lw_all := lw_all_t 291 (by decide +kernel) (by decide +kernel)
theorem q_sel_X2_setBars : Cond.selects RX2 yX2_setBars yX2_setBars ∈ lw_all := lw_all_t 292 (by decide +kernel) (by decide +kernel)
theorem q_code_X2_setBars : Cond.code yX2_setBars cX2_setBars 3 (some .int) ∈ lw_all := lw_all_t 293 (by decide +kernel) (by decide +kernel)
theorem q_cl_RX2_44 : Cond.classLink RX2 44 "java/lang/IllegalArgumentException" ∈ lw_all := lw_all_t 294 (by decide +kernel) (by decide +kernel)
theorem q_inst_java_lang_IllegalArgumentException : Cond.instantiable "java/lang/IllegalArgumentException" 6 ∈ lw_all := lw_all_t 295 (by decide +kernel) (by decide +kernel)
theorem q_cl_RX2_55 : Cond.classLink RX2 55 "java/lang/IllegalStateException" ∈ lw_all := lw_all_t 310 (by decide +kernel) (by decide +kernel)
theorem q_inst_java_lang_IllegalStateException : Cond.instantiable "java/lang/IllegalStateException" 6 ∈ lw_all := lw_all_t 311 (by decide +kernel) (by decide +kernel)
theorem q_ml_RL_86 : Cond.methodLink RL 86 yL_setKey ∈ lw_all := lw_all_t 326 (by decide +kernel) (by decide +kernel)
theorem q_st_L_setKey : Cond.static yL_setKey ∈ lw_all := lw_all_t 327 (by decide +kernel) (by decide +kernel)
theorem q_code_L_setKey : Cond.codeWith yL_setKey cL_setKey 4 (some .int) [(0, 9, 12, 13)] ∈ lw_all := lw_all_t 328 (by decide +kernel) (by decide +kernel)
theorem q_ml_RL_17 : Cond.methodLink RL 17 yX2_setKey ∈ lw_all := lw_all_t 329 (by decide +kernel) (by decide +kernel)
theorem q_im_X2_setKey : Cond.instanceMethod yX2_setKey ∈ lw_all := lw_all_t 330 (by decide +kernel) (by decide +kernel)
theorem q_sel_X2_setKey : Cond.selects RX2 yX2_setKey yX2_setKey ∈ lw_all := lw_all_t 331 (by decide +kernel) (by decide +kernel)
theorem q_code_X2_setKey : Cond.code yX2_setKey cX2_setKey 3 (some .int) ∈ lw_all := lw_all_t 332 (by decide +kernel) (by decide +kernel)
theorem q_ml_RX2_60 : Cond.methodLink RX2 60 yX2_isKey ∈ lw_all := lw_all_t 333 (by decide +kernel) (by decide +kernel)
theorem q_st_X2_isKey : Cond.static yX2_isKey ∈ lw_all := lw_all_t 334 (by decide +kernel) (by decide +kernel)
theorem q_code_X2_isKey : Cond.code yX2_isKey cX2_isKey 1 (some .boolean) ∈ lw_all := lw_all_t 335 (by decide +kernel) (by decide +kernel)
theorem q_ml_RX2_66 : Cond.methodLink RX2 66 yX2_arrangeAll ∈ lw_all := lw_all_t 337 (by decide +kernel) (by decide +kernel)
theorem q_im_X2_arrangeAll : Cond.instanceMethod yX2_arrangeAll ∈ lw_all := lw_all_t 339 (by decide +kernel) (by decide +kernel)
theorem q_code_X2_arrangeAll : Cond.code yX2_arrangeAll cX2_arrangeAll 2 none ∈ lw_all := lw_all_t 340 (by decide +kernel) (by decide +kernel)
theorem q_ml_RX2_226 : Cond.methodLink RX2 226 yX1_arrange ∈ lw_all := lw_all_t 341 (by decide +kernel) (by decide +kernel)
theorem q_im_X1_arrange : Cond.instanceMethod yX1_arrange ∈ lw_all := lw_all_t 342 (by decide +kernel) (by decide +kernel)
theorem q_sel_X1_arrange : Cond.selects RX1 yX1_arrange yX1_arrange ∈ lw_all := lw_all_t 343 (by decide +kernel) (by decide +kernel)
theorem q_code_X1_arrange : Cond.code yX1_arrange cX1_arrange 3 none ∈ lw_all := lw_all_t 344 (by decide +kernel) (by decide +kernel)
theorem q_ml_RX1_96 : Cond.methodLink RX1 96 yX1_arrangeTones ∈ lw_all := lw_all_t 345 (by decide +kernel) (by decide +kernel)
theorem q_im_X1_arrangeTones : Cond.instanceMethod yX1_arrangeTones ∈ lw_all := lw_all_t 347 (by decide +kernel) (by decide +kernel)
theorem q_code_X1_arrangeTones : Cond.code yX1_arrangeTones cX1_arrangeTones 3 none ∈ lw_all := lw_all_t 348 (by decide +kernel) (by decide +kernel)
theorem q_ml_RX1_76 : Cond.methodLink RX1 76 yX1_isNote ∈ lw_all := lw_all_t 349 (by decide +kernel) (by decide +kernel)
theorem q_ml_RX1_109 : Cond.methodLink RX1 109 yJ9_max_7cf53 ∈ lw_all := lw_all_t 350 (by decide +kernel) (by decide +kernel)
theorem q_ml_RX1_114 : Cond.methodLink RX1 114 yJ9_min_7cf53 ∈ lw_all := lw_all_t 351 (by decide +kernel) (by decide +kernel)
theorem q_st_J9_min_7cf53 : Cond.static yJ9_min_7cf53 ∈ lw_all := lw_all_t 352 (by decide +kernel) (by decide +kernel)
theorem q_code_J9_min_7cf53 : Cond.code yJ9_min_7cf53 cJ9_min_7cf53 2 (some .int) ∈ lw_all := lw_all_t 353 (by decide +kernel) (by decide +kernel)
theorem q_ml_RX1_99 : Cond.methodLink RX1 99 yX1_arrangeSounds ∈ lw_all := lw_all_t 354 (by decide +kernel) (by decide +kernel)
theorem q_im_X1_arrangeSounds : Cond.instanceMethod yX1_arrangeSounds ∈ lw_all := lw_all_t 356 (by decide +kernel) (by decide +kernel)
theorem q_code_X1_arrangeSounds : Cond.code yX1_arrangeSounds cX1_arrangeSounds 4 none ∈ lw_all := lw_all_t 357 (by decide +kernel) (by decide +kernel)
theorem q_ml_RX1_102 : Cond.methodLink RX1 102 yX1_arrangeSigns ∈ lw_all := lw_all_t 358 (by decide +kernel) (by decide +kernel)
theorem q_im_X1_arrangeSigns : Cond.instanceMethod yX1_arrangeSigns ∈ lw_all := lw_all_t 360 (by decide +kernel) (by decide +kernel)
theorem q_code_X1_arrangeSigns : Cond.code yX1_arrangeSigns cX1_arrangeSigns 5 none ∈ lw_all := lw_all_t 361 (by decide +kernel) (by decide +kernel)
theorem q_ml_RX1_68 : Cond.methodLink RX1 68 yX1_placeOf ∈ lw_all := lw_all_t 362 (by decide +kernel) (by decide +kernel)
theorem q_im_X1_placeOf : Cond.instanceMethod yX1_placeOf ∈ lw_all := lw_all_t 363 (by decide +kernel) (by decide +kernel)
theorem q_sel_X1_placeOf : Cond.selects RX1 yX1_placeOf yX1_placeOf ∈ lw_all := lw_all_t 364 (by decide +kernel) (by decide +kernel)
theorem q_code_X1_placeOf : Cond.code yX1_placeOf cX1_placeOf 2 (some .int) ∈ lw_all := lw_all_t 365 (by decide +kernel) (by decide +kernel)
theorem n_ml_RX1_117 : Cond.methodLinkNest RX1 117 yX2_signOfKey RX2 ∈ lw_tbl := lw_tbl_t 366 (by decide +kernel)
theorem q_st_X2_signOfKey : Cond.static yX2_signOfKey ∈ lw_all := lw_all_t 367 (by decide +kernel) (by decide +kernel)
theorem q_code_X2_signOfKey : Cond.code yX2_signOfKey cX2_signOfKey 4 (some .int) ∈ lw_all := lw_all_t 368 (by decide +kernel) (by decide +kernel)
theorem q_fl_RX2_251 : Cond.fieldLink RX2 251 "ScorePress" "SHARP_PLACES" "[I" ∈ lw_all := lw_all_t 369 (by decide +kernel) (by decide +kernel)
theorem q_ml_RX1_106 : Cond.methodLink RX1 106 yX1_arrangeBeams ∈ lw_all := lw_all_t 371 (by decide +kernel) (by decide +kernel)
theorem q_im_X1_arrangeBeams : Cond.instanceMethod yX1_arrangeBeams ∈ lw_all := lw_all_t 373 (by decide +kernel) (by decide +kernel)
theorem q_code_X1_arrangeBeams : Cond.code yX1_arrangeBeams cX1_arrangeBeams 3 none ∈ lw_all := lw_all_t 374 (by decide +kernel) (by decide +kernel)
theorem q_ml_RX1_120 : Cond.methodLink RX1 120 yX1_isGrouped ∈ lw_all := lw_all_t 375 (by decide +kernel) (by decide +kernel)
theorem q_im_X1_isGrouped : Cond.instanceMethod yX1_isGrouped ∈ lw_all := lw_all_t 377 (by decide +kernel) (by decide +kernel)
theorem q_code_X1_isGrouped : Cond.code yX1_isGrouped cX1_isGrouped 4 (some .boolean) ∈ lw_all := lw_all_t 378 (by decide +kernel) (by decide +kernel)
theorem q_ml_RX1_124 : Cond.methodLink RX1 124 yX1_isShortNote ∈ lw_all := lw_all_t 379 (by decide +kernel) (by decide +kernel)
theorem q_im_X1_isShortNote : Cond.instanceMethod yX1_isShortNote ∈ lw_all := lw_all_t 381 (by decide +kernel) (by decide +kernel)
theorem q_code_X1_isShortNote : Cond.code yX1_isShortNote cX1_isShortNote 2 (some .boolean) ∈ lw_all := lw_all_t 382 (by decide +kernel) (by decide +kernel)
theorem n_ml_RX1_127 : Cond.methodLinkNest RX1 127 yX2_wholeParts RX2 ∈ lw_tbl := lw_tbl_t 383 (by decide +kernel)
theorem q_ml_RL_90 : Cond.methodLink RL 90 yL_addVoice ∈ lw_all := lw_all_t 384 (by decide +kernel) (by decide +kernel)
theorem q_st_L_addVoice : Cond.static yL_addVoice ∈ lw_all := lw_all_t 385 (by decide +kernel) (by decide +kernel)
theorem q_code_L_addVoice : Cond.codeWith yL_addVoice cL_addVoice 3 (some .int) [(0, 8, 11, 15)] ∈ lw_all := lw_all_t 386 (by decide +kernel) (by decide +kernel)
theorem q_ml_RL_21 : Cond.methodLink RL 21 yX2_addVoice ∈ lw_all := lw_all_t 387 (by decide +kernel) (by decide +kernel)
theorem q_im_X2_addVoice : Cond.instanceMethod yX2_addVoice ∈ lw_all := lw_all_t 388 (by decide +kernel) (by decide +kernel)
theorem q_sel_X2_addVoice : Cond.selects RX2 yX2_addVoice yX2_addVoice ∈ lw_all := lw_all_t 389 (by decide +kernel) (by decide +kernel)
theorem q_code_X2_addVoice : Cond.code yX2_addVoice cX2_addVoice 1 (some .int) ∈ lw_all := lw_all_t 390 (by decide +kernel) (by decide +kernel)
theorem q_ml_RL_94 : Cond.methodLink RL 94 yL_score ∈ lw_all := lw_all_t 392 (by decide +kernel) (by decide +kernel)
theorem q_st_L_score : Cond.static yL_score ∈ lw_all := lw_all_t 393 (by decide +kernel) (by decide +kernel)
theorem q_code_L_score : Cond.codeWith yL_score cL_score 4 (some .int) [(0, 9, 12, 28)] ∈ lw_all := lw_all_t 394 (by decide +kernel) (by decide +kernel)
theorem q_cl_RL_28 : Cond.classLink RL 28 "java/lang/IndexOutOfBoundsException" ∈ lw_all := lw_all_t 395 (by decide +kernel) (by decide +kernel)
theorem q_ml_RL_25 : Cond.methodLink RL 25 yX2_score ∈ lw_all := lw_all_t 396 (by decide +kernel) (by decide +kernel)
theorem q_ml_RL_97 : Cond.methodLink RL 97 yL_sign ∈ lw_all := lw_all_t 397 (by decide +kernel) (by decide +kernel)
theorem q_st_L_sign : Cond.static yL_sign ∈ lw_all := lw_all_t 398 (by decide +kernel) (by decide +kernel)
theorem q_code_L_sign : Cond.codeWith yL_sign cL_sign 4 (some .int) [(0, 9, 12, 13)] ∈ lw_all := lw_all_t 399 (by decide +kernel) (by decide +kernel)
theorem q_ml_RL_30 : Cond.methodLink RL 30 yX2_sign ∈ lw_all := lw_all_t 400 (by decide +kernel) (by decide +kernel)
theorem q_im_X2_sign : Cond.instanceMethod yX2_sign ∈ lw_all := lw_all_t 401 (by decide +kernel) (by decide +kernel)
theorem q_sel_X2_sign : Cond.selects RX2 yX2_sign yX2_sign ∈ lw_all := lw_all_t 402 (by decide +kernel) (by decide +kernel)
theorem q_code_X2_sign : Cond.code yX2_sign cX2_sign 2 (some .int) ∈ lw_all := lw_all_t 403 (by decide +kernel) (by decide +kernel)
theorem q_ml_RX2_81 : Cond.methodLink RX2 81 yX2_signOfKey ∈ lw_all := lw_all_t 405 (by decide +kernel) (by decide +kernel)
theorem q_ml_RL_100 : Cond.methodLink RL 100 yL_ticks ∈ lw_all := lw_all_t 406 (by decide +kernel) (by decide +kernel)
theorem q_st_L_ticks : Cond.static yL_ticks ∈ lw_all := lw_all_t 407 (by decide +kernel) (by decide +kernel)
theorem q_code_L_ticks : Cond.codeWith yL_ticks cL_ticks 5 (some .int) [(0, 10, 13, 13)] ∈ lw_all := lw_all_t 408 (by decide +kernel) (by decide +kernel)
theorem q_ml_RL_33 : Cond.methodLink RL 33 yX2_ticks ∈ lw_all := lw_all_t 409 (by decide +kernel) (by decide +kernel)
theorem q_im_X2_ticks : Cond.instanceMethod yX2_ticks ∈ lw_all := lw_all_t 410 (by decide +kernel) (by decide +kernel)
theorem q_sel_X2_ticks : Cond.selects RX2 yX2_ticks yX2_ticks ∈ lw_all := lw_all_t 411 (by decide +kernel) (by decide +kernel)
theorem q_code_X2_ticks : Cond.code yX2_ticks cX2_ticks 4 (some .int) ∈ lw_all := lw_all_t 412 (by decide +kernel) (by decide +kernel)
theorem q_ml_RX2_85 : Cond.methodLink RX2 85 yX2_findValue ∈ lw_all := lw_all_t 413 (by decide +kernel) (by decide +kernel)
theorem q_st_X2_findValue : Cond.static yX2_findValue ∈ lw_all := lw_all_t 414 (by decide +kernel) (by decide +kernel)
theorem q_code_X2_findValue : Cond.code yX2_findValue cX2_findValue 3 (some .int) ∈ lw_all := lw_all_t 415 (by decide +kernel) (by decide +kernel)
theorem q_fl_RX2_90 : Cond.fieldLink RX2 90 "ScorePress" "VALUE_TICKS" "[I" ∈ lw_all := lw_all_t 416 (by decide +kernel) (by decide +kernel)
theorem q_fl_RX2_245 : Cond.fieldLink RX2 245 "ScorePress" "VALUE_PARTS" "[I" ∈ lw_all := lw_all_t 418 (by decide +kernel) (by decide +kernel)
theorem q_fl_RX2_248 : Cond.fieldLink RX2 248 "ScorePress" "VALUE_DOTS" "[I" ∈ lw_all := lw_all_t 420 (by decide +kernel) (by decide +kernel)
theorem q_ml_RL_103 : Cond.methodLink RL 103 yL_addNote ∈ lw_all := lw_all_t 423 (by decide +kernel) (by decide +kernel)
theorem q_st_L_addNote : Cond.static yL_addNote ∈ lw_all := lw_all_t 424 (by decide +kernel) (by decide +kernel)
theorem q_code_L_addNote : Cond.codeWith yL_addNote cL_addNote 10 (some .int) [(0, 20, 23, 28), (0, 20, 27, 13), (0, 20, 31, 15)] ∈ lw_all := lw_all_t 425 (by decide +kernel) (by decide +kernel)
theorem q_ml_RL_36 : Cond.methodLink RL 36 yX2_addNote ∈ lw_all := lw_all_t 426 (by decide +kernel) (by decide +kernel)
theorem q_im_X2_addNote : Cond.instanceMethod yX2_addNote ∈ lw_all := lw_all_t 427 (by decide +kernel) (by decide +kernel)
theorem q_sel_X2_addNote : Cond.selects RX2 yX2_addNote yX2_addNote ∈ lw_all := lw_all_t 428 (by decide +kernel) (by decide +kernel)
theorem q_code_X2_addNote : Cond.code yX2_addNote cX2_addNote 14 (some .int) ∈ lw_all := lw_all_t 429 (by decide +kernel) (by decide +kernel)
theorem q_ml_RX2_93 : Cond.methodLink RX2 93 yX2_requireVoice ∈ lw_all := lw_all_t 430 (by decide +kernel) (by decide +kernel)
theorem q_im_X2_requireVoice : Cond.instanceMethod yX2_requireVoice ∈ lw_all := lw_all_t 432 (by decide +kernel) (by decide +kernel)
theorem q_code_X2_requireVoice : Cond.code yX2_requireVoice cX2_requireVoice 2 none ∈ lw_all := lw_all_t 433 (by decide +kernel) (by decide +kernel)
theorem q_ml_RX2_97 : Cond.methodLink RX2 97 yX2_isPitch ∈ lw_all := lw_all_t 435 (by decide +kernel) (by decide +kernel)
theorem q_st_X2_isPitch : Cond.static yX2_isPitch ∈ lw_all := lw_all_t 436 (by decide +kernel) (by decide +kernel)
theorem q_code_X2_isPitch : Cond.code yX2_isPitch cX2_isPitch 3 (some .boolean) ∈ lw_all := lw_all_t 437 (by decide +kernel) (by decide +kernel)
theorem q_ml_RX2_269 : Cond.methodLink RX2 269 yX2_toneOf ∈ lw_all := lw_all_t 438 (by decide +kernel) (by decide +kernel)
theorem q_st_X2_toneOf : Cond.static yX2_toneOf ∈ lw_all := lw_all_t 439 (by decide +kernel) (by decide +kernel)
theorem q_code_X2_toneOf : Cond.code yX2_toneOf cX2_toneOf 3 (some .int) ∈ lw_all := lw_all_t 440 (by decide +kernel) (by decide +kernel)
theorem q_fl_RX2_254 : Cond.fieldLink RX2 254 "ScorePress" "STEP_TONES" "[I" ∈ lw_all := lw_all_t 441 (by decide +kernel) (by decide +kernel)
theorem q_ml_RX2_106 : Cond.methodLink RX2 106 yX2_addPieces ∈ lw_all := lw_all_t 444 (by decide +kernel) (by decide +kernel)
theorem q_im_X2_addPieces : Cond.instanceMethod yX2_addPieces ∈ lw_all := lw_all_t 446 (by decide +kernel) (by decide +kernel)
theorem q_code_X2_addPieces : Cond.code yX2_addPieces cX2_addPieces 5 (some .int) ∈ lw_all := lw_all_t 447 (by decide +kernel) (by decide +kernel)
theorem q_ml_RX2_229 : Cond.methodLink RX2 229 yX2_planPieces ∈ lw_all := lw_all_t 448 (by decide +kernel) (by decide +kernel)
theorem q_im_X2_planPieces : Cond.instanceMethod yX2_planPieces ∈ lw_all := lw_all_t 450 (by decide +kernel) (by decide +kernel)
theorem q_code_X2_planPieces : Cond.code yX2_planPieces cX2_planPieces 7 (some .int) ∈ lw_all := lw_all_t 451 (by decide +kernel) (by decide +kernel)
theorem q_ml_RX2_239 : Cond.methodLink RX2 239 yJ9_min_7cf53 ∈ lw_all := lw_all_t 452 (by decide +kernel) (by decide +kernel)
theorem q_ml_RX2_242 : Cond.methodLink RX2 242 yX2_greatestValue ∈ lw_all := lw_all_t 453 (by decide +kernel) (by decide +kernel)
theorem q_st_X2_greatestValue : Cond.static yX2_greatestValue ∈ lw_all := lw_all_t 454 (by decide +kernel) (by decide +kernel)
theorem q_code_X2_greatestValue : Cond.code yX2_greatestValue cX2_greatestValue 2 (some .int) ∈ lw_all := lw_all_t 455 (by decide +kernel) (by decide +kernel)
theorem q_ml_RX2_236 : Cond.methodLink RX2 236 yX1_append ∈ lw_all := lw_all_t 458 (by decide +kernel) (by decide +kernel)
theorem q_im_X1_append : Cond.instanceMethod yX1_append ∈ lw_all := lw_all_t 459 (by decide +kernel) (by decide +kernel)
theorem q_sel_X1_append : Cond.selects RX1 yX1_append yX1_append ∈ lw_all := lw_all_t 460 (by decide +kernel) (by decide +kernel)
theorem q_code_X1_append : Cond.code yX1_append cX1_append 3 none ∈ lw_all := lw_all_t 461 (by decide +kernel) (by decide +kernel)
theorem n_fl_RX1_55 : Cond.fieldLinkNest RX1 55 "ScorePress" "VALUE_TICKS" "[I" RX2 ∈ lw_tbl := lw_tbl_t 462 (by decide +kernel)
theorem n_fl_RX1_58 : Cond.fieldLinkNest RX1 58 "ScorePress" "VALUE_PARTS" "[I" RX2 ∈ lw_tbl := lw_tbl_t 463 (by decide +kernel)
theorem n_fl_RX1_61 : Cond.fieldLinkNest RX1 61 "ScorePress" "VALUE_DOTS" "[I" RX2 ∈ lw_tbl := lw_tbl_t 464 (by decide +kernel)
theorem q_ml_RX2_110 : Cond.methodLink RX2 110 yX1_putPitch ∈ lw_all := lw_all_t 465 (by decide +kernel) (by decide +kernel)
theorem q_im_X1_putPitch : Cond.instanceMethod yX1_putPitch ∈ lw_all := lw_all_t 466 (by decide +kernel) (by decide +kernel)
theorem q_sel_X1_putPitch : Cond.selects RX1 yX1_putPitch yX1_putPitch ∈ lw_all := lw_all_t 467 (by decide +kernel) (by decide +kernel)
theorem q_code_X1_putPitch : Cond.code yX1_putPitch cX1_putPitch 5 none ∈ lw_all := lw_all_t 468 (by decide +kernel) (by decide +kernel)
theorem n_ml_RX1_64 : Cond.methodLinkNest RX1 64 yX2_toneOf RX2 ∈ lw_tbl := lw_tbl_t 469 (by decide +kernel)
theorem q_ml_RX2_118 : Cond.methodLink RX2 118 yX2_arrangeOne ∈ lw_all := lw_all_t 470 (by decide +kernel) (by decide +kernel)
theorem q_im_X2_arrangeOne : Cond.instanceMethod yX2_arrangeOne ∈ lw_all := lw_all_t 472 (by decide +kernel) (by decide +kernel)
theorem q_code_X2_arrangeOne : Cond.code yX2_arrangeOne cX2_arrangeOne 2 none ∈ lw_all := lw_all_t 473 (by decide +kernel) (by decide +kernel)
theorem q_ml_RL_107 : Cond.methodLink RL 107 yL_addRest ∈ lw_all := lw_all_t 474 (by decide +kernel) (by decide +kernel)
theorem q_st_L_addRest : Cond.static yL_addRest ∈ lw_all := lw_all_t 475 (by decide +kernel) (by decide +kernel)
theorem q_code_L_addRest : Cond.codeWith yL_addRest cL_addRest 6 (some .int) [(0, 12, 15, 28), (0, 12, 19, 13), (0, 12, 23, 15)] ∈ lw_all := lw_all_t 476 (by decide +kernel) (by decide +kernel)
theorem q_ml_RL_40 : Cond.methodLink RL 40 yX2_addRest ∈ lw_all := lw_all_t 477 (by decide +kernel) (by decide +kernel)
theorem q_im_X2_addRest : Cond.instanceMethod yX2_addRest ∈ lw_all := lw_all_t 478 (by decide +kernel) (by decide +kernel)
theorem q_sel_X2_addRest : Cond.selects RX2 yX2_addRest yX2_addRest ∈ lw_all := lw_all_t 479 (by decide +kernel) (by decide +kernel)
theorem q_code_X2_addRest : Cond.code yX2_addRest cX2_addRest 6 (some .int) ∈ lw_all := lw_all_t 480 (by decide +kernel) (by decide +kernel)
theorem q_ml_RL_111 : Cond.methodLink RL 111 yL_removeLast ∈ lw_all := lw_all_t 481 (by decide +kernel) (by decide +kernel)
theorem q_st_L_removeLast : Cond.static yL_removeLast ∈ lw_all := lw_all_t 482 (by decide +kernel) (by decide +kernel)
theorem q_code_L_removeLast : Cond.codeWith yL_removeLast cL_removeLast 4 (some .int) [(0, 9, 12, 28), (0, 9, 15, 15)] ∈ lw_all := lw_all_t 483 (by decide +kernel) (by decide +kernel)
theorem q_ml_RL_44 : Cond.methodLink RL 44 yX2_removeLast ∈ lw_all := lw_all_t 484 (by decide +kernel) (by decide +kernel)
theorem q_im_X2_removeLast : Cond.instanceMethod yX2_removeLast ∈ lw_all := lw_all_t 485 (by decide +kernel) (by decide +kernel)
theorem q_sel_X2_removeLast : Cond.selects RX2 yX2_removeLast yX2_removeLast ∈ lw_all := lw_all_t 486 (by decide +kernel) (by decide +kernel)
theorem q_code_X2_removeLast : Cond.code yX2_removeLast cX2_removeLast 3 (some .int) ∈ lw_all := lw_all_t 487 (by decide +kernel) (by decide +kernel)
theorem q_ml_RX2_124 : Cond.methodLink RX2 124 yX1_dropLast ∈ lw_all := lw_all_t 489 (by decide +kernel) (by decide +kernel)
theorem q_im_X1_dropLast : Cond.instanceMethod yX1_dropLast ∈ lw_all := lw_all_t 490 (by decide +kernel) (by decide +kernel)
theorem q_sel_X1_dropLast : Cond.selects RX1 yX1_dropLast yX1_dropLast ∈ lw_all := lw_all_t 491 (by decide +kernel) (by decide +kernel)
theorem q_code_X1_dropLast : Cond.code yX1_dropLast cX1_dropLast 1 none ∈ lw_all := lw_all_t 492 (by decide +kernel) (by decide +kernel)
theorem q_ml_RL_114 : Cond.methodLink RL 114 yL_tie ∈ lw_all := lw_all_t 493 (by decide +kernel) (by decide +kernel)
theorem q_st_L_tie : Cond.static yL_tie ∈ lw_all := lw_all_t 494 (by decide +kernel) (by decide +kernel)
theorem q_code_L_tie : Cond.codeWith yL_tie cL_tie 6 (some .int) [(0, 19, 22, 28), (0, 19, 26, 15)] ∈ lw_all := lw_all_t 495 (by decide +kernel) (by decide +kernel)
theorem q_ml_RL_47 : Cond.methodLink RL 47 yX2_tie ∈ lw_all := lw_all_t 496 (by decide +kernel) (by decide +kernel)
theorem q_im_X2_tie : Cond.instanceMethod yX2_tie ∈ lw_all := lw_all_t 497 (by decide +kernel) (by decide +kernel)
theorem q_sel_X2_tie : Cond.selects RX2 yX2_tie yX2_tie ∈ lw_all := lw_all_t 498 (by decide +kernel) (by decide +kernel)
theorem q_code_X2_tie : Cond.code yX2_tie cX2_tie 6 (some .boolean) ∈ lw_all := lw_all_t 499 (by decide +kernel) (by decide +kernel)
theorem q_ml_RX2_127 : Cond.methodLink RX2 127 yX2_requireElement ∈ lw_all := lw_all_t 500 (by decide +kernel) (by decide +kernel)
theorem q_im_X2_requireElement : Cond.instanceMethod yX2_requireElement ∈ lw_all := lw_all_t 502 (by decide +kernel) (by decide +kernel)
theorem q_code_X2_requireElement : Cond.code yX2_requireElement cX2_requireElement 3 none ∈ lw_all := lw_all_t 503 (by decide +kernel) (by decide +kernel)
theorem q_ml_RX2_136 : Cond.methodLink RX2 136 yX1_isTied ∈ lw_all := lw_all_t 506 (by decide +kernel) (by decide +kernel)
theorem q_ml_RL_118 : Cond.methodLink RL 118 yL_element ∈ lw_all := lw_all_t 507 (by decide +kernel) (by decide +kernel)
theorem q_st_L_element : Cond.static yL_element ∈ lw_all := lw_all_t 508 (by decide +kernel) (by decide +kernel)
theorem q_code_L_element : Cond.codeWith yL_element cL_element 6 (some .int) [(0, 12, 15, 28)] ∈ lw_all := lw_all_t 509 (by decide +kernel) (by decide +kernel)
theorem q_ml_RL_51 : Cond.methodLink RL 51 yX2_element ∈ lw_all := lw_all_t 510 (by decide +kernel) (by decide +kernel)
theorem q_im_X2_element : Cond.instanceMethod yX2_element ∈ lw_all := lw_all_t 511 (by decide +kernel) (by decide +kernel)
theorem q_sel_X2_element : Cond.selects RX2 yX2_element yX2_element ∈ lw_all := lw_all_t 512 (by decide +kernel) (by decide +kernel)
theorem q_code_X2_element : Cond.code yX2_element cX2_element 4 (some .int) ∈ lw_all := lw_all_t 513 (by decide +kernel) (by decide +kernel)
theorem q_ml_RL_121 : Cond.methodLink RL 121 yL_pitch ∈ lw_all := lw_all_t 515 (by decide +kernel) (by decide +kernel)
theorem q_st_L_pitch : Cond.static yL_pitch ∈ lw_all := lw_all_t 516 (by decide +kernel) (by decide +kernel)
theorem q_code_L_pitch : Cond.codeWith yL_pitch cL_pitch 6 (some .int) [(0, 12, 15, 28), (0, 12, 19, 15)] ∈ lw_all := lw_all_t 517 (by decide +kernel) (by decide +kernel)
theorem q_ml_RL_54 : Cond.methodLink RL 54 yX2_pitch ∈ lw_all := lw_all_t 518 (by decide +kernel) (by decide +kernel)
theorem q_im_X2_pitch : Cond.instanceMethod yX2_pitch ∈ lw_all := lw_all_t 519 (by decide +kernel) (by decide +kernel)
theorem q_sel_X2_pitch : Cond.selects RX2 yX2_pitch yX2_pitch ∈ lw_all := lw_all_t 520 (by decide +kernel) (by decide +kernel)
theorem q_code_X2_pitch : Cond.code yX2_pitch cX2_pitch 4 (some .int) ∈ lw_all := lw_all_t 521 (by decide +kernel) (by decide +kernel)
theorem q_ml_RL_124 : Cond.methodLink RL 124 yL_voice ∈ lw_all := lw_all_t 523 (by decide +kernel) (by decide +kernel)
theorem q_st_L_voice : Cond.static yL_voice ∈ lw_all := lw_all_t 524 (by decide +kernel) (by decide +kernel)
theorem q_code_L_voice : Cond.codeWith yL_voice cL_voice 5 (some .int) [(0, 10, 13, 28)] ∈ lw_all := lw_all_t 525 (by decide +kernel) (by decide +kernel)
theorem q_ml_RL_57 : Cond.methodLink RL 57 yX2_voice ∈ lw_all := lw_all_t 526 (by decide +kernel) (by decide +kernel)
theorem q_im_X2_voice : Cond.instanceMethod yX2_voice ∈ lw_all := lw_all_t 527 (by decide +kernel) (by decide +kernel)
theorem q_sel_X2_voice : Cond.selects RX2 yX2_voice yX2_voice ∈ lw_all := lw_all_t 528 (by decide +kernel) (by decide +kernel)
theorem q_code_X2_voice : Cond.code yX2_voice cX2_voice 3 (some .int) ∈ lw_all := lw_all_t 529 (by decide +kernel) (by decide +kernel)
theorem q_ml_RL_127 : Cond.methodLink RL 127 yL_transpose ∈ lw_all := lw_all_t 531 (by decide +kernel) (by decide +kernel)
theorem q_st_L_transpose : Cond.static yL_transpose ∈ lw_all := lw_all_t 532 (by decide +kernel) (by decide +kernel)
theorem q_code_L_transpose : Cond.codeWith yL_transpose cL_transpose 5 (some .int) [(0, 10, 13, 13), (0, 10, 17, 15)] ∈ lw_all := lw_all_t 533 (by decide +kernel) (by decide +kernel)
theorem q_ml_RL_60 : Cond.methodLink RL 60 yX2_transpose ∈ lw_all := lw_all_t 534 (by decide +kernel) (by decide +kernel)
theorem q_im_X2_transpose : Cond.instanceMethod yX2_transpose ∈ lw_all := lw_all_t 535 (by decide +kernel) (by decide +kernel)
theorem q_sel_X2_transpose : Cond.selects RX2 yX2_transpose yX2_transpose ∈ lw_all := lw_all_t 536 (by decide +kernel) (by decide +kernel)
theorem q_code_X2_transpose : Cond.code yX2_transpose cX2_transpose 5 (some .int) ∈ lw_all := lw_all_t 537 (by decide +kernel) (by decide +kernel)
theorem q_ml_RX2_156 : Cond.methodLink RX2 156 yX1_canTranspose ∈ lw_all := lw_all_t 540 (by decide +kernel) (by decide +kernel)
theorem q_im_X1_canTranspose : Cond.instanceMethod yX1_canTranspose ∈ lw_all := lw_all_t 541 (by decide +kernel) (by decide +kernel)
theorem q_sel_X1_canTranspose : Cond.selects RX1 yX1_canTranspose yX1_canTranspose ∈ lw_all := lw_all_t 542 (by decide +kernel) (by decide +kernel)
theorem q_code_X1_canTranspose : Cond.code yX1_canTranspose cX1_canTranspose 6 (some .boolean) ∈ lw_all := lw_all_t 543 (by decide +kernel) (by decide +kernel)
theorem n_ml_RX1_72 : Cond.methodLinkNest RX1 72 yX2_signAt RX2 ∈ lw_tbl := lw_tbl_t 544 (by decide +kernel)
theorem q_st_X2_signAt : Cond.static yX2_signAt ∈ lw_all := lw_all_t 545 (by decide +kernel) (by decide +kernel)
theorem q_code_X2_signAt : Cond.code yX2_signAt cX2_signAt 2 (some .int) ∈ lw_all := lw_all_t 546 (by decide +kernel) (by decide +kernel)
theorem q_ml_RX2_263 : Cond.methodLink RX2 263 yX2_stepAt ∈ lw_all := lw_all_t 547 (by decide +kernel) (by decide +kernel)
theorem q_st_X2_stepAt : Cond.static yX2_stepAt ∈ lw_all := lw_all_t 548 (by decide +kernel) (by decide +kernel)
theorem q_code_X2_stepAt : Cond.code yX2_stepAt cX2_stepAt 1 (some .int) ∈ lw_all := lw_all_t 549 (by decide +kernel) (by decide +kernel)
theorem q_ml_RX2_266 : Cond.methodLink RX2 266 yX2_octaveAt ∈ lw_all := lw_all_t 550 (by decide +kernel) (by decide +kernel)
theorem q_st_X2_octaveAt : Cond.static yX2_octaveAt ∈ lw_all := lw_all_t 551 (by decide +kernel) (by decide +kernel)
theorem q_code_X2_octaveAt : Cond.code yX2_octaveAt cX2_octaveAt 1 (some .int) ∈ lw_all := lw_all_t 552 (by decide +kernel) (by decide +kernel)
theorem q_ml_RX2_260 : Cond.methodLink RX2 260 yJ9_floorDiv_7cf53 ∈ lw_all := lw_all_t 553 (by decide +kernel) (by decide +kernel)
theorem q_st_J9_floorDiv_7cf53 : Cond.static yJ9_floorDiv_7cf53 ∈ lw_all := lw_all_t 554 (by decide +kernel) (by decide +kernel)
theorem q_code_J9_floorDiv_7cf53 : Cond.code yJ9_floorDiv_7cf53 cJ9_floorDiv_7cf53 3 (some .int) ∈ lw_all := lw_all_t 555 (by decide +kernel) (by decide +kernel)
theorem n_ml_RX1_79 : Cond.methodLinkNest RX1 79 yX2_stepAt RX2 ∈ lw_tbl := lw_tbl_t 556 (by decide +kernel)
theorem n_ml_RX1_82 : Cond.methodLinkNest RX1 82 yX2_octaveAt RX2 ∈ lw_tbl := lw_tbl_t 557 (by decide +kernel)
theorem n_ml_RX1_85 : Cond.methodLinkNest RX1 85 yX2_isPitch RX2 ∈ lw_tbl := lw_tbl_t 558 (by decide +kernel)
theorem q_ml_RX2_162 : Cond.methodLink RX2 162 yX1_moveNotes ∈ lw_all := lw_all_t 560 (by decide +kernel) (by decide +kernel)
theorem q_im_X1_moveNotes : Cond.instanceMethod yX1_moveNotes ∈ lw_all := lw_all_t 561 (by decide +kernel) (by decide +kernel)
theorem q_sel_X1_moveNotes : Cond.selects RX1 yX1_moveNotes yX1_moveNotes ∈ lw_all := lw_all_t 562 (by decide +kernel) (by decide +kernel)
theorem q_code_X1_moveNotes : Cond.code yX1_moveNotes cX1_moveNotes 6 none ∈ lw_all := lw_all_t 563 (by decide +kernel) (by decide +kernel)
theorem q_ml_RX1_89 : Cond.methodLink RX1 89 yX1_putPitch ∈ lw_all := lw_all_t 564 (by decide +kernel) (by decide +kernel)
theorem q_ml_RL_134 : Cond.methodLink RL 134 yL_interval ∈ lw_all := lw_all_t 565 (by decide +kernel) (by decide +kernel)
theorem q_st_L_interval : Cond.static yL_interval ∈ lw_all := lw_all_t 566 (by decide +kernel) (by decide +kernel)
theorem q_code_L_interval : Cond.codeWith yL_interval cL_interval 6 (some .int) [(0, 12, 15, 28), (0, 12, 19, 13)] ∈ lw_all := lw_all_t 567 (by decide +kernel) (by decide +kernel)
theorem q_ml_RL_63 : Cond.methodLink RL 63 yX2_interval ∈ lw_all := lw_all_t 568 (by decide +kernel) (by decide +kernel)
theorem q_im_X2_interval : Cond.instanceMethod yX2_interval ∈ lw_all := lw_all_t 569 (by decide +kernel) (by decide +kernel)
theorem q_sel_X2_interval : Cond.selects RX2 yX2_interval yX2_interval ∈ lw_all := lw_all_t 570 (by decide +kernel) (by decide +kernel)
theorem q_code_X2_interval : Cond.code yX2_interval cX2_interval 6 (some .int) ∈ lw_all := lw_all_t 571 (by decide +kernel) (by decide +kernel)
theorem q_ml_RX2_180 : Cond.methodLink RX2 180 yX1_toneAt ∈ lw_all := lw_all_t 573 (by decide +kernel) (by decide +kernel)
theorem q_im_X1_toneAt : Cond.instanceMethod yX1_toneAt ∈ lw_all := lw_all_t 574 (by decide +kernel) (by decide +kernel)
theorem q_sel_X1_toneAt : Cond.selects RX1 yX1_toneAt yX1_toneAt ∈ lw_all := lw_all_t 575 (by decide +kernel) (by decide +kernel)
theorem q_code_X1_toneAt : Cond.code yX1_toneAt cX1_toneAt 4 (some .int) ∈ lw_all := lw_all_t 576 (by decide +kernel) (by decide +kernel)
theorem q_ml_RL_137 : Cond.methodLink RL 137 yL_event ∈ lw_all := lw_all_t 577 (by decide +kernel) (by decide +kernel)
theorem q_st_L_event : Cond.static yL_event ∈ lw_all := lw_all_t 578 (by decide +kernel) (by decide +kernel)
theorem q_code_L_event : Cond.codeWith yL_event cL_event 5 (some .int) [(0, 10, 13, 28)] ∈ lw_all := lw_all_t 579 (by decide +kernel) (by decide +kernel)
theorem q_ml_RL_66 : Cond.methodLink RL 66 yX2_event ∈ lw_all := lw_all_t 580 (by decide +kernel) (by decide +kernel)
theorem q_im_X2_event : Cond.instanceMethod yX2_event ∈ lw_all := lw_all_t 581 (by decide +kernel) (by decide +kernel)
theorem q_sel_X2_event : Cond.selects RX2 yX2_event yX2_event ∈ lw_all := lw_all_t 582 (by decide +kernel) (by decide +kernel)
theorem q_code_X2_event : Cond.code yX2_event cX2_event 3 (some .int) ∈ lw_all := lw_all_t 583 (by decide +kernel) (by decide +kernel)
theorem q_ml_RL_144 : Cond.methodLink RL 144 yL_time ∈ lw_all := lw_all_t 586 (by decide +kernel) (by decide +kernel)
theorem q_st_L_time : Cond.static yL_time ∈ lw_all := lw_all_t 587 (by decide +kernel) (by decide +kernel)
theorem q_code_L_time : Cond.codeWith yL_time cL_time 5 (some .int) [(0, 9, 12, 13)] ∈ lw_all := lw_all_t 588 (by decide +kernel) (by decide +kernel)
theorem q_ml_RL_69 : Cond.methodLink RL 69 yX2_time ∈ lw_all := lw_all_t 589 (by decide +kernel) (by decide +kernel)
theorem q_im_X2_time : Cond.instanceMethod yX2_time ∈ lw_all := lw_all_t 590 (by decide +kernel) (by decide +kernel)
theorem q_sel_X2_time : Cond.selects RX2 yX2_time yX2_time ∈ lw_all := lw_all_t 591 (by decide +kernel) (by decide +kernel)
theorem q_code_X2_time : Cond.code yX2_time cX2_time 3 (some .long) ∈ lw_all := lw_all_t 592 (by decide +kernel) (by decide +kernel)
theorem q_k_RX2_194 : Cond.constant RX2 194 100000 ∈ lw_all := lw_all_t 593 (by decide +kernel) (by decide +kernel)
theorem q_k_RX2_197 : Cond.constantLong RX2 197 625000 ∈ lw_all := lw_all_t 595 (by decide +kernel) (by decide +kernel)
theorem q_cl_RL_74 : Cond.classLink RL 74 RX3 ∈ lw_all := lw_all_t 596 (by decide +kernel) (by decide +kernel)
theorem q_inst_RX3 : Cond.instantiable RX3 12 ∈ lw_all := lw_all_t 597 (by decide +kernel) (by decide +kernel)
theorem q_ml_RL_76 : Cond.methodLink RL 76 yX3_init ∈ lw_all := lw_all_t 598 (by decide +kernel) (by decide +kernel)
theorem q_im_X3_init : Cond.instanceMethod yX3_init ∈ lw_all := lw_all_t 599 (by decide +kernel) (by decide +kernel)
theorem q_code_X3_init : Cond.code yX3_init cX3_init 1 none ∈ lw_all := lw_all_t 600 (by decide +kernel) (by decide +kernel)
theorem q_cl_RX3_20 : Cond.classLink RX3 20 "[[I" ∈ lw_all := lw_all_t 602 (by decide +kernel) (by decide +kernel)
theorem q_fl_RX3_37 : Cond.fieldLink RX3 37 "ScorePressModel" "thrown" "I" ∈ lw_all := lw_all_t 603 (by decide +kernel) (by decide +kernel)
theorem q_fl_RX3_7 : Cond.fieldLink RX3 7 "ScorePressModel" "beats" "I" ∈ lw_all := lw_all_t 604 (by decide +kernel) (by decide +kernel)
theorem q_fl_RX3_13 : Cond.fieldLink RX3 13 "ScorePressModel" "part" "I" ∈ lw_all := lw_all_t 605 (by decide +kernel) (by decide +kernel)
theorem q_fl_RX3_74 : Cond.fieldLink RX3 74 "ScorePressModel" "key" "I" ∈ lw_all := lw_all_t 606 (by decide +kernel) (by decide +kernel)
theorem q_fl_RX3_40 : Cond.fieldLink RX3 40 "ScorePressModel" "voices" "I" ∈ lw_all := lw_all_t 607 (by decide +kernel) (by decide +kernel)
theorem q_fl_RX3_16 : Cond.fieldLink RX3 16 "ScorePressModel" "many" "[I" ∈ lw_all := lw_all_t 608 (by decide +kernel) (by decide +kernel)
theorem q_fl_RX3_22 : Cond.fieldLink RX3 22 "ScorePressModel" "table" "[[I" ∈ lw_all := lw_all_t 609 (by decide +kernel) (by decide +kernel)
theorem q_fl_RX3_25 : Cond.fieldLink RX3 25 "ScorePressModel" "ends" "[I" ∈ lw_all := lw_all_t 610 (by decide +kernel) (by decide +kernel)
theorem q_fl_RX3_28 : Cond.fieldLink RX3 28 "ScorePressModel" "beams" "[I" ∈ lw_all := lw_all_t 611 (by decide +kernel) (by decide +kernel)
theorem q_fl_RX3_31 : Cond.fieldLink RX3 31 "ScorePressModel" "holding" "[I" ∈ lw_all := lw_all_t 612 (by decide +kernel) (by decide +kernel)
theorem q_fl_RX3_175 : Cond.fieldLink RX3 175 "ScorePressModel" "eventMany" "I" ∈ lw_all := lw_all_t 613 (by decide +kernel) (by decide +kernel)
theorem q_fl_RX3_34 : Cond.fieldLink RX3 34 "ScorePressModel" "events" "[I" ∈ lw_all := lw_all_t 614 (by decide +kernel) (by decide +kernel)
theorem q_ml_RL_83 : Cond.methodLink RL 83 yX3_thrown ∈ lw_all := lw_all_t 640 (by decide +kernel) (by decide +kernel)
theorem q_im_X3_thrown : Cond.instanceMethod yX3_thrown ∈ lw_all := lw_all_t 641 (by decide +kernel) (by decide +kernel)
theorem q_sel_X3_thrown : Cond.selects RX3 yX3_thrown yX3_thrown ∈ lw_all := lw_all_t 642 (by decide +kernel) (by decide +kernel)
theorem q_code_X3_thrown : Cond.code yX3_thrown cX3_thrown 1 (some .int) ∈ lw_all := lw_all_t 643 (by decide +kernel) (by decide +kernel)
theorem q_ml_RL_82 : Cond.methodLink RL 82 yX3_setBars ∈ lw_all := lw_all_t 644 (by decide +kernel) (by decide +kernel)
theorem q_im_X3_setBars : Cond.instanceMethod yX3_setBars ∈ lw_all := lw_all_t 645 (by decide +kernel) (by decide +kernel)
theorem q_sel_X3_setBars : Cond.selects RX3 yX3_setBars yX3_setBars ∈ lw_all := lw_all_t 646 (by decide +kernel) (by decide +kernel)
theorem q_code_X3_setBars : Cond.code yX3_setBars cX3_setBars 4 (some .int) ∈ lw_all := lw_all_t 647 (by decide +kernel) (by decide +kernel)
theorem q_ml_RX3_43 : Cond.methodLink RX3 43 yX3_isIn ∈ lw_all := lw_all_t 648 (by decide +kernel) (by decide +kernel)
theorem q_st_X3_isIn : Cond.static yX3_isIn ∈ lw_all := lw_all_t 649 (by decide +kernel) (by decide +kernel)
theorem q_code_X3_isIn : Cond.code yX3_isIn cX3_isIn 3 (some .boolean) ∈ lw_all := lw_all_t 650 (by decide +kernel) (by decide +kernel)
theorem q_ml_RX3_77 : Cond.methodLink RX3 77 yX3_fail ∈ lw_all := lw_all_t 651 (by decide +kernel) (by decide +kernel)
theorem q_im_X3_fail : Cond.instanceMethod yX3_fail ∈ lw_all := lw_all_t 653 (by decide +kernel) (by decide +kernel)
theorem q_code_X3_fail : Cond.code yX3_fail cX3_fail 2 (some .int) ∈ lw_all := lw_all_t 654 (by decide +kernel) (by decide +kernel)
theorem q_ml_RX3_81 : Cond.methodLink RX3 81 yX3_bar ∈ lw_all := lw_all_t 655 (by decide +kernel) (by decide +kernel)
theorem q_im_X3_bar : Cond.instanceMethod yX3_bar ∈ lw_all := lw_all_t 657 (by decide +kernel) (by decide +kernel)
theorem q_code_X3_bar : Cond.code yX3_bar cX3_bar 1 (some .int) ∈ lw_all := lw_all_t 658 (by decide +kernel) (by decide +kernel)
theorem q_ml_RL_89 : Cond.methodLink RL 89 yX3_setKey ∈ lw_all := lw_all_t 659 (by decide +kernel) (by decide +kernel)
theorem q_im_X3_setKey : Cond.instanceMethod yX3_setKey ∈ lw_all := lw_all_t 660 (by decide +kernel) (by decide +kernel)
theorem q_sel_X3_setKey : Cond.selects RX3 yX3_setKey yX3_setKey ∈ lw_all := lw_all_t 661 (by decide +kernel) (by decide +kernel)
theorem q_code_X3_setKey : Cond.code yX3_setKey cX3_setKey 3 (some .int) ∈ lw_all := lw_all_t 662 (by decide +kernel) (by decide +kernel)
theorem q_ml_RL_93 : Cond.methodLink RL 93 yX3_addVoice ∈ lw_all := lw_all_t 663 (by decide +kernel) (by decide +kernel)
theorem q_im_X3_addVoice : Cond.instanceMethod yX3_addVoice ∈ lw_all := lw_all_t 664 (by decide +kernel) (by decide +kernel)
theorem q_sel_X3_addVoice : Cond.selects RX3 yX3_addVoice yX3_addVoice ∈ lw_all := lw_all_t 665 (by decide +kernel) (by decide +kernel)
theorem q_code_X3_addVoice : Cond.code yX3_addVoice cX3_addVoice 1 (some .int) ∈ lw_all := lw_all_t 666 (by decide +kernel) (by decide +kernel)
theorem q_ml_RL_96 : Cond.methodLink RL 96 yX3_score ∈ lw_all := lw_all_t 667 (by decide +kernel) (by decide +kernel)
theorem q_im_X3_score : Cond.instanceMethod yX3_score ∈ lw_all := lw_all_t 668 (by decide +kernel) (by decide +kernel)
theorem q_sel_X3_score : Cond.selects RX3 yX3_score yX3_score ∈ lw_all := lw_all_t 669 (by decide +kernel) (by decide +kernel)
theorem q_code_X3_score : Cond.code yX3_score cX3_score 2 (some .int) ∈ lw_all := lw_all_t 670 (by decide +kernel) (by decide +kernel)
theorem q_ml_RX3_100 : Cond.methodLink RX3 100 yX3_scoreTold ∈ lw_all := lw_all_t 671 (by decide +kernel) (by decide +kernel)
theorem q_im_X3_scoreTold : Cond.instanceMethod yX3_scoreTold ∈ lw_all := lw_all_t 673 (by decide +kernel) (by decide +kernel)
theorem q_code_X3_scoreTold : Cond.code yX3_scoreTold cX3_scoreTold 5 (some .int) ∈ lw_all := lw_all_t 674 (by decide +kernel) (by decide +kernel)
theorem q_ml_RX3_97 : Cond.methodLink RX3 97 yX3_barsBegun ∈ lw_all := lw_all_t 675 (by decide +kernel) (by decide +kernel)
theorem q_im_X3_barsBegun : Cond.instanceMethod yX3_barsBegun ∈ lw_all := lw_all_t 677 (by decide +kernel) (by decide +kernel)
theorem q_code_X3_barsBegun : Cond.code yX3_barsBegun cX3_barsBegun 3 (some .int) ∈ lw_all := lw_all_t 678 (by decide +kernel) (by decide +kernel)
theorem q_ml_RX3_88 : Cond.methodLink RX3 88 yX3_findTimes ∈ lw_all := lw_all_t 679 (by decide +kernel) (by decide +kernel)
theorem q_im_X3_findTimes : Cond.instanceMethod yX3_findTimes ∈ lw_all := lw_all_t 681 (by decide +kernel) (by decide +kernel)
theorem q_code_X3_findTimes : Cond.code yX3_findTimes cX3_findTimes 4 none ∈ lw_all := lw_all_t 682 (by decide +kernel) (by decide +kernel)
theorem q_ml_RX3_85 : Cond.methodLink RX3 85 yX3_length ∈ lw_all := lw_all_t 683 (by decide +kernel) (by decide +kernel)
theorem q_im_X3_length : Cond.instanceMethod yX3_length ∈ lw_all := lw_all_t 685 (by decide +kernel) (by decide +kernel)
theorem q_code_X3_length : Cond.code yX3_length cX3_length 3 (some .int) ∈ lw_all := lw_all_t 686 (by decide +kernel) (by decide +kernel)
theorem q_ml_RX3_57 : Cond.methodLink RX3 57 yX3_get ∈ lw_all := lw_all_t 687 (by decide +kernel) (by decide +kernel)
theorem q_im_X3_get : Cond.instanceMethod yX3_get ∈ lw_all := lw_all_t 689 (by decide +kernel) (by decide +kernel)
theorem q_code_X3_get : Cond.code yX3_get cX3_get 4 (some .int) ∈ lw_all := lw_all_t 690 (by decide +kernel) (by decide +kernel)
theorem q_ml_RX3_61 : Cond.methodLink RX3 61 yX3_ticksOf ∈ lw_all := lw_all_t 691 (by decide +kernel) (by decide +kernel)
theorem q_st_X3_ticksOf : Cond.static yX3_ticksOf ∈ lw_all := lw_all_t 692 (by decide +kernel) (by decide +kernel)
theorem q_code_X3_ticksOf : Cond.code yX3_ticksOf cX3_ticksOf 3 (some .int) ∈ lw_all := lw_all_t 693 (by decide +kernel) (by decide +kernel)
theorem q_ml_RX3_92 : Cond.methodLink RX3 92 yJ9_max_7cf53 ∈ lw_all := lw_all_t 694 (by decide +kernel) (by decide +kernel)
theorem q_ml_RL_99 : Cond.methodLink RL 99 yX3_sign ∈ lw_all := lw_all_t 695 (by decide +kernel) (by decide +kernel)
theorem q_im_X3_sign : Cond.instanceMethod yX3_sign ∈ lw_all := lw_all_t 696 (by decide +kernel) (by decide +kernel)
theorem q_sel_X3_sign : Cond.selects RX3 yX3_sign yX3_sign ∈ lw_all := lw_all_t 697 (by decide +kernel) (by decide +kernel)
theorem q_code_X3_sign : Cond.code yX3_sign cX3_sign 2 (some .int) ∈ lw_all := lw_all_t 698 (by decide +kernel) (by decide +kernel)
theorem q_ml_RX3_103 : Cond.methodLink RX3 103 yX3_signOf ∈ lw_all := lw_all_t 699 (by decide +kernel) (by decide +kernel)
theorem q_im_X3_signOf : Cond.instanceMethod yX3_signOf ∈ lw_all := lw_all_t 701 (by decide +kernel) (by decide +kernel)
theorem q_code_X3_signOf : Cond.code yX3_signOf cX3_signOf 3 (some .int) ∈ lw_all := lw_all_t 702 (by decide +kernel) (by decide +kernel)
theorem q_fl_RX3_71 : Cond.fieldLink RX3 71 "ScorePressModel" "RAISED" "[I" ∈ lw_all := lw_all_t 703 (by decide +kernel) (by decide +kernel)
theorem q_ml_RL_102 : Cond.methodLink RL 102 yX3_ticks ∈ lw_all := lw_all_t 705 (by decide +kernel) (by decide +kernel)
theorem q_im_X3_ticks : Cond.instanceMethod yX3_ticks ∈ lw_all := lw_all_t 706 (by decide +kernel) (by decide +kernel)
theorem q_sel_X3_ticks : Cond.selects RX3 yX3_ticks yX3_ticks ∈ lw_all := lw_all_t 707 (by decide +kernel) (by decide +kernel)
theorem q_code_X3_ticks : Cond.code yX3_ticks cX3_ticks 3 (some .int) ∈ lw_all := lw_all_t 708 (by decide +kernel) (by decide +kernel)
theorem q_ml_RX3_106 : Cond.methodLink RX3 106 yX3_isValue ∈ lw_all := lw_all_t 709 (by decide +kernel) (by decide +kernel)
theorem q_st_X3_isValue : Cond.static yX3_isValue ∈ lw_all := lw_all_t 710 (by decide +kernel) (by decide +kernel)
theorem q_code_X3_isValue : Cond.code yX3_isValue cX3_isValue 4 (some .boolean) ∈ lw_all := lw_all_t 711 (by decide +kernel) (by decide +kernel)
theorem q_fl_RX3_51 : Cond.fieldLink RX3 51 "ScorePressModel" "PARTS" "[I" ∈ lw_all := lw_all_t 712 (by decide +kernel) (by decide +kernel)
theorem q_fl_RX3_54 : Cond.fieldLink RX3 54 "ScorePressModel" "DOTS" "[I" ∈ lw_all := lw_all_t 714 (by decide +kernel) (by decide +kernel)
theorem q_ml_RL_106 : Cond.methodLink RL 106 yX3_addNote ∈ lw_all := lw_all_t 716 (by decide +kernel) (by decide +kernel)
theorem q_im_X3_addNote : Cond.instanceMethod yX3_addNote ∈ lw_all := lw_all_t 717 (by decide +kernel) (by decide +kernel)
theorem q_sel_X3_addNote : Cond.selects RX3 yX3_addNote yX3_addNote ∈ lw_all := lw_all_t 718 (by decide +kernel) (by decide +kernel)
theorem q_code_X3_addNote : Cond.code yX3_addNote cX3_addNote 8 (some .int) ∈ lw_all := lw_all_t 719 (by decide +kernel) (by decide +kernel)
theorem q_ml_RX3_123 : Cond.methodLink RX3 123 yX3_isPitch ∈ lw_all := lw_all_t 720 (by decide +kernel) (by decide +kernel)
theorem q_st_X3_isPitch : Cond.static yX3_isPitch ∈ lw_all := lw_all_t 721 (by decide +kernel) (by decide +kernel)
theorem q_code_X3_isPitch : Cond.code yX3_isPitch cX3_isPitch 3 (some .boolean) ∈ lw_all := lw_all_t 722 (by decide +kernel) (by decide +kernel)
theorem q_ml_RX3_65 : Cond.methodLink RX3 65 yX3_toneOf ∈ lw_all := lw_all_t 723 (by decide +kernel) (by decide +kernel)
theorem q_st_X3_toneOf : Cond.static yX3_toneOf ∈ lw_all := lw_all_t 724 (by decide +kernel) (by decide +kernel)
theorem q_code_X3_toneOf : Cond.code yX3_toneOf cX3_toneOf 3 (some .int) ∈ lw_all := lw_all_t 725 (by decide +kernel) (by decide +kernel)
theorem q_fl_RX3_68 : Cond.fieldLink RX3 68 "ScorePressModel" "TONES" "[I" ∈ lw_all := lw_all_t 726 (by decide +kernel) (by decide +kernel)
theorem q_ml_RX3_126 : Cond.methodLink RX3 126 yX3_add ∈ lw_all := lw_all_t 728 (by decide +kernel) (by decide +kernel)
theorem q_im_X3_add : Cond.instanceMethod yX3_add ∈ lw_all := lw_all_t 730 (by decide +kernel) (by decide +kernel)
theorem q_code_X3_add : Cond.code yX3_add cX3_add 5 (some .int) ∈ lw_all := lw_all_t 731 (by decide +kernel) (by decide +kernel)
theorem q_ml_RX3_47 : Cond.methodLink RX3 47 yX3_isVoice ∈ lw_all := lw_all_t 732 (by decide +kernel) (by decide +kernel)
theorem q_im_X3_isVoice : Cond.instanceMethod yX3_isVoice ∈ lw_all := lw_all_t 734 (by decide +kernel) (by decide +kernel)
theorem q_code_X3_isVoice : Cond.code yX3_isVoice cX3_isVoice 2 (some .boolean) ∈ lw_all := lw_all_t 735 (by decide +kernel) (by decide +kernel)
theorem q_ml_RX3_119 : Cond.methodLink RX3 119 yX3_cut ∈ lw_all := lw_all_t 736 (by decide +kernel) (by decide +kernel)
theorem q_im_X3_cut : Cond.instanceMethod yX3_cut ∈ lw_all := lw_all_t 738 (by decide +kernel) (by decide +kernel)
theorem q_code_X3_cut : Cond.code yX3_cut cX3_cut 13 (some .int) ∈ lw_all := lw_all_t 739 (by decide +kernel) (by decide +kernel)
theorem q_ml_RX3_110 : Cond.methodLink RX3 110 yJ9_min_7cf53 ∈ lw_all := lw_all_t 740 (by decide +kernel) (by decide +kernel)
theorem q_ml_RL_110 : Cond.methodLink RL 110 yX3_addRest ∈ lw_all := lw_all_t 744 (by decide +kernel) (by decide +kernel)
theorem q_im_X3_addRest : Cond.instanceMethod yX3_addRest ∈ lw_all := lw_all_t 745 (by decide +kernel) (by decide +kernel)
theorem q_sel_X3_addRest : Cond.selects RX3 yX3_addRest yX3_addRest ∈ lw_all := lw_all_t 746 (by decide +kernel) (by decide +kernel)
theorem q_code_X3_addRest : Cond.code yX3_addRest cX3_addRest 4 (some .int) ∈ lw_all := lw_all_t 747 (by decide +kernel) (by decide +kernel)
theorem q_ml_RL_113 : Cond.methodLink RL 113 yX3_removeLast ∈ lw_all := lw_all_t 748 (by decide +kernel) (by decide +kernel)
theorem q_im_X3_removeLast : Cond.instanceMethod yX3_removeLast ∈ lw_all := lw_all_t 749 (by decide +kernel) (by decide +kernel)
theorem q_sel_X3_removeLast : Cond.selects RX3 yX3_removeLast yX3_removeLast ∈ lw_all := lw_all_t 750 (by decide +kernel) (by decide +kernel)
theorem q_code_X3_removeLast : Cond.code yX3_removeLast cX3_removeLast 2 (some .int) ∈ lw_all := lw_all_t 751 (by decide +kernel) (by decide +kernel)
theorem q_ml_RL_117 : Cond.methodLink RL 117 yX3_tie ∈ lw_all := lw_all_t 752 (by decide +kernel) (by decide +kernel)
theorem q_im_X3_tie : Cond.instanceMethod yX3_tie ∈ lw_all := lw_all_t 753 (by decide +kernel) (by decide +kernel)
theorem q_sel_X3_tie : Cond.selects RX3 yX3_tie yX3_tie ∈ lw_all := lw_all_t 754 (by decide +kernel) (by decide +kernel)
theorem q_code_X3_tie : Cond.code yX3_tie cX3_tie 5 (some .boolean) ∈ lw_all := lw_all_t 755 (by decide +kernel) (by decide +kernel)
theorem q_ml_RX3_130 : Cond.methodLink RX3 130 yX3_isElement ∈ lw_all := lw_all_t 756 (by decide +kernel) (by decide +kernel)
theorem q_im_X3_isElement : Cond.instanceMethod yX3_isElement ∈ lw_all := lw_all_t 758 (by decide +kernel) (by decide +kernel)
theorem q_code_X3_isElement : Cond.code yX3_isElement cX3_isElement 3 (some .boolean) ∈ lw_all := lw_all_t 759 (by decide +kernel) (by decide +kernel)
theorem q_ml_RL_120 : Cond.methodLink RL 120 yX3_element ∈ lw_all := lw_all_t 760 (by decide +kernel) (by decide +kernel)
theorem q_im_X3_element : Cond.instanceMethod yX3_element ∈ lw_all := lw_all_t 761 (by decide +kernel) (by decide +kernel)
theorem q_sel_X3_element : Cond.selects RX3 yX3_element yX3_element ∈ lw_all := lw_all_t 762 (by decide +kernel) (by decide +kernel)
theorem q_code_X3_element : Cond.code yX3_element cX3_element 4 (some .int) ∈ lw_all := lw_all_t 763 (by decide +kernel) (by decide +kernel)
theorem q_ml_RX3_145 : Cond.methodLink RX3 145 yX3_find ∈ lw_all := lw_all_t 764 (by decide +kernel) (by decide +kernel)
theorem q_im_X3_find : Cond.instanceMethod yX3_find ∈ lw_all := lw_all_t 766 (by decide +kernel) (by decide +kernel)
theorem q_code_X3_find : Cond.code yX3_find cX3_find 6 none ∈ lw_all := lw_all_t 767 (by decide +kernel) (by decide +kernel)
theorem q_ml_RX3_136 : Cond.methodLink RX3 136 yX3_isJoined ∈ lw_all := lw_all_t 768 (by decide +kernel) (by decide +kernel)
theorem q_im_X3_isJoined : Cond.instanceMethod yX3_isJoined ∈ lw_all := lw_all_t 770 (by decide +kernel) (by decide +kernel)
theorem q_code_X3_isJoined : Cond.code yX3_isJoined cX3_isJoined 3 (some .boolean) ∈ lw_all := lw_all_t 771 (by decide +kernel) (by decide +kernel)
theorem q_ml_RX3_133 : Cond.methodLink RX3 133 yX3_tone ∈ lw_all := lw_all_t 772 (by decide +kernel) (by decide +kernel)
theorem q_im_X3_tone : Cond.instanceMethod yX3_tone ∈ lw_all := lw_all_t 774 (by decide +kernel) (by decide +kernel)
theorem q_code_X3_tone : Cond.code yX3_tone cX3_tone 3 (some .int) ∈ lw_all := lw_all_t 775 (by decide +kernel) (by decide +kernel)
theorem q_ml_RX3_139 : Cond.methodLink RX3 139 yX3_canBeam ∈ lw_all := lw_all_t 776 (by decide +kernel) (by decide +kernel)
theorem q_im_X3_canBeam : Cond.instanceMethod yX3_canBeam ∈ lw_all := lw_all_t 778 (by decide +kernel) (by decide +kernel)
theorem q_code_X3_canBeam : Cond.code yX3_canBeam cX3_canBeam 3 (some .boolean) ∈ lw_all := lw_all_t 779 (by decide +kernel) (by decide +kernel)
theorem q_ml_RX3_142 : Cond.methodLink RX3 142 yX3_beat ∈ lw_all := lw_all_t 780 (by decide +kernel) (by decide +kernel)
theorem q_im_X3_beat : Cond.instanceMethod yX3_beat ∈ lw_all := lw_all_t 782 (by decide +kernel) (by decide +kernel)
theorem q_code_X3_beat : Cond.code yX3_beat cX3_beat 3 (some .int) ∈ lw_all := lw_all_t 783 (by decide +kernel) (by decide +kernel)
theorem q_ml_RX3_148 : Cond.methodLink RX3 148 yX3_elementTold ∈ lw_all := lw_all_t 784 (by decide +kernel) (by decide +kernel)
theorem q_im_X3_elementTold : Cond.instanceMethod yX3_elementTold ∈ lw_all := lw_all_t 786 (by decide +kernel) (by decide +kernel)
theorem q_code_X3_elementTold : Cond.code yX3_elementTold cX3_elementTold 4 (some .int) ∈ lw_all := lw_all_t 787 (by decide +kernel) (by decide +kernel)
theorem q_ml_RL_123 : Cond.methodLink RL 123 yX3_pitch ∈ lw_all := lw_all_t 788 (by decide +kernel) (by decide +kernel)
theorem q_im_X3_pitch : Cond.instanceMethod yX3_pitch ∈ lw_all := lw_all_t 789 (by decide +kernel) (by decide +kernel)
theorem q_sel_X3_pitch : Cond.selects RX3 yX3_pitch yX3_pitch ∈ lw_all := lw_all_t 790 (by decide +kernel) (by decide +kernel)
theorem q_code_X3_pitch : Cond.code yX3_pitch cX3_pitch 4 (some .int) ∈ lw_all := lw_all_t 791 (by decide +kernel) (by decide +kernel)
theorem q_ml_RL_126 : Cond.methodLink RL 126 yX3_voice ∈ lw_all := lw_all_t 792 (by decide +kernel) (by decide +kernel)
theorem q_im_X3_voice : Cond.instanceMethod yX3_voice ∈ lw_all := lw_all_t 793 (by decide +kernel) (by decide +kernel)
theorem q_sel_X3_voice : Cond.selects RX3 yX3_voice yX3_voice ∈ lw_all := lw_all_t 794 (by decide +kernel) (by decide +kernel)
theorem q_code_X3_voice : Cond.code yX3_voice cX3_voice 3 (some .int) ∈ lw_all := lw_all_t 795 (by decide +kernel) (by decide +kernel)
theorem q_ml_RX3_151 : Cond.methodLink RX3 151 yX3_voiceTold ∈ lw_all := lw_all_t 796 (by decide +kernel) (by decide +kernel)
theorem q_im_X3_voiceTold : Cond.instanceMethod yX3_voiceTold ∈ lw_all := lw_all_t 798 (by decide +kernel) (by decide +kernel)
theorem q_code_X3_voiceTold : Cond.code yX3_voiceTold cX3_voiceTold 6 (some .int) ∈ lw_all := lw_all_t 799 (by decide +kernel) (by decide +kernel)
theorem q_ml_RL_129 : Cond.methodLink RL 129 yX3_transpose ∈ lw_all := lw_all_t 800 (by decide +kernel) (by decide +kernel)
theorem q_im_X3_transpose : Cond.instanceMethod yX3_transpose ∈ lw_all := lw_all_t 801 (by decide +kernel) (by decide +kernel)
theorem q_sel_X3_transpose : Cond.selects RX3 yX3_transpose yX3_transpose ∈ lw_all := lw_all_t 802 (by decide +kernel) (by decide +kernel)
theorem q_code_X3_transpose : Cond.code yX3_transpose cX3_transpose 11 (some .int) ∈ lw_all := lw_all_t 803 (by decide +kernel) (by decide +kernel)
theorem q_ml_RX3_154 : Cond.methodLink RX3 154 yX3_place ∈ lw_all := lw_all_t 804 (by decide +kernel) (by decide +kernel)
theorem q_im_X3_place : Cond.instanceMethod yX3_place ∈ lw_all := lw_all_t 806 (by decide +kernel) (by decide +kernel)
theorem q_code_X3_place : Cond.code yX3_place cX3_place 4 (some .int) ∈ lw_all := lw_all_t 807 (by decide +kernel) (by decide +kernel)
theorem q_ml_RX3_157 : Cond.methodLink RX3 157 yJ9_floorDiv_7cf53 ∈ lw_all := lw_all_t 808 (by decide +kernel) (by decide +kernel)
theorem q_ml_RX3_160 : Cond.methodLink RX3 160 yJ9_floorMod_7cf53 ∈ lw_all := lw_all_t 809 (by decide +kernel) (by decide +kernel)
theorem q_ml_RL_133 : Cond.methodLink RL 133 yX3_faults ∈ lw_all := lw_all_t 810 (by decide +kernel) (by decide +kernel)
theorem q_im_X3_faults : Cond.instanceMethod yX3_faults ∈ lw_all := lw_all_t 811 (by decide +kernel) (by decide +kernel)
theorem q_sel_X3_faults : Cond.selects RX3 yX3_faults yX3_faults ∈ lw_all := lw_all_t 812 (by decide +kernel) (by decide +kernel)
theorem q_code_X3_faults : Cond.code yX3_faults cX3_faults 1 (some .int) ∈ lw_all := lw_all_t 813 (by decide +kernel) (by decide +kernel)
theorem q_ml_RX3_169 : Cond.methodLink RX3 169 yX3_faultsOf ∈ lw_all := lw_all_t 814 (by decide +kernel) (by decide +kernel)
theorem q_im_X3_faultsOf : Cond.instanceMethod yX3_faultsOf ∈ lw_all := lw_all_t 816 (by decide +kernel) (by decide +kernel)
theorem q_code_X3_faultsOf : Cond.code yX3_faultsOf cX3_faultsOf 5 (some .int) ∈ lw_all := lw_all_t 817 (by decide +kernel) (by decide +kernel)
theorem q_ml_RX3_166 : Cond.methodLink RX3 166 yX3_parallels ∈ lw_all := lw_all_t 818 (by decide +kernel) (by decide +kernel)
theorem q_im_X3_parallels : Cond.instanceMethod yX3_parallels ∈ lw_all := lw_all_t 820 (by decide +kernel) (by decide +kernel)
theorem q_code_X3_parallels : Cond.code yX3_parallels cX3_parallels 11 (some .int) ∈ lw_all := lw_all_t 821 (by decide +kernel) (by decide +kernel)
theorem q_ml_RX3_163 : Cond.methodLink RX3 163 yX3_begins ∈ lw_all := lw_all_t 822 (by decide +kernel) (by decide +kernel)
theorem q_im_X3_begins : Cond.instanceMethod yX3_begins ∈ lw_all := lw_all_t 824 (by decide +kernel) (by decide +kernel)
theorem q_code_X3_begins : Cond.code yX3_begins cX3_begins 4 (some .int) ∈ lw_all := lw_all_t 825 (by decide +kernel) (by decide +kernel)
theorem q_ml_RL_136 : Cond.methodLink RL 136 yX3_interval ∈ lw_all := lw_all_t 826 (by decide +kernel) (by decide +kernel)
theorem q_im_X3_interval : Cond.instanceMethod yX3_interval ∈ lw_all := lw_all_t 827 (by decide +kernel) (by decide +kernel)
theorem q_sel_X3_interval : Cond.selects RX3 yX3_interval yX3_interval ∈ lw_all := lw_all_t 828 (by decide +kernel) (by decide +kernel)
theorem q_code_X3_interval : Cond.code yX3_interval cX3_interval 6 (some .int) ∈ lw_all := lw_all_t 829 (by decide +kernel) (by decide +kernel)
theorem q_ml_RX3_172 : Cond.methodLink RX3 172 yX3_sounding ∈ lw_all := lw_all_t 830 (by decide +kernel) (by decide +kernel)
theorem q_im_X3_sounding : Cond.instanceMethod yX3_sounding ∈ lw_all := lw_all_t 832 (by decide +kernel) (by decide +kernel)
theorem q_code_X3_sounding : Cond.code yX3_sounding cX3_sounding 4 (some .int) ∈ lw_all := lw_all_t 833 (by decide +kernel) (by decide +kernel)
theorem q_ml_RL_139 : Cond.methodLink RL 139 yX3_event ∈ lw_all := lw_all_t 834 (by decide +kernel) (by decide +kernel)
theorem q_im_X3_event : Cond.instanceMethod yX3_event ∈ lw_all := lw_all_t 835 (by decide +kernel) (by decide +kernel)
theorem q_sel_X3_event : Cond.selects RX3 yX3_event yX3_event ∈ lw_all := lw_all_t 836 (by decide +kernel) (by decide +kernel)
theorem q_code_X3_event : Cond.code yX3_event cX3_event 3 (some .int) ∈ lw_all := lw_all_t 837 (by decide +kernel) (by decide +kernel)
theorem q_ml_RX3_186 : Cond.methodLink RX3 186 yX3_findEvents ∈ lw_all := lw_all_t 838 (by decide +kernel) (by decide +kernel)
theorem q_im_X3_findEvents : Cond.instanceMethod yX3_findEvents ∈ lw_all := lw_all_t 840 (by decide +kernel) (by decide +kernel)
theorem q_code_X3_findEvents : Cond.code yX3_findEvents cX3_findEvents 3 none ∈ lw_all := lw_all_t 841 (by decide +kernel) (by decide +kernel)
theorem q_ml_RX3_182 : Cond.methodLink RX3 182 yX3_put ∈ lw_all := lw_all_t 842 (by decide +kernel) (by decide +kernel)
theorem q_im_X3_put : Cond.instanceMethod yX3_put ∈ lw_all := lw_all_t 844 (by decide +kernel) (by decide +kernel)
theorem q_code_X3_put : Cond.code yX3_put cX3_put 7 none ∈ lw_all := lw_all_t 845 (by decide +kernel) (by decide +kernel)
theorem q_ml_RX3_178 : Cond.methodLink RX3 178 yX3_isLater ∈ lw_all := lw_all_t 846 (by decide +kernel) (by decide +kernel)
theorem q_im_X3_isLater : Cond.instanceMethod yX3_isLater ∈ lw_all := lw_all_t 848 (by decide +kernel) (by decide +kernel)
theorem q_code_X3_isLater : Cond.code yX3_isLater cX3_isLater 5 (some .boolean) ∈ lw_all := lw_all_t 849 (by decide +kernel) (by decide +kernel)
theorem q_ml_RL_143 : Cond.methodLink RL 143 yX3_events ∈ lw_all := lw_all_t 850 (by decide +kernel) (by decide +kernel)
theorem q_im_X3_events : Cond.instanceMethod yX3_events ∈ lw_all := lw_all_t 851 (by decide +kernel) (by decide +kernel)
theorem q_sel_X3_events : Cond.selects RX3 yX3_events yX3_events ∈ lw_all := lw_all_t 852 (by decide +kernel) (by decide +kernel)
theorem q_code_X3_events : Cond.code yX3_events cX3_events 1 (some .int) ∈ lw_all := lw_all_t 853 (by decide +kernel) (by decide +kernel)
theorem q_ml_RL_146 : Cond.methodLink RL 146 yX3_time ∈ lw_all := lw_all_t 854 (by decide +kernel) (by decide +kernel)
theorem q_im_X3_time : Cond.instanceMethod yX3_time ∈ lw_all := lw_all_t 855 (by decide +kernel) (by decide +kernel)
theorem q_sel_X3_time : Cond.selects RX3 yX3_time yX3_time ∈ lw_all := lw_all_t 856 (by decide +kernel) (by decide +kernel)
theorem q_code_X3_time : Cond.code yX3_time cX3_time 3 (some .long) ∈ lw_all := lw_all_t 857 (by decide +kernel) (by decide +kernel)
theorem q_k_RX3_189 : Cond.constant RX3 189 100000 ∈ lw_all := lw_all_t 858 (by decide +kernel) (by decide +kernel)
theorem q_k_RX3_190 : Cond.constantLong RX3 190 625000 ∈ lw_all := lw_all_t 859 (by decide +kernel) (by decide +kernel)
theorem q_ml_RL_151 : Cond.methodLink RL 151 yX3_meanTone ∈ lw_all := lw_all_t 860 (by decide +kernel) (by decide +kernel)
theorem q_im_X3_meanTone : Cond.instanceMethod yX3_meanTone ∈ lw_all := lw_all_t 861 (by decide +kernel) (by decide +kernel)
theorem q_sel_X3_meanTone : Cond.selects RX3 yX3_meanTone yX3_meanTone ∈ lw_all := lw_all_t 862 (by decide +kernel) (by decide +kernel)
theorem q_code_X3_meanTone : Cond.code yX3_meanTone cX3_meanTone 5 (some .double) ∈ lw_all := lw_all_t 863 (by decide +kernel) (by decide +kernel)
theorem q_ml_RL_156 : Cond.methodLink RL 156 yX3_digest ∈ lw_all := lw_all_t 864 (by decide +kernel) (by decide +kernel)
theorem q_im_X3_digest : Cond.instanceMethod yX3_digest ∈ lw_all := lw_all_t 865 (by decide +kernel) (by decide +kernel)
theorem q_sel_X3_digest : Cond.selects RX3 yX3_digest yX3_digest ∈ lw_all := lw_all_t 866 (by decide +kernel) (by decide +kernel)
theorem q_code_X3_digest : Cond.code yX3_digest cX3_digest 6 (some .long) ∈ lw_all := lw_all_t 867 (by decide +kernel) (by decide +kernel)
theorem q_k_RX3_192 : Cond.constantLong RX3 192 389 ∈ lw_all := lw_all_t 868 (by decide +kernel) (by decide +kernel)
theorem q_k_RX3_194 : Cond.constantLong RX3 194 31 ∈ lw_all := lw_all_t 869 (by decide +kernel) (by decide +kernel)
theorem q_arr_long : Cond.arrayClass .long ∈ lw_all := lw_all_t 870 (by decide +kernel) (by decide +kernel)
theorem q_sel_X2_barsBegun : Cond.selects RX2 yX2_barsBegun yX2_barsBegun ∈ lw_all := lw_all_s 0 (by decide +kernel) (by decide +kernel)
theorem q_sel_X2_countEvents : Cond.selects RX2 yX2_countEvents yX2_countEvents ∈ lw_all := lw_all_s 1 (by decide +kernel) (by decide +kernel)
theorem q_sel_X2_greatestEnd : Cond.selects RX2 yX2_greatestEnd yX2_greatestEnd ∈ lw_all := lw_all_s 3 (by decide +kernel) (by decide +kernel)
theorem q_sel_X2_digestEvents : Cond.selects RX2 yX2_digestEvents yX2_digestEvents ∈ lw_all := lw_all_s 4 (by decide +kernel) (by decide +kernel)
theorem q_sel_X2_refreshEvents : Cond.selects RX2 yX2_refreshEvents yX2_refreshEvents ∈ lw_all := lw_all_s 5 (by decide +kernel) (by decide +kernel)
theorem q_sel_X0_findEarliest : Cond.selects RX0 yX0_findEarliest yX0_findEarliest ∈ lw_all := lw_all_s 6 (by decide +kernel) (by decide +kernel)
theorem q_sel_X0_put : Cond.selects RX0 yX0_put yX0_put ∈ lw_all := lw_all_s 7 (by decide +kernel) (by decide +kernel)
theorem q_sel_X2_arrangeAll : Cond.selects RX2 yX2_arrangeAll yX2_arrangeAll ∈ lw_all := lw_all_s 8 (by decide +kernel) (by decide +kernel)
theorem q_sel_X1_arrangeTones : Cond.selects RX1 yX1_arrangeTones yX1_arrangeTones ∈ lw_all := lw_all_s 9 (by decide +kernel) (by decide +kernel)
theorem q_sel_X1_arrangeSounds : Cond.selects RX1 yX1_arrangeSounds yX1_arrangeSounds ∈ lw_all := lw_all_s 10 (by decide +kernel) (by decide +kernel)
theorem q_sel_X1_arrangeSigns : Cond.selects RX1 yX1_arrangeSigns yX1_arrangeSigns ∈ lw_all := lw_all_s 11 (by decide +kernel) (by decide +kernel)
theorem q_sel_X1_arrangeBeams : Cond.selects RX1 yX1_arrangeBeams yX1_arrangeBeams ∈ lw_all := lw_all_s 12 (by decide +kernel) (by decide +kernel)
theorem q_sel_X1_isGrouped : Cond.selects RX1 yX1_isGrouped yX1_isGrouped ∈ lw_all := lw_all_s 13 (by decide +kernel) (by decide +kernel)
theorem q_sel_X1_isShortNote : Cond.selects RX1 yX1_isShortNote yX1_isShortNote ∈ lw_all := lw_all_s 14 (by decide +kernel) (by decide +kernel)
theorem q_sel_X2_requireVoice : Cond.selects RX2 yX2_requireVoice yX2_requireVoice ∈ lw_all := lw_all_s 15 (by decide +kernel) (by decide +kernel)
theorem q_sel_X2_addPieces : Cond.selects RX2 yX2_addPieces yX2_addPieces ∈ lw_all := lw_all_s 16 (by decide +kernel) (by decide +kernel)
theorem q_sel_X2_planPieces : Cond.selects RX2 yX2_planPieces yX2_planPieces ∈ lw_all := lw_all_s 17 (by decide +kernel) (by decide +kernel)
theorem q_sel_X2_arrangeOne : Cond.selects RX2 yX2_arrangeOne yX2_arrangeOne ∈ lw_all := lw_all_s 18 (by decide +kernel) (by decide +kernel)
theorem q_sel_X2_requireElement : Cond.selects RX2 yX2_requireElement yX2_requireElement ∈ lw_all := lw_all_s 19 (by decide +kernel) (by decide +kernel)
theorem q_sel_X3_fail : Cond.selects RX3 yX3_fail yX3_fail ∈ lw_all := lw_all_s 20 (by decide +kernel) (by decide +kernel)
theorem q_sel_X3_bar : Cond.selects RX3 yX3_bar yX3_bar ∈ lw_all := lw_all_s 21 (by decide +kernel) (by decide +kernel)
theorem q_sel_X3_scoreTold : Cond.selects RX3 yX3_scoreTold yX3_scoreTold ∈ lw_all := lw_all_s 22 (by decide +kernel) (by decide +kernel)
theorem q_sel_X3_barsBegun : Cond.selects RX3 yX3_barsBegun yX3_barsBegun ∈ lw_all := lw_all_s 23 (by decide +kernel) (by decide +kernel)
theorem q_sel_X3_findTimes : Cond.selects RX3 yX3_findTimes yX3_findTimes ∈ lw_all := lw_all_s 24 (by decide +kernel) (by decide +kernel)
theorem q_sel_X3_length : Cond.selects RX3 yX3_length yX3_length ∈ lw_all := lw_all_s 25 (by decide +kernel) (by decide +kernel)
theorem q_sel_X3_get : Cond.selects RX3 yX3_get yX3_get ∈ lw_all := lw_all_s 26 (by decide +kernel) (by decide +kernel)
theorem q_sel_X3_signOf : Cond.selects RX3 yX3_signOf yX3_signOf ∈ lw_all := lw_all_s 27 (by decide +kernel) (by decide +kernel)
theorem q_sel_X3_add : Cond.selects RX3 yX3_add yX3_add ∈ lw_all := lw_all_s 28 (by decide +kernel) (by decide +kernel)
theorem q_sel_X3_isVoice : Cond.selects RX3 yX3_isVoice yX3_isVoice ∈ lw_all := lw_all_s 29 (by decide +kernel) (by decide +kernel)
theorem q_sel_X3_cut : Cond.selects RX3 yX3_cut yX3_cut ∈ lw_all := lw_all_s 30 (by decide +kernel) (by decide +kernel)
theorem q_sel_X3_isElement : Cond.selects RX3 yX3_isElement yX3_isElement ∈ lw_all := lw_all_s 31 (by decide +kernel) (by decide +kernel)
theorem q_sel_X3_find : Cond.selects RX3 yX3_find yX3_find ∈ lw_all := lw_all_s 32 (by decide +kernel) (by decide +kernel)
theorem q_sel_X3_isJoined : Cond.selects RX3 yX3_isJoined yX3_isJoined ∈ lw_all := lw_all_s 33 (by decide +kernel) (by decide +kernel)
theorem q_sel_X3_tone : Cond.selects RX3 yX3_tone yX3_tone ∈ lw_all := lw_all_s 34 (by decide +kernel) (by decide +kernel)
theorem q_sel_X3_canBeam : Cond.selects RX3 yX3_canBeam yX3_canBeam ∈ lw_all := lw_all_s 35 (by decide +kernel) (by decide +kernel)
theorem q_sel_X3_beat : Cond.selects RX3 yX3_beat yX3_beat ∈ lw_all := lw_all_s 36 (by decide +kernel) (by decide +kernel)
theorem q_sel_X3_elementTold : Cond.selects RX3 yX3_elementTold yX3_elementTold ∈ lw_all := lw_all_s 37 (by decide +kernel) (by decide +kernel)
theorem q_sel_X3_voiceTold : Cond.selects RX3 yX3_voiceTold yX3_voiceTold ∈ lw_all := lw_all_s 38 (by decide +kernel) (by decide +kernel)
theorem q_sel_X3_place : Cond.selects RX3 yX3_place yX3_place ∈ lw_all := lw_all_s 39 (by decide +kernel) (by decide +kernel)
theorem q_sel_X3_faultsOf : Cond.selects RX3 yX3_faultsOf yX3_faultsOf ∈ lw_all := lw_all_s 40 (by decide +kernel) (by decide +kernel)
theorem q_sel_X3_parallels : Cond.selects RX3 yX3_parallels yX3_parallels ∈ lw_all := lw_all_s 41 (by decide +kernel) (by decide +kernel)
theorem q_sel_X3_begins : Cond.selects RX3 yX3_begins yX3_begins ∈ lw_all := lw_all_s 42 (by decide +kernel) (by decide +kernel)
theorem q_sel_X3_sounding : Cond.selects RX3 yX3_sounding yX3_sounding ∈ lw_all := lw_all_s 43 (by decide +kernel) (by decide +kernel)
theorem q_sel_X3_findEvents : Cond.selects RX3 yX3_findEvents yX3_findEvents ∈ lw_all := lw_all_s 44 (by decide +kernel) (by decide +kernel)
theorem q_sel_X3_put : Cond.selects RX3 yX3_put yX3_put ∈ lw_all := lw_all_s 45 (by decide +kernel) (by decide +kernel)
theorem q_sel_X3_isLater : Cond.selects RX3 yX3_isLater yX3_isLater ∈ lw_all := lw_all_s 46 (by decide +kernel) (by decide +kernel)
theorem u_in_X0 : ∀ w ∈ u_ws RX0 TX0 2, w ∈ lw_all := by decide +kernel
theorem u_in_X1 : ∀ w ∈ u_ws RX1 TX1 12, w ∈ lw_all := by decide +kernel
theorem u_in_X2 : ∀ w ∈ u_ws RX2 TX2 8, w ∈ lw_all := by decide +kernel
theorem u_in_X3 : ∀ w ∈ u_ws RX3 TX3 12, w ∈ lw_all := by decide +kernel
end
section
theorem hv_X0_init : yX0_init.cls = RX0 ∧ yX0_init.cls ≠ "java/lang/invoke/MethodHandle" ∧ yX0_init.cls ≠ "java/lang/invoke/VarHandle" ∧ (parseMethodDescriptor yX0_init.desc).map (fun d => d.parameters.length) = some 0 := by decide +kernel
theorem hs_X0_init : yX0_init.cls ≠ "java/lang/invoke/MethodHandle" ∧ yX0_init.cls ≠ "java/lang/invoke/VarHandle" ∧ (parseMethodDescriptor yX0_init.desc).map (fun d => d.parameters.length) = some 0 := hv_X0_init.2
theorem hp_X0_init : plainName yX0_init.cls = true := by decide +kernel
theorem hv_X0_merge : yX0_merge.cls = RX0 ∧ yX0_merge.cls ≠ "java/lang/invoke/MethodHandle" ∧ yX0_merge.cls ≠ "java/lang/invoke/VarHandle" ∧ (parseMethodDescriptor yX0_merge.desc).map (fun d => d.parameters.length) = some 3 := by decide +kernel
theorem hs_X0_merge : yX0_merge.cls ≠ "java/lang/invoke/MethodHandle" ∧ yX0_merge.cls ≠ "java/lang/invoke/VarHandle" ∧ (parseMethodDescriptor yX0_merge.desc).map (fun d => d.parameters.length) = some 3 := hv_X0_merge.2
theorem hp_X0_merge : plainName yX0_merge.cls = true := by decide +kernel
theorem hv_X0_findEarliest : yX0_findEarliest.cls = RX0 ∧ yX0_findEarliest.cls ≠ "java/lang/invoke/MethodHandle" ∧ yX0_findEarliest.cls ≠ "java/lang/invoke/VarHandle" ∧ (parseMethodDescriptor yX0_findEarliest.desc).map (fun d => d.parameters.length) = some 2 := by decide +kernel
theorem hs_X0_findEarliest : yX0_findEarliest.cls ≠ "java/lang/invoke/MethodHandle" ∧ yX0_findEarliest.cls ≠ "java/lang/invoke/VarHandle" ∧ (parseMethodDescriptor yX0_findEarliest.desc).map (fun d => d.parameters.length) = some 2 := hv_X0_findEarliest.2
theorem hp_X0_findEarliest : plainName yX0_findEarliest.cls = true := by decide +kernel
theorem hv_X0_rankOf : yX0_rankOf.cls = RX0 ∧ yX0_rankOf.cls ≠ "java/lang/invoke/MethodHandle" ∧ yX0_rankOf.cls ≠ "java/lang/invoke/VarHandle" ∧ (parseMethodDescriptor yX0_rankOf.desc).map (fun d => d.parameters.length) = some 2 := by decide +kernel
theorem hs_X0_rankOf : yX0_rankOf.cls ≠ "java/lang/invoke/MethodHandle" ∧ yX0_rankOf.cls ≠ "java/lang/invoke/VarHandle" ∧ (parseMethodDescriptor yX0_rankOf.desc).map (fun d => d.parameters.length) = some 2 := hv_X0_rankOf.2
theorem hp_X0_rankOf : plainName yX0_rankOf.cls = true := by decide +kernel
theorem hv_X0_isBeginning : yX0_isBeginning.cls = RX0 ∧ yX0_isBeginning.cls ≠ "java/lang/invoke/MethodHandle" ∧ yX0_isBeginning.cls ≠ "java/lang/invoke/VarHandle" ∧ (parseMethodDescriptor yX0_isBeginning.desc).map (fun d => d.parameters.length) = some 1 := by decide +kernel
theorem hs_X0_isBeginning : yX0_isBeginning.cls ≠ "java/lang/invoke/MethodHandle" ∧ yX0_isBeginning.cls ≠ "java/lang/invoke/VarHandle" ∧ (parseMethodDescriptor yX0_isBeginning.desc).map (fun d => d.parameters.length) = some 1 := hv_X0_isBeginning.2
theorem hp_X0_isBeginning : plainName yX0_isBeginning.cls = true := by decide +kernel
theorem hv_X0_tickOf : yX0_tickOf.cls = RX0 ∧ yX0_tickOf.cls ≠ "java/lang/invoke/MethodHandle" ∧ yX0_tickOf.cls ≠ "java/lang/invoke/VarHandle" ∧ (parseMethodDescriptor yX0_tickOf.desc).map (fun d => d.parameters.length) = some 2 := by decide +kernel
theorem hs_X0_tickOf : yX0_tickOf.cls ≠ "java/lang/invoke/MethodHandle" ∧ yX0_tickOf.cls ≠ "java/lang/invoke/VarHandle" ∧ (parseMethodDescriptor yX0_tickOf.desc).map (fun d => d.parameters.length) = some 2 := hv_X0_tickOf.2
theorem hp_X0_tickOf : plainName yX0_tickOf.cls = true := by decide +kernel
theorem hv_X0_put : yX0_put.cls = RX0 ∧ yX0_put.cls ≠ "java/lang/invoke/MethodHandle" ∧ yX0_put.cls ≠ "java/lang/invoke/VarHandle" ∧ (parseMethodDescriptor yX0_put.desc).map (fun d => d.parameters.length) = some 3 := by decide +kernel
theorem hs_X0_put : yX0_put.cls ≠ "java/lang/invoke/MethodHandle" ∧ yX0_put.cls ≠ "java/lang/invoke/VarHandle" ∧ (parseMethodDescriptor yX0_put.desc).map (fun d => d.parameters.length) = some 3 := hv_X0_put.2
theorem hp_X0_put : plainName yX0_put.cls = true := by decide +kernel
theorem hv_X1_init : yX1_init.cls = RX1 ∧ yX1_init.cls ≠ "java/lang/invoke/MethodHandle" ∧ yX1_init.cls ≠ "java/lang/invoke/VarHandle" ∧ (parseMethodDescriptor yX1_init.desc).map (fun d => d.parameters.length) = some 0 := by decide +kernel
theorem hs_X1_init : yX1_init.cls ≠ "java/lang/invoke/MethodHandle" ∧ yX1_init.cls ≠ "java/lang/invoke/VarHandle" ∧ (parseMethodDescriptor yX1_init.desc).map (fun d => d.parameters.length) = some 0 := hv_X1_init.2
theorem hp_X1_init : plainName yX1_init.cls = true := by decide +kernel
theorem hv_X1_tell : yX1_tell.cls = RX1 ∧ yX1_tell.cls ≠ "java/lang/invoke/MethodHandle" ∧ yX1_tell.cls ≠ "java/lang/invoke/VarHandle" ∧ (parseMethodDescriptor yX1_tell.desc).map (fun d => d.parameters.length) = some 1 := by decide +kernel
theorem hs_X1_tell : yX1_tell.cls ≠ "java/lang/invoke/MethodHandle" ∧ yX1_tell.cls ≠ "java/lang/invoke/VarHandle" ∧ (parseMethodDescriptor yX1_tell.desc).map (fun d => d.parameters.length) = some 1 := hv_X1_tell.2
theorem hp_X1_tell : plainName yX1_tell.cls = true := by decide +kernel
theorem hv_X1_isNote : yX1_isNote.cls = RX1 ∧ yX1_isNote.cls ≠ "java/lang/invoke/MethodHandle" ∧ yX1_isNote.cls ≠ "java/lang/invoke/VarHandle" ∧ (parseMethodDescriptor yX1_isNote.desc).map (fun d => d.parameters.length) = some 1 := by decide +kernel
theorem hs_X1_isNote : yX1_isNote.cls ≠ "java/lang/invoke/MethodHandle" ∧ yX1_isNote.cls ≠ "java/lang/invoke/VarHandle" ∧ (parseMethodDescriptor yX1_isNote.desc).map (fun d => d.parameters.length) = some 1 := hv_X1_isNote.2
theorem hp_X1_isNote : plainName yX1_isNote.cls = true := by decide +kernel
theorem hv_X1_isTied : yX1_isTied.cls = RX1 ∧ yX1_isTied.cls ≠ "java/lang/invoke/MethodHandle" ∧ yX1_isTied.cls ≠ "java/lang/invoke/VarHandle" ∧ (parseMethodDescriptor yX1_isTied.desc).map (fun d => d.parameters.length) = some 1 := by decide +kernel
theorem hs_X1_isTied : yX1_isTied.cls ≠ "java/lang/invoke/MethodHandle" ∧ yX1_isTied.cls ≠ "java/lang/invoke/VarHandle" ∧ (parseMethodDescriptor yX1_isTied.desc).map (fun d => d.parameters.length) = some 1 := hv_X1_isTied.2
theorem hp_X1_isTied : plainName yX1_isTied.cls = true := by decide +kernel
theorem hv_X1_isJoinedToNext : yX1_isJoinedToNext.cls = RX1 ∧ yX1_isJoinedToNext.cls ≠ "java/lang/invoke/MethodHandle" ∧ yX1_isJoinedToNext.cls ≠ "java/lang/invoke/VarHandle" ∧ (parseMethodDescriptor yX1_isJoinedToNext.desc).map (fun d => d.parameters.length) = some 1 := by decide +kernel
theorem hs_X1_isJoinedToNext : yX1_isJoinedToNext.cls ≠ "java/lang/invoke/MethodHandle" ∧ yX1_isJoinedToNext.cls ≠ "java/lang/invoke/VarHandle" ∧ (parseMethodDescriptor yX1_isJoinedToNext.desc).map (fun d => d.parameters.length) = some 1 := hv_X1_isJoinedToNext.2
theorem hp_X1_isJoinedToNext : plainName yX1_isJoinedToNext.cls = true := by decide +kernel
theorem hv_X1_placeOf : yX1_placeOf.cls = RX1 ∧ yX1_placeOf.cls ≠ "java/lang/invoke/MethodHandle" ∧ yX1_placeOf.cls ≠ "java/lang/invoke/VarHandle" ∧ (parseMethodDescriptor yX1_placeOf.desc).map (fun d => d.parameters.length) = some 1 := by decide +kernel
theorem hs_X1_placeOf : yX1_placeOf.cls ≠ "java/lang/invoke/MethodHandle" ∧ yX1_placeOf.cls ≠ "java/lang/invoke/VarHandle" ∧ (parseMethodDescriptor yX1_placeOf.desc).map (fun d => d.parameters.length) = some 1 := hv_X1_placeOf.2
theorem hp_X1_placeOf : plainName yX1_placeOf.cls = true := by decide +kernel
theorem hv_X1_append : yX1_append.cls = RX1 ∧ yX1_append.cls ≠ "java/lang/invoke/MethodHandle" ∧ yX1_append.cls ≠ "java/lang/invoke/VarHandle" ∧ (parseMethodDescriptor yX1_append.desc).map (fun d => d.parameters.length) = some 2 := by decide +kernel
theorem hs_X1_append : yX1_append.cls ≠ "java/lang/invoke/MethodHandle" ∧ yX1_append.cls ≠ "java/lang/invoke/VarHandle" ∧ (parseMethodDescriptor yX1_append.desc).map (fun d => d.parameters.length) = some 2 := hv_X1_append.2
theorem hp_X1_append : plainName yX1_append.cls = true := by decide +kernel
theorem hv_X1_dropLast : yX1_dropLast.cls = RX1 ∧ yX1_dropLast.cls ≠ "java/lang/invoke/MethodHandle" ∧ yX1_dropLast.cls ≠ "java/lang/invoke/VarHandle" ∧ (parseMethodDescriptor yX1_dropLast.desc).map (fun d => d.parameters.length) = some 0 := by decide +kernel
theorem hs_X1_dropLast : yX1_dropLast.cls ≠ "java/lang/invoke/MethodHandle" ∧ yX1_dropLast.cls ≠ "java/lang/invoke/VarHandle" ∧ (parseMethodDescriptor yX1_dropLast.desc).map (fun d => d.parameters.length) = some 0 := hv_X1_dropLast.2
theorem hp_X1_dropLast : plainName yX1_dropLast.cls = true := by decide +kernel
theorem hv_X1_putPitch : yX1_putPitch.cls = RX1 ∧ yX1_putPitch.cls ≠ "java/lang/invoke/MethodHandle" ∧ yX1_putPitch.cls ≠ "java/lang/invoke/VarHandle" ∧ (parseMethodDescriptor yX1_putPitch.desc).map (fun d => d.parameters.length) = some 4 := by decide +kernel
theorem hs_X1_putPitch : yX1_putPitch.cls ≠ "java/lang/invoke/MethodHandle" ∧ yX1_putPitch.cls ≠ "java/lang/invoke/VarHandle" ∧ (parseMethodDescriptor yX1_putPitch.desc).map (fun d => d.parameters.length) = some 4 := hv_X1_putPitch.2
theorem hp_X1_putPitch : plainName yX1_putPitch.cls = true := by decide +kernel
theorem hv_X1_canTranspose : yX1_canTranspose.cls = RX1 ∧ yX1_canTranspose.cls ≠ "java/lang/invoke/MethodHandle" ∧ yX1_canTranspose.cls ≠ "java/lang/invoke/VarHandle" ∧ (parseMethodDescriptor yX1_canTranspose.desc).map (fun d => d.parameters.length) = some 2 := by decide +kernel
theorem hs_X1_canTranspose : yX1_canTranspose.cls ≠ "java/lang/invoke/MethodHandle" ∧ yX1_canTranspose.cls ≠ "java/lang/invoke/VarHandle" ∧ (parseMethodDescriptor yX1_canTranspose.desc).map (fun d => d.parameters.length) = some 2 := hv_X1_canTranspose.2
theorem hp_X1_canTranspose : plainName yX1_canTranspose.cls = true := by decide +kernel
theorem hv_X1_moveNotes : yX1_moveNotes.cls = RX1 ∧ yX1_moveNotes.cls ≠ "java/lang/invoke/MethodHandle" ∧ yX1_moveNotes.cls ≠ "java/lang/invoke/VarHandle" ∧ (parseMethodDescriptor yX1_moveNotes.desc).map (fun d => d.parameters.length) = some 2 := by decide +kernel
theorem hs_X1_moveNotes : yX1_moveNotes.cls ≠ "java/lang/invoke/MethodHandle" ∧ yX1_moveNotes.cls ≠ "java/lang/invoke/VarHandle" ∧ (parseMethodDescriptor yX1_moveNotes.desc).map (fun d => d.parameters.length) = some 2 := hv_X1_moveNotes.2
theorem hp_X1_moveNotes : plainName yX1_moveNotes.cls = true := by decide +kernel
theorem hv_X1_countLooseTies : yX1_countLooseTies.cls = RX1 ∧ yX1_countLooseTies.cls ≠ "java/lang/invoke/MethodHandle" ∧ yX1_countLooseTies.cls ≠ "java/lang/invoke/VarHandle" ∧ (parseMethodDescriptor yX1_countLooseTies.desc).map (fun d => d.parameters.length) = some 0 := by decide +kernel
theorem hs_X1_countLooseTies : yX1_countLooseTies.cls ≠ "java/lang/invoke/MethodHandle" ∧ yX1_countLooseTies.cls ≠ "java/lang/invoke/VarHandle" ∧ (parseMethodDescriptor yX1_countLooseTies.desc).map (fun d => d.parameters.length) = some 0 := hv_X1_countLooseTies.2
theorem hp_X1_countLooseTies : plainName yX1_countLooseTies.cls = true := by decide +kernel
theorem hv_X1_toneAt : yX1_toneAt.cls = RX1 ∧ yX1_toneAt.cls ≠ "java/lang/invoke/MethodHandle" ∧ yX1_toneAt.cls ≠ "java/lang/invoke/VarHandle" ∧ (parseMethodDescriptor yX1_toneAt.desc).map (fun d => d.parameters.length) = some 1 := by decide +kernel
theorem hs_X1_toneAt : yX1_toneAt.cls ≠ "java/lang/invoke/MethodHandle" ∧ yX1_toneAt.cls ≠ "java/lang/invoke/VarHandle" ∧ (parseMethodDescriptor yX1_toneAt.desc).map (fun d => d.parameters.length) = some 1 := hv_X1_toneAt.2
theorem hp_X1_toneAt : plainName yX1_toneAt.cls = true := by decide +kernel
theorem hv_X1_arrange : yX1_arrange.cls = RX1 ∧ yX1_arrange.cls ≠ "java/lang/invoke/MethodHandle" ∧ yX1_arrange.cls ≠ "java/lang/invoke/VarHandle" ∧ (parseMethodDescriptor yX1_arrange.desc).map (fun d => d.parameters.length) = some 2 := by decide +kernel
theorem hs_X1_arrange : yX1_arrange.cls ≠ "java/lang/invoke/MethodHandle" ∧ yX1_arrange.cls ≠ "java/lang/invoke/VarHandle" ∧ (parseMethodDescriptor yX1_arrange.desc).map (fun d => d.parameters.length) = some 2 := hv_X1_arrange.2
theorem hp_X1_arrange : plainName yX1_arrange.cls = true := by decide +kernel
theorem hv_X1_arrangeTones : yX1_arrangeTones.cls = RX1 ∧ yX1_arrangeTones.cls ≠ "java/lang/invoke/MethodHandle" ∧ yX1_arrangeTones.cls ≠ "java/lang/invoke/VarHandle" ∧ (parseMethodDescriptor yX1_arrangeTones.desc).map (fun d => d.parameters.length) = some 0 := by decide +kernel
theorem hs_X1_arrangeTones : yX1_arrangeTones.cls ≠ "java/lang/invoke/MethodHandle" ∧ yX1_arrangeTones.cls ≠ "java/lang/invoke/VarHandle" ∧ (parseMethodDescriptor yX1_arrangeTones.desc).map (fun d => d.parameters.length) = some 0 := hv_X1_arrangeTones.2
theorem hp_X1_arrangeTones : plainName yX1_arrangeTones.cls = true := by decide +kernel
theorem hv_X1_arrangeSounds : yX1_arrangeSounds.cls = RX1 ∧ yX1_arrangeSounds.cls ≠ "java/lang/invoke/MethodHandle" ∧ yX1_arrangeSounds.cls ≠ "java/lang/invoke/VarHandle" ∧ (parseMethodDescriptor yX1_arrangeSounds.desc).map (fun d => d.parameters.length) = some 0 := by decide +kernel
theorem hs_X1_arrangeSounds : yX1_arrangeSounds.cls ≠ "java/lang/invoke/MethodHandle" ∧ yX1_arrangeSounds.cls ≠ "java/lang/invoke/VarHandle" ∧ (parseMethodDescriptor yX1_arrangeSounds.desc).map (fun d => d.parameters.length) = some 0 := hv_X1_arrangeSounds.2
theorem hp_X1_arrangeSounds : plainName yX1_arrangeSounds.cls = true := by decide +kernel
theorem hv_X1_arrangeSigns : yX1_arrangeSigns.cls = RX1 ∧ yX1_arrangeSigns.cls ≠ "java/lang/invoke/MethodHandle" ∧ yX1_arrangeSigns.cls ≠ "java/lang/invoke/VarHandle" ∧ (parseMethodDescriptor yX1_arrangeSigns.desc).map (fun d => d.parameters.length) = some 1 := by decide +kernel
theorem hs_X1_arrangeSigns : yX1_arrangeSigns.cls ≠ "java/lang/invoke/MethodHandle" ∧ yX1_arrangeSigns.cls ≠ "java/lang/invoke/VarHandle" ∧ (parseMethodDescriptor yX1_arrangeSigns.desc).map (fun d => d.parameters.length) = some 1 := hv_X1_arrangeSigns.2
theorem hp_X1_arrangeSigns : plainName yX1_arrangeSigns.cls = true := by decide +kernel
theorem hv_X1_arrangeBeams : yX1_arrangeBeams.cls = RX1 ∧ yX1_arrangeBeams.cls ≠ "java/lang/invoke/MethodHandle" ∧ yX1_arrangeBeams.cls ≠ "java/lang/invoke/VarHandle" ∧ (parseMethodDescriptor yX1_arrangeBeams.desc).map (fun d => d.parameters.length) = some 1 := by decide +kernel
theorem hs_X1_arrangeBeams : yX1_arrangeBeams.cls ≠ "java/lang/invoke/MethodHandle" ∧ yX1_arrangeBeams.cls ≠ "java/lang/invoke/VarHandle" ∧ (parseMethodDescriptor yX1_arrangeBeams.desc).map (fun d => d.parameters.length) = some 1 := hv_X1_arrangeBeams.2
theorem hp_X1_arrangeBeams : plainName yX1_arrangeBeams.cls = true := by decide +kernel
theorem hv_X1_isGrouped : yX1_isGrouped.cls = RX1 ∧ yX1_isGrouped.cls ≠ "java/lang/invoke/MethodHandle" ∧ yX1_isGrouped.cls ≠ "java/lang/invoke/VarHandle" ∧ (parseMethodDescriptor yX1_isGrouped.desc).map (fun d => d.parameters.length) = some 2 := by decide +kernel
theorem hs_X1_isGrouped : yX1_isGrouped.cls ≠ "java/lang/invoke/MethodHandle" ∧ yX1_isGrouped.cls ≠ "java/lang/invoke/VarHandle" ∧ (parseMethodDescriptor yX1_isGrouped.desc).map (fun d => d.parameters.length) = some 2 := hv_X1_isGrouped.2
theorem hp_X1_isGrouped : plainName yX1_isGrouped.cls = true := by decide +kernel
theorem hv_X1_isShortNote : yX1_isShortNote.cls = RX1 ∧ yX1_isShortNote.cls ≠ "java/lang/invoke/MethodHandle" ∧ yX1_isShortNote.cls ≠ "java/lang/invoke/VarHandle" ∧ (parseMethodDescriptor yX1_isShortNote.desc).map (fun d => d.parameters.length) = some 1 := by decide +kernel
theorem hs_X1_isShortNote : yX1_isShortNote.cls ≠ "java/lang/invoke/MethodHandle" ∧ yX1_isShortNote.cls ≠ "java/lang/invoke/VarHandle" ∧ (parseMethodDescriptor yX1_isShortNote.desc).map (fun d => d.parameters.length) = some 1 := hv_X1_isShortNote.2
theorem hp_X1_isShortNote : plainName yX1_isShortNote.cls = true := by decide +kernel
theorem hv_X2_init : yX2_init.cls = RX2 ∧ yX2_init.cls ≠ "java/lang/invoke/MethodHandle" ∧ yX2_init.cls ≠ "java/lang/invoke/VarHandle" ∧ (parseMethodDescriptor yX2_init.desc).map (fun d => d.parameters.length) = some 0 := by decide +kernel
theorem hs_X2_init : yX2_init.cls ≠ "java/lang/invoke/MethodHandle" ∧ yX2_init.cls ≠ "java/lang/invoke/VarHandle" ∧ (parseMethodDescriptor yX2_init.desc).map (fun d => d.parameters.length) = some 0 := hv_X2_init.2
theorem hp_X2_init : plainName yX2_init.cls = true := by decide +kernel
theorem hv_X2_setBars : yX2_setBars.cls = RX2 ∧ yX2_setBars.cls ≠ "java/lang/invoke/MethodHandle" ∧ yX2_setBars.cls ≠ "java/lang/invoke/VarHandle" ∧ (parseMethodDescriptor yX2_setBars.desc).map (fun d => d.parameters.length) = some 2 := by decide +kernel
theorem hs_X2_setBars : yX2_setBars.cls ≠ "java/lang/invoke/MethodHandle" ∧ yX2_setBars.cls ≠ "java/lang/invoke/VarHandle" ∧ (parseMethodDescriptor yX2_setBars.desc).map (fun d => d.parameters.length) = some 2 := hv_X2_setBars.2
theorem hp_X2_setBars : plainName yX2_setBars.cls = true := by decide +kernel
theorem hv_X2_setKey : yX2_setKey.cls = RX2 ∧ yX2_setKey.cls ≠ "java/lang/invoke/MethodHandle" ∧ yX2_setKey.cls ≠ "java/lang/invoke/VarHandle" ∧ (parseMethodDescriptor yX2_setKey.desc).map (fun d => d.parameters.length) = some 1 := by decide +kernel
theorem hs_X2_setKey : yX2_setKey.cls ≠ "java/lang/invoke/MethodHandle" ∧ yX2_setKey.cls ≠ "java/lang/invoke/VarHandle" ∧ (parseMethodDescriptor yX2_setKey.desc).map (fun d => d.parameters.length) = some 1 := hv_X2_setKey.2
theorem hp_X2_setKey : plainName yX2_setKey.cls = true := by decide +kernel
theorem hv_X2_addVoice : yX2_addVoice.cls = RX2 ∧ yX2_addVoice.cls ≠ "java/lang/invoke/MethodHandle" ∧ yX2_addVoice.cls ≠ "java/lang/invoke/VarHandle" ∧ (parseMethodDescriptor yX2_addVoice.desc).map (fun d => d.parameters.length) = some 0 := by decide +kernel
theorem hs_X2_addVoice : yX2_addVoice.cls ≠ "java/lang/invoke/MethodHandle" ∧ yX2_addVoice.cls ≠ "java/lang/invoke/VarHandle" ∧ (parseMethodDescriptor yX2_addVoice.desc).map (fun d => d.parameters.length) = some 0 := hv_X2_addVoice.2
theorem hp_X2_addVoice : plainName yX2_addVoice.cls = true := by decide +kernel
theorem hv_X2_score : yX2_score.cls = RX2 ∧ yX2_score.cls ≠ "java/lang/invoke/MethodHandle" ∧ yX2_score.cls ≠ "java/lang/invoke/VarHandle" ∧ (parseMethodDescriptor yX2_score.desc).map (fun d => d.parameters.length) = some 1 := by decide +kernel
theorem hs_X2_score : yX2_score.cls ≠ "java/lang/invoke/MethodHandle" ∧ yX2_score.cls ≠ "java/lang/invoke/VarHandle" ∧ (parseMethodDescriptor yX2_score.desc).map (fun d => d.parameters.length) = some 1 := hv_X2_score.2
theorem hp_X2_score : plainName yX2_score.cls = true := by decide +kernel
theorem hv_X2_sign : yX2_sign.cls = RX2 ∧ yX2_sign.cls ≠ "java/lang/invoke/MethodHandle" ∧ yX2_sign.cls ≠ "java/lang/invoke/VarHandle" ∧ (parseMethodDescriptor yX2_sign.desc).map (fun d => d.parameters.length) = some 1 := by decide +kernel
theorem hs_X2_sign : yX2_sign.cls ≠ "java/lang/invoke/MethodHandle" ∧ yX2_sign.cls ≠ "java/lang/invoke/VarHandle" ∧ (parseMethodDescriptor yX2_sign.desc).map (fun d => d.parameters.length) = some 1 := hv_X2_sign.2
theorem hp_X2_sign : plainName yX2_sign.cls = true := by decide +kernel
theorem hv_X2_ticks : yX2_ticks.cls = RX2 ∧ yX2_ticks.cls ≠ "java/lang/invoke/MethodHandle" ∧ yX2_ticks.cls ≠ "java/lang/invoke/VarHandle" ∧ (parseMethodDescriptor yX2_ticks.desc).map (fun d => d.parameters.length) = some 2 := by decide +kernel
theorem hs_X2_ticks : yX2_ticks.cls ≠ "java/lang/invoke/MethodHandle" ∧ yX2_ticks.cls ≠ "java/lang/invoke/VarHandle" ∧ (parseMethodDescriptor yX2_ticks.desc).map (fun d => d.parameters.length) = some 2 := hv_X2_ticks.2
theorem hp_X2_ticks : plainName yX2_ticks.cls = true := by decide +kernel
theorem hv_X2_addNote : yX2_addNote.cls = RX2 ∧ yX2_addNote.cls ≠ "java/lang/invoke/MethodHandle" ∧ yX2_addNote.cls ≠ "java/lang/invoke/VarHandle" ∧ (parseMethodDescriptor yX2_addNote.desc).map (fun d => d.parameters.length) = some 7 := by decide +kernel
theorem hs_X2_addNote : yX2_addNote.cls ≠ "java/lang/invoke/MethodHandle" ∧ yX2_addNote.cls ≠ "java/lang/invoke/VarHandle" ∧ (parseMethodDescriptor yX2_addNote.desc).map (fun d => d.parameters.length) = some 7 := hv_X2_addNote.2
theorem hp_X2_addNote : plainName yX2_addNote.cls = true := by decide +kernel
theorem hv_X2_addRest : yX2_addRest.cls = RX2 ∧ yX2_addRest.cls ≠ "java/lang/invoke/MethodHandle" ∧ yX2_addRest.cls ≠ "java/lang/invoke/VarHandle" ∧ (parseMethodDescriptor yX2_addRest.desc).map (fun d => d.parameters.length) = some 3 := by decide +kernel
theorem hs_X2_addRest : yX2_addRest.cls ≠ "java/lang/invoke/MethodHandle" ∧ yX2_addRest.cls ≠ "java/lang/invoke/VarHandle" ∧ (parseMethodDescriptor yX2_addRest.desc).map (fun d => d.parameters.length) = some 3 := hv_X2_addRest.2
theorem hp_X2_addRest : plainName yX2_addRest.cls = true := by decide +kernel
theorem hv_X2_removeLast : yX2_removeLast.cls = RX2 ∧ yX2_removeLast.cls ≠ "java/lang/invoke/MethodHandle" ∧ yX2_removeLast.cls ≠ "java/lang/invoke/VarHandle" ∧ (parseMethodDescriptor yX2_removeLast.desc).map (fun d => d.parameters.length) = some 1 := by decide +kernel
theorem hs_X2_removeLast : yX2_removeLast.cls ≠ "java/lang/invoke/MethodHandle" ∧ yX2_removeLast.cls ≠ "java/lang/invoke/VarHandle" ∧ (parseMethodDescriptor yX2_removeLast.desc).map (fun d => d.parameters.length) = some 1 := hv_X2_removeLast.2
theorem hp_X2_removeLast : plainName yX2_removeLast.cls = true := by decide +kernel
theorem hv_X2_tie : yX2_tie.cls = RX2 ∧ yX2_tie.cls ≠ "java/lang/invoke/MethodHandle" ∧ yX2_tie.cls ≠ "java/lang/invoke/VarHandle" ∧ (parseMethodDescriptor yX2_tie.desc).map (fun d => d.parameters.length) = some 3 := by decide +kernel
theorem hs_X2_tie : yX2_tie.cls ≠ "java/lang/invoke/MethodHandle" ∧ yX2_tie.cls ≠ "java/lang/invoke/VarHandle" ∧ (parseMethodDescriptor yX2_tie.desc).map (fun d => d.parameters.length) = some 3 := hv_X2_tie.2
theorem hp_X2_tie : plainName yX2_tie.cls = true := by decide +kernel
theorem hv_X2_element : yX2_element.cls = RX2 ∧ yX2_element.cls ≠ "java/lang/invoke/MethodHandle" ∧ yX2_element.cls ≠ "java/lang/invoke/VarHandle" ∧ (parseMethodDescriptor yX2_element.desc).map (fun d => d.parameters.length) = some 3 := by decide +kernel
theorem hs_X2_element : yX2_element.cls ≠ "java/lang/invoke/MethodHandle" ∧ yX2_element.cls ≠ "java/lang/invoke/VarHandle" ∧ (parseMethodDescriptor yX2_element.desc).map (fun d => d.parameters.length) = some 3 := hv_X2_element.2
theorem hp_X2_element : plainName yX2_element.cls = true := by decide +kernel
theorem hv_X2_pitch : yX2_pitch.cls = RX2 ∧ yX2_pitch.cls ≠ "java/lang/invoke/MethodHandle" ∧ yX2_pitch.cls ≠ "java/lang/invoke/VarHandle" ∧ (parseMethodDescriptor yX2_pitch.desc).map (fun d => d.parameters.length) = some 3 := by decide +kernel
theorem hs_X2_pitch : yX2_pitch.cls ≠ "java/lang/invoke/MethodHandle" ∧ yX2_pitch.cls ≠ "java/lang/invoke/VarHandle" ∧ (parseMethodDescriptor yX2_pitch.desc).map (fun d => d.parameters.length) = some 3 := hv_X2_pitch.2
theorem hp_X2_pitch : plainName yX2_pitch.cls = true := by decide +kernel
theorem hv_X2_voice : yX2_voice.cls = RX2 ∧ yX2_voice.cls ≠ "java/lang/invoke/MethodHandle" ∧ yX2_voice.cls ≠ "java/lang/invoke/VarHandle" ∧ (parseMethodDescriptor yX2_voice.desc).map (fun d => d.parameters.length) = some 2 := by decide +kernel
theorem hs_X2_voice : yX2_voice.cls ≠ "java/lang/invoke/MethodHandle" ∧ yX2_voice.cls ≠ "java/lang/invoke/VarHandle" ∧ (parseMethodDescriptor yX2_voice.desc).map (fun d => d.parameters.length) = some 2 := hv_X2_voice.2
theorem hp_X2_voice : plainName yX2_voice.cls = true := by decide +kernel
theorem hv_X2_transpose : yX2_transpose.cls = RX2 ∧ yX2_transpose.cls ≠ "java/lang/invoke/MethodHandle" ∧ yX2_transpose.cls ≠ "java/lang/invoke/VarHandle" ∧ (parseMethodDescriptor yX2_transpose.desc).map (fun d => d.parameters.length) = some 2 := by decide +kernel
theorem hs_X2_transpose : yX2_transpose.cls ≠ "java/lang/invoke/MethodHandle" ∧ yX2_transpose.cls ≠ "java/lang/invoke/VarHandle" ∧ (parseMethodDescriptor yX2_transpose.desc).map (fun d => d.parameters.length) = some 2 := hv_X2_transpose.2
theorem hp_X2_transpose : plainName yX2_transpose.cls = true := by decide +kernel
theorem hv_X2_faults : yX2_faults.cls = RX2 ∧ yX2_faults.cls ≠ "java/lang/invoke/MethodHandle" ∧ yX2_faults.cls ≠ "java/lang/invoke/VarHandle" ∧ (parseMethodDescriptor yX2_faults.desc).map (fun d => d.parameters.length) = some 0 := by decide +kernel
theorem hs_X2_faults : yX2_faults.cls ≠ "java/lang/invoke/MethodHandle" ∧ yX2_faults.cls ≠ "java/lang/invoke/VarHandle" ∧ (parseMethodDescriptor yX2_faults.desc).map (fun d => d.parameters.length) = some 0 := hv_X2_faults.2
theorem hp_X2_faults : plainName yX2_faults.cls = true := by decide +kernel
theorem hv_X2_interval : yX2_interval.cls = RX2 ∧ yX2_interval.cls ≠ "java/lang/invoke/MethodHandle" ∧ yX2_interval.cls ≠ "java/lang/invoke/VarHandle" ∧ (parseMethodDescriptor yX2_interval.desc).map (fun d => d.parameters.length) = some 3 := by decide +kernel
theorem hs_X2_interval : yX2_interval.cls ≠ "java/lang/invoke/MethodHandle" ∧ yX2_interval.cls ≠ "java/lang/invoke/VarHandle" ∧ (parseMethodDescriptor yX2_interval.desc).map (fun d => d.parameters.length) = some 3 := hv_X2_interval.2
theorem hp_X2_interval : plainName yX2_interval.cls = true := by decide +kernel
theorem hv_X2_event : yX2_event.cls = RX2 ∧ yX2_event.cls ≠ "java/lang/invoke/MethodHandle" ∧ yX2_event.cls ≠ "java/lang/invoke/VarHandle" ∧ (parseMethodDescriptor yX2_event.desc).map (fun d => d.parameters.length) = some 2 := by decide +kernel
theorem hs_X2_event : yX2_event.cls ≠ "java/lang/invoke/MethodHandle" ∧ yX2_event.cls ≠ "java/lang/invoke/VarHandle" ∧ (parseMethodDescriptor yX2_event.desc).map (fun d => d.parameters.length) = some 2 := hv_X2_event.2
theorem hp_X2_event : plainName yX2_event.cls = true := by decide +kernel
theorem hv_X2_events : yX2_events.cls = RX2 ∧ yX2_events.cls ≠ "java/lang/invoke/MethodHandle" ∧ yX2_events.cls ≠ "java/lang/invoke/VarHandle" ∧ (parseMethodDescriptor yX2_events.desc).map (fun d => d.parameters.length) = some 0 := by decide +kernel
theorem hs_X2_events : yX2_events.cls ≠ "java/lang/invoke/MethodHandle" ∧ yX2_events.cls ≠ "java/lang/invoke/VarHandle" ∧ (parseMethodDescriptor yX2_events.desc).map (fun d => d.parameters.length) = some 0 := hv_X2_events.2
theorem hp_X2_events : plainName yX2_events.cls = true := by decide +kernel
theorem hv_X2_time : yX2_time.cls = RX2 ∧ yX2_time.cls ≠ "java/lang/invoke/MethodHandle" ∧ yX2_time.cls ≠ "java/lang/invoke/VarHandle" ∧ (parseMethodDescriptor yX2_time.desc).map (fun d => d.parameters.length) = some 2 := by decide +kernel
theorem hs_X2_time : yX2_time.cls ≠ "java/lang/invoke/MethodHandle" ∧ yX2_time.cls ≠ "java/lang/invoke/VarHandle" ∧ (parseMethodDescriptor yX2_time.desc).map (fun d => d.parameters.length) = some 2 := hv_X2_time.2
theorem hp_X2_time : plainName yX2_time.cls = true := by decide +kernel
theorem hv_X2_meanTone : yX2_meanTone.cls = RX2 ∧ yX2_meanTone.cls ≠ "java/lang/invoke/MethodHandle" ∧ yX2_meanTone.cls ≠ "java/lang/invoke/VarHandle" ∧ (parseMethodDescriptor yX2_meanTone.desc).map (fun d => d.parameters.length) = some 0 := by decide +kernel
theorem hs_X2_meanTone : yX2_meanTone.cls ≠ "java/lang/invoke/MethodHandle" ∧ yX2_meanTone.cls ≠ "java/lang/invoke/VarHandle" ∧ (parseMethodDescriptor yX2_meanTone.desc).map (fun d => d.parameters.length) = some 0 := hv_X2_meanTone.2
theorem hp_X2_meanTone : plainName yX2_meanTone.cls = true := by decide +kernel
theorem hv_X2_digest : yX2_digest.cls = RX2 ∧ yX2_digest.cls ≠ "java/lang/invoke/MethodHandle" ∧ yX2_digest.cls ≠ "java/lang/invoke/VarHandle" ∧ (parseMethodDescriptor yX2_digest.desc).map (fun d => d.parameters.length) = some 0 := by decide +kernel
theorem hs_X2_digest : yX2_digest.cls ≠ "java/lang/invoke/MethodHandle" ∧ yX2_digest.cls ≠ "java/lang/invoke/VarHandle" ∧ (parseMethodDescriptor yX2_digest.desc).map (fun d => d.parameters.length) = some 0 := hv_X2_digest.2
theorem hp_X2_digest : plainName yX2_digest.cls = true := by decide +kernel
theorem hv_X2_requireVoice : yX2_requireVoice.cls = RX2 ∧ yX2_requireVoice.cls ≠ "java/lang/invoke/MethodHandle" ∧ yX2_requireVoice.cls ≠ "java/lang/invoke/VarHandle" ∧ (parseMethodDescriptor yX2_requireVoice.desc).map (fun d => d.parameters.length) = some 1 := by decide +kernel
theorem hs_X2_requireVoice : yX2_requireVoice.cls ≠ "java/lang/invoke/MethodHandle" ∧ yX2_requireVoice.cls ≠ "java/lang/invoke/VarHandle" ∧ (parseMethodDescriptor yX2_requireVoice.desc).map (fun d => d.parameters.length) = some 1 := hv_X2_requireVoice.2
theorem hp_X2_requireVoice : plainName yX2_requireVoice.cls = true := by decide +kernel
theorem hv_X2_requireElement : yX2_requireElement.cls = RX2 ∧ yX2_requireElement.cls ≠ "java/lang/invoke/MethodHandle" ∧ yX2_requireElement.cls ≠ "java/lang/invoke/VarHandle" ∧ (parseMethodDescriptor yX2_requireElement.desc).map (fun d => d.parameters.length) = some 2 := by decide +kernel
theorem hs_X2_requireElement : yX2_requireElement.cls ≠ "java/lang/invoke/MethodHandle" ∧ yX2_requireElement.cls ≠ "java/lang/invoke/VarHandle" ∧ (parseMethodDescriptor yX2_requireElement.desc).map (fun d => d.parameters.length) = some 2 := hv_X2_requireElement.2
theorem hp_X2_requireElement : plainName yX2_requireElement.cls = true := by decide +kernel
theorem hv_X2_greatestEnd : yX2_greatestEnd.cls = RX2 ∧ yX2_greatestEnd.cls ≠ "java/lang/invoke/MethodHandle" ∧ yX2_greatestEnd.cls ≠ "java/lang/invoke/VarHandle" ∧ (parseMethodDescriptor yX2_greatestEnd.desc).map (fun d => d.parameters.length) = some 0 := by decide +kernel
theorem hs_X2_greatestEnd : yX2_greatestEnd.cls ≠ "java/lang/invoke/MethodHandle" ∧ yX2_greatestEnd.cls ≠ "java/lang/invoke/VarHandle" ∧ (parseMethodDescriptor yX2_greatestEnd.desc).map (fun d => d.parameters.length) = some 0 := hv_X2_greatestEnd.2
theorem hp_X2_greatestEnd : plainName yX2_greatestEnd.cls = true := by decide +kernel
theorem hv_X2_barsBegun : yX2_barsBegun.cls = RX2 ∧ yX2_barsBegun.cls ≠ "java/lang/invoke/MethodHandle" ∧ yX2_barsBegun.cls ≠ "java/lang/invoke/VarHandle" ∧ (parseMethodDescriptor yX2_barsBegun.desc).map (fun d => d.parameters.length) = some 0 := by decide +kernel
theorem hs_X2_barsBegun : yX2_barsBegun.cls ≠ "java/lang/invoke/MethodHandle" ∧ yX2_barsBegun.cls ≠ "java/lang/invoke/VarHandle" ∧ (parseMethodDescriptor yX2_barsBegun.desc).map (fun d => d.parameters.length) = some 0 := hv_X2_barsBegun.2
theorem hp_X2_barsBegun : plainName yX2_barsBegun.cls = true := by decide +kernel
theorem hv_X2_arrangeOne : yX2_arrangeOne.cls = RX2 ∧ yX2_arrangeOne.cls ≠ "java/lang/invoke/MethodHandle" ∧ yX2_arrangeOne.cls ≠ "java/lang/invoke/VarHandle" ∧ (parseMethodDescriptor yX2_arrangeOne.desc).map (fun d => d.parameters.length) = some 1 := by decide +kernel
theorem hs_X2_arrangeOne : yX2_arrangeOne.cls ≠ "java/lang/invoke/MethodHandle" ∧ yX2_arrangeOne.cls ≠ "java/lang/invoke/VarHandle" ∧ (parseMethodDescriptor yX2_arrangeOne.desc).map (fun d => d.parameters.length) = some 1 := hv_X2_arrangeOne.2
theorem hp_X2_arrangeOne : plainName yX2_arrangeOne.cls = true := by decide +kernel
theorem hv_X2_arrangeAll : yX2_arrangeAll.cls = RX2 ∧ yX2_arrangeAll.cls ≠ "java/lang/invoke/MethodHandle" ∧ yX2_arrangeAll.cls ≠ "java/lang/invoke/VarHandle" ∧ (parseMethodDescriptor yX2_arrangeAll.desc).map (fun d => d.parameters.length) = some 0 := by decide +kernel
theorem hs_X2_arrangeAll : yX2_arrangeAll.cls ≠ "java/lang/invoke/MethodHandle" ∧ yX2_arrangeAll.cls ≠ "java/lang/invoke/VarHandle" ∧ (parseMethodDescriptor yX2_arrangeAll.desc).map (fun d => d.parameters.length) = some 0 := hv_X2_arrangeAll.2
theorem hp_X2_arrangeAll : plainName yX2_arrangeAll.cls = true := by decide +kernel
theorem hv_X2_addPieces : yX2_addPieces.cls = RX2 ∧ yX2_addPieces.cls ≠ "java/lang/invoke/MethodHandle" ∧ yX2_addPieces.cls ≠ "java/lang/invoke/VarHandle" ∧ (parseMethodDescriptor yX2_addPieces.desc).map (fun d => d.parameters.length) = some 2 := by decide +kernel
theorem hs_X2_addPieces : yX2_addPieces.cls ≠ "java/lang/invoke/MethodHandle" ∧ yX2_addPieces.cls ≠ "java/lang/invoke/VarHandle" ∧ (parseMethodDescriptor yX2_addPieces.desc).map (fun d => d.parameters.length) = some 2 := hv_X2_addPieces.2
theorem hp_X2_addPieces : plainName yX2_addPieces.cls = true := by decide +kernel
theorem hv_X2_planPieces : yX2_planPieces.cls = RX2 ∧ yX2_planPieces.cls ≠ "java/lang/invoke/MethodHandle" ∧ yX2_planPieces.cls ≠ "java/lang/invoke/VarHandle" ∧ (parseMethodDescriptor yX2_planPieces.desc).map (fun d => d.parameters.length) = some 2 := by decide +kernel
theorem hs_X2_planPieces : yX2_planPieces.cls ≠ "java/lang/invoke/MethodHandle" ∧ yX2_planPieces.cls ≠ "java/lang/invoke/VarHandle" ∧ (parseMethodDescriptor yX2_planPieces.desc).map (fun d => d.parameters.length) = some 2 := hv_X2_planPieces.2
theorem hp_X2_planPieces : plainName yX2_planPieces.cls = true := by decide +kernel
theorem hv_X2_greatestValue : yX2_greatestValue.cls = RX2 ∧ yX2_greatestValue.cls ≠ "java/lang/invoke/MethodHandle" ∧ yX2_greatestValue.cls ≠ "java/lang/invoke/VarHandle" ∧ (parseMethodDescriptor yX2_greatestValue.desc).map (fun d => d.parameters.length) = some 1 := by decide +kernel
theorem hs_X2_greatestValue : yX2_greatestValue.cls ≠ "java/lang/invoke/MethodHandle" ∧ yX2_greatestValue.cls ≠ "java/lang/invoke/VarHandle" ∧ (parseMethodDescriptor yX2_greatestValue.desc).map (fun d => d.parameters.length) = some 1 := hv_X2_greatestValue.2
theorem hp_X2_greatestValue : plainName yX2_greatestValue.cls = true := by decide +kernel
theorem hv_X2_findValue : yX2_findValue.cls = RX2 ∧ yX2_findValue.cls ≠ "java/lang/invoke/MethodHandle" ∧ yX2_findValue.cls ≠ "java/lang/invoke/VarHandle" ∧ (parseMethodDescriptor yX2_findValue.desc).map (fun d => d.parameters.length) = some 2 := by decide +kernel
theorem hs_X2_findValue : yX2_findValue.cls ≠ "java/lang/invoke/MethodHandle" ∧ yX2_findValue.cls ≠ "java/lang/invoke/VarHandle" ∧ (parseMethodDescriptor yX2_findValue.desc).map (fun d => d.parameters.length) = some 2 := hv_X2_findValue.2
theorem hp_X2_findValue : plainName yX2_findValue.cls = true := by decide +kernel
theorem hv_X2_wholeParts : yX2_wholeParts.cls = RX2 ∧ yX2_wholeParts.cls ≠ "java/lang/invoke/MethodHandle" ∧ yX2_wholeParts.cls ≠ "java/lang/invoke/VarHandle" ∧ (parseMethodDescriptor yX2_wholeParts.desc).map (fun d => d.parameters.length) = some 2 := by decide +kernel
theorem hs_X2_wholeParts : yX2_wholeParts.cls ≠ "java/lang/invoke/MethodHandle" ∧ yX2_wholeParts.cls ≠ "java/lang/invoke/VarHandle" ∧ (parseMethodDescriptor yX2_wholeParts.desc).map (fun d => d.parameters.length) = some 2 := hv_X2_wholeParts.2
theorem hp_X2_wholeParts : plainName yX2_wholeParts.cls = true := by decide +kernel
theorem hv_X2_isKey : yX2_isKey.cls = RX2 ∧ yX2_isKey.cls ≠ "java/lang/invoke/MethodHandle" ∧ yX2_isKey.cls ≠ "java/lang/invoke/VarHandle" ∧ (parseMethodDescriptor yX2_isKey.desc).map (fun d => d.parameters.length) = some 1 := by decide +kernel
theorem hs_X2_isKey : yX2_isKey.cls ≠ "java/lang/invoke/MethodHandle" ∧ yX2_isKey.cls ≠ "java/lang/invoke/VarHandle" ∧ (parseMethodDescriptor yX2_isKey.desc).map (fun d => d.parameters.length) = some 1 := hv_X2_isKey.2
theorem hp_X2_isKey : plainName yX2_isKey.cls = true := by decide +kernel
theorem hv_X2_signOfKey : yX2_signOfKey.cls = RX2 ∧ yX2_signOfKey.cls ≠ "java/lang/invoke/MethodHandle" ∧ yX2_signOfKey.cls ≠ "java/lang/invoke/VarHandle" ∧ (parseMethodDescriptor yX2_signOfKey.desc).map (fun d => d.parameters.length) = some 2 := by decide +kernel
theorem hs_X2_signOfKey : yX2_signOfKey.cls ≠ "java/lang/invoke/MethodHandle" ∧ yX2_signOfKey.cls ≠ "java/lang/invoke/VarHandle" ∧ (parseMethodDescriptor yX2_signOfKey.desc).map (fun d => d.parameters.length) = some 2 := hv_X2_signOfKey.2
theorem hp_X2_signOfKey : plainName yX2_signOfKey.cls = true := by decide +kernel
theorem hv_X2_toneOf : yX2_toneOf.cls = RX2 ∧ yX2_toneOf.cls ≠ "java/lang/invoke/MethodHandle" ∧ yX2_toneOf.cls ≠ "java/lang/invoke/VarHandle" ∧ (parseMethodDescriptor yX2_toneOf.desc).map (fun d => d.parameters.length) = some 3 := by decide +kernel
theorem hs_X2_toneOf : yX2_toneOf.cls ≠ "java/lang/invoke/MethodHandle" ∧ yX2_toneOf.cls ≠ "java/lang/invoke/VarHandle" ∧ (parseMethodDescriptor yX2_toneOf.desc).map (fun d => d.parameters.length) = some 3 := hv_X2_toneOf.2
theorem hp_X2_toneOf : plainName yX2_toneOf.cls = true := by decide +kernel
theorem hv_X2_stepAt : yX2_stepAt.cls = RX2 ∧ yX2_stepAt.cls ≠ "java/lang/invoke/MethodHandle" ∧ yX2_stepAt.cls ≠ "java/lang/invoke/VarHandle" ∧ (parseMethodDescriptor yX2_stepAt.desc).map (fun d => d.parameters.length) = some 1 := by decide +kernel
theorem hs_X2_stepAt : yX2_stepAt.cls ≠ "java/lang/invoke/MethodHandle" ∧ yX2_stepAt.cls ≠ "java/lang/invoke/VarHandle" ∧ (parseMethodDescriptor yX2_stepAt.desc).map (fun d => d.parameters.length) = some 1 := hv_X2_stepAt.2
theorem hp_X2_stepAt : plainName yX2_stepAt.cls = true := by decide +kernel
theorem hv_X2_octaveAt : yX2_octaveAt.cls = RX2 ∧ yX2_octaveAt.cls ≠ "java/lang/invoke/MethodHandle" ∧ yX2_octaveAt.cls ≠ "java/lang/invoke/VarHandle" ∧ (parseMethodDescriptor yX2_octaveAt.desc).map (fun d => d.parameters.length) = some 1 := by decide +kernel
theorem hs_X2_octaveAt : yX2_octaveAt.cls ≠ "java/lang/invoke/MethodHandle" ∧ yX2_octaveAt.cls ≠ "java/lang/invoke/VarHandle" ∧ (parseMethodDescriptor yX2_octaveAt.desc).map (fun d => d.parameters.length) = some 1 := hv_X2_octaveAt.2
theorem hp_X2_octaveAt : plainName yX2_octaveAt.cls = true := by decide +kernel
theorem hv_X2_signAt : yX2_signAt.cls = RX2 ∧ yX2_signAt.cls ≠ "java/lang/invoke/MethodHandle" ∧ yX2_signAt.cls ≠ "java/lang/invoke/VarHandle" ∧ (parseMethodDescriptor yX2_signAt.desc).map (fun d => d.parameters.length) = some 2 := by decide +kernel
theorem hs_X2_signAt : yX2_signAt.cls ≠ "java/lang/invoke/MethodHandle" ∧ yX2_signAt.cls ≠ "java/lang/invoke/VarHandle" ∧ (parseMethodDescriptor yX2_signAt.desc).map (fun d => d.parameters.length) = some 2 := hv_X2_signAt.2
theorem hp_X2_signAt : plainName yX2_signAt.cls = true := by decide +kernel
theorem hv_X2_isPitch : yX2_isPitch.cls = RX2 ∧ yX2_isPitch.cls ≠ "java/lang/invoke/MethodHandle" ∧ yX2_isPitch.cls ≠ "java/lang/invoke/VarHandle" ∧ (parseMethodDescriptor yX2_isPitch.desc).map (fun d => d.parameters.length) = some 3 := by decide +kernel
theorem hs_X2_isPitch : yX2_isPitch.cls ≠ "java/lang/invoke/MethodHandle" ∧ yX2_isPitch.cls ≠ "java/lang/invoke/VarHandle" ∧ (parseMethodDescriptor yX2_isPitch.desc).map (fun d => d.parameters.length) = some 3 := hv_X2_isPitch.2
theorem hp_X2_isPitch : plainName yX2_isPitch.cls = true := by decide +kernel
theorem hv_X2_countParallels : yX2_countParallels.cls = RX2 ∧ yX2_countParallels.cls ≠ "java/lang/invoke/MethodHandle" ∧ yX2_countParallels.cls ≠ "java/lang/invoke/VarHandle" ∧ (parseMethodDescriptor yX2_countParallels.desc).map (fun d => d.parameters.length) = some 2 := by decide +kernel
theorem hs_X2_countParallels : yX2_countParallels.cls ≠ "java/lang/invoke/MethodHandle" ∧ yX2_countParallels.cls ≠ "java/lang/invoke/VarHandle" ∧ (parseMethodDescriptor yX2_countParallels.desc).map (fun d => d.parameters.length) = some 2 := hv_X2_countParallels.2
theorem hp_X2_countParallels : plainName yX2_countParallels.cls = true := by decide +kernel
theorem hv_X2_isParallel : yX2_isParallel.cls = RX2 ∧ yX2_isParallel.cls ≠ "java/lang/invoke/MethodHandle" ∧ yX2_isParallel.cls ≠ "java/lang/invoke/VarHandle" ∧ (parseMethodDescriptor yX2_isParallel.desc).map (fun d => d.parameters.length) = some 4 := by decide +kernel
theorem hs_X2_isParallel : yX2_isParallel.cls ≠ "java/lang/invoke/MethodHandle" ∧ yX2_isParallel.cls ≠ "java/lang/invoke/VarHandle" ∧ (parseMethodDescriptor yX2_isParallel.desc).map (fun d => d.parameters.length) = some 4 := hv_X2_isParallel.2
theorem hp_X2_isParallel : plainName yX2_isParallel.cls = true := by decide +kernel
theorem hv_X2_countEvents : yX2_countEvents.cls = RX2 ∧ yX2_countEvents.cls ≠ "java/lang/invoke/MethodHandle" ∧ yX2_countEvents.cls ≠ "java/lang/invoke/VarHandle" ∧ (parseMethodDescriptor yX2_countEvents.desc).map (fun d => d.parameters.length) = some 0 := by decide +kernel
theorem hs_X2_countEvents : yX2_countEvents.cls ≠ "java/lang/invoke/MethodHandle" ∧ yX2_countEvents.cls ≠ "java/lang/invoke/VarHandle" ∧ (parseMethodDescriptor yX2_countEvents.desc).map (fun d => d.parameters.length) = some 0 := hv_X2_countEvents.2
theorem hp_X2_countEvents : plainName yX2_countEvents.cls = true := by decide +kernel
theorem hv_X2_refreshEvents : yX2_refreshEvents.cls = RX2 ∧ yX2_refreshEvents.cls ≠ "java/lang/invoke/MethodHandle" ∧ yX2_refreshEvents.cls ≠ "java/lang/invoke/VarHandle" ∧ (parseMethodDescriptor yX2_refreshEvents.desc).map (fun d => d.parameters.length) = some 0 := by decide +kernel
theorem hs_X2_refreshEvents : yX2_refreshEvents.cls ≠ "java/lang/invoke/MethodHandle" ∧ yX2_refreshEvents.cls ≠ "java/lang/invoke/VarHandle" ∧ (parseMethodDescriptor yX2_refreshEvents.desc).map (fun d => d.parameters.length) = some 0 := hv_X2_refreshEvents.2
theorem hp_X2_refreshEvents : plainName yX2_refreshEvents.cls = true := by decide +kernel
theorem hv_X2_digestVoice : yX2_digestVoice.cls = RX2 ∧ yX2_digestVoice.cls ≠ "java/lang/invoke/MethodHandle" ∧ yX2_digestVoice.cls ≠ "java/lang/invoke/VarHandle" ∧ (parseMethodDescriptor yX2_digestVoice.desc).map (fun d => d.parameters.length) = some 2 := by decide +kernel
theorem hs_X2_digestVoice : yX2_digestVoice.cls ≠ "java/lang/invoke/MethodHandle" ∧ yX2_digestVoice.cls ≠ "java/lang/invoke/VarHandle" ∧ (parseMethodDescriptor yX2_digestVoice.desc).map (fun d => d.parameters.length) = some 2 := hv_X2_digestVoice.2
theorem hp_X2_digestVoice : plainName yX2_digestVoice.cls = true := by decide +kernel
theorem hv_X2_digestEvents : yX2_digestEvents.cls = RX2 ∧ yX2_digestEvents.cls ≠ "java/lang/invoke/MethodHandle" ∧ yX2_digestEvents.cls ≠ "java/lang/invoke/VarHandle" ∧ (parseMethodDescriptor yX2_digestEvents.desc).map (fun d => d.parameters.length) = some 1 := by decide +kernel
theorem hs_X2_digestEvents : yX2_digestEvents.cls ≠ "java/lang/invoke/MethodHandle" ∧ yX2_digestEvents.cls ≠ "java/lang/invoke/VarHandle" ∧ (parseMethodDescriptor yX2_digestEvents.desc).map (fun d => d.parameters.length) = some 1 := hv_X2_digestEvents.2
theorem hp_X2_digestEvents : plainName yX2_digestEvents.cls = true := by decide +kernel
theorem hv_X3_init : yX3_init.cls = RX3 ∧ yX3_init.cls ≠ "java/lang/invoke/MethodHandle" ∧ yX3_init.cls ≠ "java/lang/invoke/VarHandle" ∧ (parseMethodDescriptor yX3_init.desc).map (fun d => d.parameters.length) = some 0 := by decide +kernel
theorem hs_X3_init : yX3_init.cls ≠ "java/lang/invoke/MethodHandle" ∧ yX3_init.cls ≠ "java/lang/invoke/VarHandle" ∧ (parseMethodDescriptor yX3_init.desc).map (fun d => d.parameters.length) = some 0 := hv_X3_init.2
theorem hp_X3_init : plainName yX3_init.cls = true := by decide +kernel
theorem hv_X3_thrown : yX3_thrown.cls = RX3 ∧ yX3_thrown.cls ≠ "java/lang/invoke/MethodHandle" ∧ yX3_thrown.cls ≠ "java/lang/invoke/VarHandle" ∧ (parseMethodDescriptor yX3_thrown.desc).map (fun d => d.parameters.length) = some 0 := by decide +kernel
theorem hs_X3_thrown : yX3_thrown.cls ≠ "java/lang/invoke/MethodHandle" ∧ yX3_thrown.cls ≠ "java/lang/invoke/VarHandle" ∧ (parseMethodDescriptor yX3_thrown.desc).map (fun d => d.parameters.length) = some 0 := hv_X3_thrown.2
theorem hp_X3_thrown : plainName yX3_thrown.cls = true := by decide +kernel
theorem hv_X3_fail : yX3_fail.cls = RX3 ∧ yX3_fail.cls ≠ "java/lang/invoke/MethodHandle" ∧ yX3_fail.cls ≠ "java/lang/invoke/VarHandle" ∧ (parseMethodDescriptor yX3_fail.desc).map (fun d => d.parameters.length) = some 1 := by decide +kernel
theorem hs_X3_fail : yX3_fail.cls ≠ "java/lang/invoke/MethodHandle" ∧ yX3_fail.cls ≠ "java/lang/invoke/VarHandle" ∧ (parseMethodDescriptor yX3_fail.desc).map (fun d => d.parameters.length) = some 1 := hv_X3_fail.2
theorem hp_X3_fail : plainName yX3_fail.cls = true := by decide +kernel
theorem hv_X3_isIn : yX3_isIn.cls = RX3 ∧ yX3_isIn.cls ≠ "java/lang/invoke/MethodHandle" ∧ yX3_isIn.cls ≠ "java/lang/invoke/VarHandle" ∧ (parseMethodDescriptor yX3_isIn.desc).map (fun d => d.parameters.length) = some 3 := by decide +kernel
theorem hs_X3_isIn : yX3_isIn.cls ≠ "java/lang/invoke/MethodHandle" ∧ yX3_isIn.cls ≠ "java/lang/invoke/VarHandle" ∧ (parseMethodDescriptor yX3_isIn.desc).map (fun d => d.parameters.length) = some 3 := hv_X3_isIn.2
theorem hp_X3_isIn : plainName yX3_isIn.cls = true := by decide +kernel
theorem hv_X3_isVoice : yX3_isVoice.cls = RX3 ∧ yX3_isVoice.cls ≠ "java/lang/invoke/MethodHandle" ∧ yX3_isVoice.cls ≠ "java/lang/invoke/VarHandle" ∧ (parseMethodDescriptor yX3_isVoice.desc).map (fun d => d.parameters.length) = some 1 := by decide +kernel
theorem hs_X3_isVoice : yX3_isVoice.cls ≠ "java/lang/invoke/MethodHandle" ∧ yX3_isVoice.cls ≠ "java/lang/invoke/VarHandle" ∧ (parseMethodDescriptor yX3_isVoice.desc).map (fun d => d.parameters.length) = some 1 := hv_X3_isVoice.2
theorem hp_X3_isVoice : plainName yX3_isVoice.cls = true := by decide +kernel
theorem hv_X3_isElement : yX3_isElement.cls = RX3 ∧ yX3_isElement.cls ≠ "java/lang/invoke/MethodHandle" ∧ yX3_isElement.cls ≠ "java/lang/invoke/VarHandle" ∧ (parseMethodDescriptor yX3_isElement.desc).map (fun d => d.parameters.length) = some 2 := by decide +kernel
theorem hs_X3_isElement : yX3_isElement.cls ≠ "java/lang/invoke/MethodHandle" ∧ yX3_isElement.cls ≠ "java/lang/invoke/VarHandle" ∧ (parseMethodDescriptor yX3_isElement.desc).map (fun d => d.parameters.length) = some 2 := hv_X3_isElement.2
theorem hp_X3_isElement : plainName yX3_isElement.cls = true := by decide +kernel
theorem hv_X3_get : yX3_get.cls = RX3 ∧ yX3_get.cls ≠ "java/lang/invoke/MethodHandle" ∧ yX3_get.cls ≠ "java/lang/invoke/VarHandle" ∧ (parseMethodDescriptor yX3_get.desc).map (fun d => d.parameters.length) = some 3 := by decide +kernel
theorem hs_X3_get : yX3_get.cls ≠ "java/lang/invoke/MethodHandle" ∧ yX3_get.cls ≠ "java/lang/invoke/VarHandle" ∧ (parseMethodDescriptor yX3_get.desc).map (fun d => d.parameters.length) = some 3 := hv_X3_get.2
theorem hp_X3_get : plainName yX3_get.cls = true := by decide +kernel
theorem hv_X3_bar : yX3_bar.cls = RX3 ∧ yX3_bar.cls ≠ "java/lang/invoke/MethodHandle" ∧ yX3_bar.cls ≠ "java/lang/invoke/VarHandle" ∧ (parseMethodDescriptor yX3_bar.desc).map (fun d => d.parameters.length) = some 0 := by decide +kernel
theorem hs_X3_bar : yX3_bar.cls ≠ "java/lang/invoke/MethodHandle" ∧ yX3_bar.cls ≠ "java/lang/invoke/VarHandle" ∧ (parseMethodDescriptor yX3_bar.desc).map (fun d => d.parameters.length) = some 0 := hv_X3_bar.2
theorem hp_X3_bar : plainName yX3_bar.cls = true := by decide +kernel
theorem hv_X3_isValue : yX3_isValue.cls = RX3 ∧ yX3_isValue.cls ≠ "java/lang/invoke/MethodHandle" ∧ yX3_isValue.cls ≠ "java/lang/invoke/VarHandle" ∧ (parseMethodDescriptor yX3_isValue.desc).map (fun d => d.parameters.length) = some 2 := by decide +kernel
theorem hs_X3_isValue : yX3_isValue.cls ≠ "java/lang/invoke/MethodHandle" ∧ yX3_isValue.cls ≠ "java/lang/invoke/VarHandle" ∧ (parseMethodDescriptor yX3_isValue.desc).map (fun d => d.parameters.length) = some 2 := hv_X3_isValue.2
theorem hp_X3_isValue : plainName yX3_isValue.cls = true := by decide +kernel
theorem hv_X3_ticksOf : yX3_ticksOf.cls = RX3 ∧ yX3_ticksOf.cls ≠ "java/lang/invoke/MethodHandle" ∧ yX3_ticksOf.cls ≠ "java/lang/invoke/VarHandle" ∧ (parseMethodDescriptor yX3_ticksOf.desc).map (fun d => d.parameters.length) = some 2 := by decide +kernel
theorem hs_X3_ticksOf : yX3_ticksOf.cls ≠ "java/lang/invoke/MethodHandle" ∧ yX3_ticksOf.cls ≠ "java/lang/invoke/VarHandle" ∧ (parseMethodDescriptor yX3_ticksOf.desc).map (fun d => d.parameters.length) = some 2 := hv_X3_ticksOf.2
theorem hp_X3_ticksOf : plainName yX3_ticksOf.cls = true := by decide +kernel
theorem hv_X3_length : yX3_length.cls = RX3 ∧ yX3_length.cls ≠ "java/lang/invoke/MethodHandle" ∧ yX3_length.cls ≠ "java/lang/invoke/VarHandle" ∧ (parseMethodDescriptor yX3_length.desc).map (fun d => d.parameters.length) = some 2 := by decide +kernel
theorem hs_X3_length : yX3_length.cls ≠ "java/lang/invoke/MethodHandle" ∧ yX3_length.cls ≠ "java/lang/invoke/VarHandle" ∧ (parseMethodDescriptor yX3_length.desc).map (fun d => d.parameters.length) = some 2 := hv_X3_length.2
theorem hp_X3_length : plainName yX3_length.cls = true := by decide +kernel
theorem hv_X3_tone : yX3_tone.cls = RX3 ∧ yX3_tone.cls ≠ "java/lang/invoke/MethodHandle" ∧ yX3_tone.cls ≠ "java/lang/invoke/VarHandle" ∧ (parseMethodDescriptor yX3_tone.desc).map (fun d => d.parameters.length) = some 2 := by decide +kernel
theorem hs_X3_tone : yX3_tone.cls ≠ "java/lang/invoke/MethodHandle" ∧ yX3_tone.cls ≠ "java/lang/invoke/VarHandle" ∧ (parseMethodDescriptor yX3_tone.desc).map (fun d => d.parameters.length) = some 2 := hv_X3_tone.2
theorem hp_X3_tone : plainName yX3_tone.cls = true := by decide +kernel
theorem hv_X3_toneOf : yX3_toneOf.cls = RX3 ∧ yX3_toneOf.cls ≠ "java/lang/invoke/MethodHandle" ∧ yX3_toneOf.cls ≠ "java/lang/invoke/VarHandle" ∧ (parseMethodDescriptor yX3_toneOf.desc).map (fun d => d.parameters.length) = some 3 := by decide +kernel
theorem hs_X3_toneOf : yX3_toneOf.cls ≠ "java/lang/invoke/MethodHandle" ∧ yX3_toneOf.cls ≠ "java/lang/invoke/VarHandle" ∧ (parseMethodDescriptor yX3_toneOf.desc).map (fun d => d.parameters.length) = some 3 := hv_X3_toneOf.2
theorem hp_X3_toneOf : plainName yX3_toneOf.cls = true := by decide +kernel
theorem hv_X3_isPitch : yX3_isPitch.cls = RX3 ∧ yX3_isPitch.cls ≠ "java/lang/invoke/MethodHandle" ∧ yX3_isPitch.cls ≠ "java/lang/invoke/VarHandle" ∧ (parseMethodDescriptor yX3_isPitch.desc).map (fun d => d.parameters.length) = some 3 := by decide +kernel
theorem hs_X3_isPitch : yX3_isPitch.cls ≠ "java/lang/invoke/MethodHandle" ∧ yX3_isPitch.cls ≠ "java/lang/invoke/VarHandle" ∧ (parseMethodDescriptor yX3_isPitch.desc).map (fun d => d.parameters.length) = some 3 := hv_X3_isPitch.2
theorem hp_X3_isPitch : plainName yX3_isPitch.cls = true := by decide +kernel
theorem hv_X3_signOf : yX3_signOf.cls = RX3 ∧ yX3_signOf.cls ≠ "java/lang/invoke/MethodHandle" ∧ yX3_signOf.cls ≠ "java/lang/invoke/VarHandle" ∧ (parseMethodDescriptor yX3_signOf.desc).map (fun d => d.parameters.length) = some 1 := by decide +kernel
theorem hs_X3_signOf : yX3_signOf.cls ≠ "java/lang/invoke/MethodHandle" ∧ yX3_signOf.cls ≠ "java/lang/invoke/VarHandle" ∧ (parseMethodDescriptor yX3_signOf.desc).map (fun d => d.parameters.length) = some 1 := hv_X3_signOf.2
theorem hp_X3_signOf : plainName yX3_signOf.cls = true := by decide +kernel
theorem hv_X3_setBars : yX3_setBars.cls = RX3 ∧ yX3_setBars.cls ≠ "java/lang/invoke/MethodHandle" ∧ yX3_setBars.cls ≠ "java/lang/invoke/VarHandle" ∧ (parseMethodDescriptor yX3_setBars.desc).map (fun d => d.parameters.length) = some 2 := by decide +kernel
theorem hs_X3_setBars : yX3_setBars.cls ≠ "java/lang/invoke/MethodHandle" ∧ yX3_setBars.cls ≠ "java/lang/invoke/VarHandle" ∧ (parseMethodDescriptor yX3_setBars.desc).map (fun d => d.parameters.length) = some 2 := hv_X3_setBars.2
theorem hp_X3_setBars : plainName yX3_setBars.cls = true := by decide +kernel
theorem hv_X3_setKey : yX3_setKey.cls = RX3 ∧ yX3_setKey.cls ≠ "java/lang/invoke/MethodHandle" ∧ yX3_setKey.cls ≠ "java/lang/invoke/VarHandle" ∧ (parseMethodDescriptor yX3_setKey.desc).map (fun d => d.parameters.length) = some 1 := by decide +kernel
theorem hs_X3_setKey : yX3_setKey.cls ≠ "java/lang/invoke/MethodHandle" ∧ yX3_setKey.cls ≠ "java/lang/invoke/VarHandle" ∧ (parseMethodDescriptor yX3_setKey.desc).map (fun d => d.parameters.length) = some 1 := hv_X3_setKey.2
theorem hp_X3_setKey : plainName yX3_setKey.cls = true := by decide +kernel
theorem hv_X3_addVoice : yX3_addVoice.cls = RX3 ∧ yX3_addVoice.cls ≠ "java/lang/invoke/MethodHandle" ∧ yX3_addVoice.cls ≠ "java/lang/invoke/VarHandle" ∧ (parseMethodDescriptor yX3_addVoice.desc).map (fun d => d.parameters.length) = some 0 := by decide +kernel
theorem hs_X3_addVoice : yX3_addVoice.cls ≠ "java/lang/invoke/MethodHandle" ∧ yX3_addVoice.cls ≠ "java/lang/invoke/VarHandle" ∧ (parseMethodDescriptor yX3_addVoice.desc).map (fun d => d.parameters.length) = some 0 := hv_X3_addVoice.2
theorem hp_X3_addVoice : plainName yX3_addVoice.cls = true := by decide +kernel
theorem hv_X3_findTimes : yX3_findTimes.cls = RX3 ∧ yX3_findTimes.cls ≠ "java/lang/invoke/MethodHandle" ∧ yX3_findTimes.cls ≠ "java/lang/invoke/VarHandle" ∧ (parseMethodDescriptor yX3_findTimes.desc).map (fun d => d.parameters.length) = some 1 := by decide +kernel
theorem hs_X3_findTimes : yX3_findTimes.cls ≠ "java/lang/invoke/MethodHandle" ∧ yX3_findTimes.cls ≠ "java/lang/invoke/VarHandle" ∧ (parseMethodDescriptor yX3_findTimes.desc).map (fun d => d.parameters.length) = some 1 := hv_X3_findTimes.2
theorem hp_X3_findTimes : plainName yX3_findTimes.cls = true := by decide +kernel
theorem hv_X3_barsBegun : yX3_barsBegun.cls = RX3 ∧ yX3_barsBegun.cls ≠ "java/lang/invoke/MethodHandle" ∧ yX3_barsBegun.cls ≠ "java/lang/invoke/VarHandle" ∧ (parseMethodDescriptor yX3_barsBegun.desc).map (fun d => d.parameters.length) = some 0 := by decide +kernel
theorem hs_X3_barsBegun : yX3_barsBegun.cls ≠ "java/lang/invoke/MethodHandle" ∧ yX3_barsBegun.cls ≠ "java/lang/invoke/VarHandle" ∧ (parseMethodDescriptor yX3_barsBegun.desc).map (fun d => d.parameters.length) = some 0 := hv_X3_barsBegun.2
theorem hp_X3_barsBegun : plainName yX3_barsBegun.cls = true := by decide +kernel
theorem hv_X3_scoreTold : yX3_scoreTold.cls = RX3 ∧ yX3_scoreTold.cls ≠ "java/lang/invoke/MethodHandle" ∧ yX3_scoreTold.cls ≠ "java/lang/invoke/VarHandle" ∧ (parseMethodDescriptor yX3_scoreTold.desc).map (fun d => d.parameters.length) = some 1 := by decide +kernel
theorem hs_X3_scoreTold : yX3_scoreTold.cls ≠ "java/lang/invoke/MethodHandle" ∧ yX3_scoreTold.cls ≠ "java/lang/invoke/VarHandle" ∧ (parseMethodDescriptor yX3_scoreTold.desc).map (fun d => d.parameters.length) = some 1 := hv_X3_scoreTold.2
theorem hp_X3_scoreTold : plainName yX3_scoreTold.cls = true := by decide +kernel
theorem hv_X3_score : yX3_score.cls = RX3 ∧ yX3_score.cls ≠ "java/lang/invoke/MethodHandle" ∧ yX3_score.cls ≠ "java/lang/invoke/VarHandle" ∧ (parseMethodDescriptor yX3_score.desc).map (fun d => d.parameters.length) = some 1 := by decide +kernel
theorem hs_X3_score : yX3_score.cls ≠ "java/lang/invoke/MethodHandle" ∧ yX3_score.cls ≠ "java/lang/invoke/VarHandle" ∧ (parseMethodDescriptor yX3_score.desc).map (fun d => d.parameters.length) = some 1 := hv_X3_score.2
theorem hp_X3_score : plainName yX3_score.cls = true := by decide +kernel
theorem hv_X3_sign : yX3_sign.cls = RX3 ∧ yX3_sign.cls ≠ "java/lang/invoke/MethodHandle" ∧ yX3_sign.cls ≠ "java/lang/invoke/VarHandle" ∧ (parseMethodDescriptor yX3_sign.desc).map (fun d => d.parameters.length) = some 1 := by decide +kernel
theorem hs_X3_sign : yX3_sign.cls ≠ "java/lang/invoke/MethodHandle" ∧ yX3_sign.cls ≠ "java/lang/invoke/VarHandle" ∧ (parseMethodDescriptor yX3_sign.desc).map (fun d => d.parameters.length) = some 1 := hv_X3_sign.2
theorem hp_X3_sign : plainName yX3_sign.cls = true := by decide +kernel
theorem hv_X3_ticks : yX3_ticks.cls = RX3 ∧ yX3_ticks.cls ≠ "java/lang/invoke/MethodHandle" ∧ yX3_ticks.cls ≠ "java/lang/invoke/VarHandle" ∧ (parseMethodDescriptor yX3_ticks.desc).map (fun d => d.parameters.length) = some 2 := by decide +kernel
theorem hs_X3_ticks : yX3_ticks.cls ≠ "java/lang/invoke/MethodHandle" ∧ yX3_ticks.cls ≠ "java/lang/invoke/VarHandle" ∧ (parseMethodDescriptor yX3_ticks.desc).map (fun d => d.parameters.length) = some 2 := hv_X3_ticks.2
theorem hp_X3_ticks : plainName yX3_ticks.cls = true := by decide +kernel
theorem hv_X3_cut : yX3_cut.cls = RX3 ∧ yX3_cut.cls ≠ "java/lang/invoke/MethodHandle" ∧ yX3_cut.cls ≠ "java/lang/invoke/VarHandle" ∧ (parseMethodDescriptor yX3_cut.desc).map (fun d => d.parameters.length) = some 4 := by decide +kernel
theorem hs_X3_cut : yX3_cut.cls ≠ "java/lang/invoke/MethodHandle" ∧ yX3_cut.cls ≠ "java/lang/invoke/VarHandle" ∧ (parseMethodDescriptor yX3_cut.desc).map (fun d => d.parameters.length) = some 4 := hv_X3_cut.2
theorem hp_X3_cut : plainName yX3_cut.cls = true := by decide +kernel
theorem hv_X3_add : yX3_add.cls = RX3 ∧ yX3_add.cls ≠ "java/lang/invoke/MethodHandle" ∧ yX3_add.cls ≠ "java/lang/invoke/VarHandle" ∧ (parseMethodDescriptor yX3_add.desc).map (fun d => d.parameters.length) = some 3 := by decide +kernel
theorem hs_X3_add : yX3_add.cls ≠ "java/lang/invoke/MethodHandle" ∧ yX3_add.cls ≠ "java/lang/invoke/VarHandle" ∧ (parseMethodDescriptor yX3_add.desc).map (fun d => d.parameters.length) = some 3 := hv_X3_add.2
theorem hp_X3_add : plainName yX3_add.cls = true := by decide +kernel
theorem hv_X3_addNote : yX3_addNote.cls = RX3 ∧ yX3_addNote.cls ≠ "java/lang/invoke/MethodHandle" ∧ yX3_addNote.cls ≠ "java/lang/invoke/VarHandle" ∧ (parseMethodDescriptor yX3_addNote.desc).map (fun d => d.parameters.length) = some 7 := by decide +kernel
theorem hs_X3_addNote : yX3_addNote.cls ≠ "java/lang/invoke/MethodHandle" ∧ yX3_addNote.cls ≠ "java/lang/invoke/VarHandle" ∧ (parseMethodDescriptor yX3_addNote.desc).map (fun d => d.parameters.length) = some 7 := hv_X3_addNote.2
theorem hp_X3_addNote : plainName yX3_addNote.cls = true := by decide +kernel
theorem hv_X3_addRest : yX3_addRest.cls = RX3 ∧ yX3_addRest.cls ≠ "java/lang/invoke/MethodHandle" ∧ yX3_addRest.cls ≠ "java/lang/invoke/VarHandle" ∧ (parseMethodDescriptor yX3_addRest.desc).map (fun d => d.parameters.length) = some 3 := by decide +kernel
theorem hs_X3_addRest : yX3_addRest.cls ≠ "java/lang/invoke/MethodHandle" ∧ yX3_addRest.cls ≠ "java/lang/invoke/VarHandle" ∧ (parseMethodDescriptor yX3_addRest.desc).map (fun d => d.parameters.length) = some 3 := hv_X3_addRest.2
theorem hp_X3_addRest : plainName yX3_addRest.cls = true := by decide +kernel
theorem hv_X3_removeLast : yX3_removeLast.cls = RX3 ∧ yX3_removeLast.cls ≠ "java/lang/invoke/MethodHandle" ∧ yX3_removeLast.cls ≠ "java/lang/invoke/VarHandle" ∧ (parseMethodDescriptor yX3_removeLast.desc).map (fun d => d.parameters.length) = some 1 := by decide +kernel
theorem hs_X3_removeLast : yX3_removeLast.cls ≠ "java/lang/invoke/MethodHandle" ∧ yX3_removeLast.cls ≠ "java/lang/invoke/VarHandle" ∧ (parseMethodDescriptor yX3_removeLast.desc).map (fun d => d.parameters.length) = some 1 := hv_X3_removeLast.2
theorem hp_X3_removeLast : plainName yX3_removeLast.cls = true := by decide +kernel
theorem hv_X3_tie : yX3_tie.cls = RX3 ∧ yX3_tie.cls ≠ "java/lang/invoke/MethodHandle" ∧ yX3_tie.cls ≠ "java/lang/invoke/VarHandle" ∧ (parseMethodDescriptor yX3_tie.desc).map (fun d => d.parameters.length) = some 3 := by decide +kernel
theorem hs_X3_tie : yX3_tie.cls ≠ "java/lang/invoke/MethodHandle" ∧ yX3_tie.cls ≠ "java/lang/invoke/VarHandle" ∧ (parseMethodDescriptor yX3_tie.desc).map (fun d => d.parameters.length) = some 3 := hv_X3_tie.2
theorem hp_X3_tie : plainName yX3_tie.cls = true := by decide +kernel
theorem hv_X3_isJoined : yX3_isJoined.cls = RX3 ∧ yX3_isJoined.cls ≠ "java/lang/invoke/MethodHandle" ∧ yX3_isJoined.cls ≠ "java/lang/invoke/VarHandle" ∧ (parseMethodDescriptor yX3_isJoined.desc).map (fun d => d.parameters.length) = some 2 := by decide +kernel
theorem hs_X3_isJoined : yX3_isJoined.cls ≠ "java/lang/invoke/MethodHandle" ∧ yX3_isJoined.cls ≠ "java/lang/invoke/VarHandle" ∧ (parseMethodDescriptor yX3_isJoined.desc).map (fun d => d.parameters.length) = some 2 := hv_X3_isJoined.2
theorem hp_X3_isJoined : plainName yX3_isJoined.cls = true := by decide +kernel
theorem hv_X3_find : yX3_find.cls = RX3 ∧ yX3_find.cls ≠ "java/lang/invoke/MethodHandle" ∧ yX3_find.cls ≠ "java/lang/invoke/VarHandle" ∧ (parseMethodDescriptor yX3_find.desc).map (fun d => d.parameters.length) = some 1 := by decide +kernel
theorem hs_X3_find : yX3_find.cls ≠ "java/lang/invoke/MethodHandle" ∧ yX3_find.cls ≠ "java/lang/invoke/VarHandle" ∧ (parseMethodDescriptor yX3_find.desc).map (fun d => d.parameters.length) = some 1 := hv_X3_find.2
theorem hp_X3_find : plainName yX3_find.cls = true := by decide +kernel
theorem hv_X3_canBeam : yX3_canBeam.cls = RX3 ∧ yX3_canBeam.cls ≠ "java/lang/invoke/MethodHandle" ∧ yX3_canBeam.cls ≠ "java/lang/invoke/VarHandle" ∧ (parseMethodDescriptor yX3_canBeam.desc).map (fun d => d.parameters.length) = some 2 := by decide +kernel
theorem hs_X3_canBeam : yX3_canBeam.cls ≠ "java/lang/invoke/MethodHandle" ∧ yX3_canBeam.cls ≠ "java/lang/invoke/VarHandle" ∧ (parseMethodDescriptor yX3_canBeam.desc).map (fun d => d.parameters.length) = some 2 := hv_X3_canBeam.2
theorem hp_X3_canBeam : plainName yX3_canBeam.cls = true := by decide +kernel
theorem hv_X3_beat : yX3_beat.cls = RX3 ∧ yX3_beat.cls ≠ "java/lang/invoke/MethodHandle" ∧ yX3_beat.cls ≠ "java/lang/invoke/VarHandle" ∧ (parseMethodDescriptor yX3_beat.desc).map (fun d => d.parameters.length) = some 2 := by decide +kernel
theorem hs_X3_beat : yX3_beat.cls ≠ "java/lang/invoke/MethodHandle" ∧ yX3_beat.cls ≠ "java/lang/invoke/VarHandle" ∧ (parseMethodDescriptor yX3_beat.desc).map (fun d => d.parameters.length) = some 2 := hv_X3_beat.2
theorem hp_X3_beat : plainName yX3_beat.cls = true := by decide +kernel
theorem hv_X3_elementTold : yX3_elementTold.cls = RX3 ∧ yX3_elementTold.cls ≠ "java/lang/invoke/MethodHandle" ∧ yX3_elementTold.cls ≠ "java/lang/invoke/VarHandle" ∧ (parseMethodDescriptor yX3_elementTold.desc).map (fun d => d.parameters.length) = some 3 := by decide +kernel
theorem hs_X3_elementTold : yX3_elementTold.cls ≠ "java/lang/invoke/MethodHandle" ∧ yX3_elementTold.cls ≠ "java/lang/invoke/VarHandle" ∧ (parseMethodDescriptor yX3_elementTold.desc).map (fun d => d.parameters.length) = some 3 := hv_X3_elementTold.2
theorem hp_X3_elementTold : plainName yX3_elementTold.cls = true := by decide +kernel
theorem hv_X3_element : yX3_element.cls = RX3 ∧ yX3_element.cls ≠ "java/lang/invoke/MethodHandle" ∧ yX3_element.cls ≠ "java/lang/invoke/VarHandle" ∧ (parseMethodDescriptor yX3_element.desc).map (fun d => d.parameters.length) = some 3 := by decide +kernel
theorem hs_X3_element : yX3_element.cls ≠ "java/lang/invoke/MethodHandle" ∧ yX3_element.cls ≠ "java/lang/invoke/VarHandle" ∧ (parseMethodDescriptor yX3_element.desc).map (fun d => d.parameters.length) = some 3 := hv_X3_element.2
theorem hp_X3_element : plainName yX3_element.cls = true := by decide +kernel
theorem hv_X3_pitch : yX3_pitch.cls = RX3 ∧ yX3_pitch.cls ≠ "java/lang/invoke/MethodHandle" ∧ yX3_pitch.cls ≠ "java/lang/invoke/VarHandle" ∧ (parseMethodDescriptor yX3_pitch.desc).map (fun d => d.parameters.length) = some 3 := by decide +kernel
theorem hs_X3_pitch : yX3_pitch.cls ≠ "java/lang/invoke/MethodHandle" ∧ yX3_pitch.cls ≠ "java/lang/invoke/VarHandle" ∧ (parseMethodDescriptor yX3_pitch.desc).map (fun d => d.parameters.length) = some 3 := hv_X3_pitch.2
theorem hp_X3_pitch : plainName yX3_pitch.cls = true := by decide +kernel
theorem hv_X3_voiceTold : yX3_voiceTold.cls = RX3 ∧ yX3_voiceTold.cls ≠ "java/lang/invoke/MethodHandle" ∧ yX3_voiceTold.cls ≠ "java/lang/invoke/VarHandle" ∧ (parseMethodDescriptor yX3_voiceTold.desc).map (fun d => d.parameters.length) = some 2 := by decide +kernel
theorem hs_X3_voiceTold : yX3_voiceTold.cls ≠ "java/lang/invoke/MethodHandle" ∧ yX3_voiceTold.cls ≠ "java/lang/invoke/VarHandle" ∧ (parseMethodDescriptor yX3_voiceTold.desc).map (fun d => d.parameters.length) = some 2 := hv_X3_voiceTold.2
theorem hp_X3_voiceTold : plainName yX3_voiceTold.cls = true := by decide +kernel
theorem hv_X3_voice : yX3_voice.cls = RX3 ∧ yX3_voice.cls ≠ "java/lang/invoke/MethodHandle" ∧ yX3_voice.cls ≠ "java/lang/invoke/VarHandle" ∧ (parseMethodDescriptor yX3_voice.desc).map (fun d => d.parameters.length) = some 2 := by decide +kernel
theorem hs_X3_voice : yX3_voice.cls ≠ "java/lang/invoke/MethodHandle" ∧ yX3_voice.cls ≠ "java/lang/invoke/VarHandle" ∧ (parseMethodDescriptor yX3_voice.desc).map (fun d => d.parameters.length) = some 2 := hv_X3_voice.2
theorem hp_X3_voice : plainName yX3_voice.cls = true := by decide +kernel
theorem hv_X3_place : yX3_place.cls = RX3 ∧ yX3_place.cls ≠ "java/lang/invoke/MethodHandle" ∧ yX3_place.cls ≠ "java/lang/invoke/VarHandle" ∧ (parseMethodDescriptor yX3_place.desc).map (fun d => d.parameters.length) = some 3 := by decide +kernel
theorem hs_X3_place : yX3_place.cls ≠ "java/lang/invoke/MethodHandle" ∧ yX3_place.cls ≠ "java/lang/invoke/VarHandle" ∧ (parseMethodDescriptor yX3_place.desc).map (fun d => d.parameters.length) = some 3 := hv_X3_place.2
theorem hp_X3_place : plainName yX3_place.cls = true := by decide +kernel
theorem hv_X3_transpose : yX3_transpose.cls = RX3 ∧ yX3_transpose.cls ≠ "java/lang/invoke/MethodHandle" ∧ yX3_transpose.cls ≠ "java/lang/invoke/VarHandle" ∧ (parseMethodDescriptor yX3_transpose.desc).map (fun d => d.parameters.length) = some 2 := by decide +kernel
theorem hs_X3_transpose : yX3_transpose.cls ≠ "java/lang/invoke/MethodHandle" ∧ yX3_transpose.cls ≠ "java/lang/invoke/VarHandle" ∧ (parseMethodDescriptor yX3_transpose.desc).map (fun d => d.parameters.length) = some 2 := hv_X3_transpose.2
theorem hp_X3_transpose : plainName yX3_transpose.cls = true := by decide +kernel
theorem hv_X3_begins : yX3_begins.cls = RX3 ∧ yX3_begins.cls ≠ "java/lang/invoke/MethodHandle" ∧ yX3_begins.cls ≠ "java/lang/invoke/VarHandle" ∧ (parseMethodDescriptor yX3_begins.desc).map (fun d => d.parameters.length) = some 2 := by decide +kernel
theorem hs_X3_begins : yX3_begins.cls ≠ "java/lang/invoke/MethodHandle" ∧ yX3_begins.cls ≠ "java/lang/invoke/VarHandle" ∧ (parseMethodDescriptor yX3_begins.desc).map (fun d => d.parameters.length) = some 2 := hv_X3_begins.2
theorem hp_X3_begins : plainName yX3_begins.cls = true := by decide +kernel
theorem hv_X3_parallels : yX3_parallels.cls = RX3 ∧ yX3_parallels.cls ≠ "java/lang/invoke/MethodHandle" ∧ yX3_parallels.cls ≠ "java/lang/invoke/VarHandle" ∧ (parseMethodDescriptor yX3_parallels.desc).map (fun d => d.parameters.length) = some 2 := by decide +kernel
theorem hs_X3_parallels : yX3_parallels.cls ≠ "java/lang/invoke/MethodHandle" ∧ yX3_parallels.cls ≠ "java/lang/invoke/VarHandle" ∧ (parseMethodDescriptor yX3_parallels.desc).map (fun d => d.parameters.length) = some 2 := hv_X3_parallels.2
theorem hp_X3_parallels : plainName yX3_parallels.cls = true := by decide +kernel
theorem hv_X3_faultsOf : yX3_faultsOf.cls = RX3 ∧ yX3_faultsOf.cls ≠ "java/lang/invoke/MethodHandle" ∧ yX3_faultsOf.cls ≠ "java/lang/invoke/VarHandle" ∧ (parseMethodDescriptor yX3_faultsOf.desc).map (fun d => d.parameters.length) = some 0 := by decide +kernel
theorem hs_X3_faultsOf : yX3_faultsOf.cls ≠ "java/lang/invoke/MethodHandle" ∧ yX3_faultsOf.cls ≠ "java/lang/invoke/VarHandle" ∧ (parseMethodDescriptor yX3_faultsOf.desc).map (fun d => d.parameters.length) = some 0 := hv_X3_faultsOf.2
theorem hp_X3_faultsOf : plainName yX3_faultsOf.cls = true := by decide +kernel
theorem hv_X3_faults : yX3_faults.cls = RX3 ∧ yX3_faults.cls ≠ "java/lang/invoke/MethodHandle" ∧ yX3_faults.cls ≠ "java/lang/invoke/VarHandle" ∧ (parseMethodDescriptor yX3_faults.desc).map (fun d => d.parameters.length) = some 0 := by decide +kernel
theorem hs_X3_faults : yX3_faults.cls ≠ "java/lang/invoke/MethodHandle" ∧ yX3_faults.cls ≠ "java/lang/invoke/VarHandle" ∧ (parseMethodDescriptor yX3_faults.desc).map (fun d => d.parameters.length) = some 0 := hv_X3_faults.2
theorem hp_X3_faults : plainName yX3_faults.cls = true := by decide +kernel
theorem hv_X3_sounding : yX3_sounding.cls = RX3 ∧ yX3_sounding.cls ≠ "java/lang/invoke/MethodHandle" ∧ yX3_sounding.cls ≠ "java/lang/invoke/VarHandle" ∧ (parseMethodDescriptor yX3_sounding.desc).map (fun d => d.parameters.length) = some 2 := by decide +kernel
theorem hs_X3_sounding : yX3_sounding.cls ≠ "java/lang/invoke/MethodHandle" ∧ yX3_sounding.cls ≠ "java/lang/invoke/VarHandle" ∧ (parseMethodDescriptor yX3_sounding.desc).map (fun d => d.parameters.length) = some 2 := hv_X3_sounding.2
theorem hp_X3_sounding : plainName yX3_sounding.cls = true := by decide +kernel
theorem hv_X3_interval : yX3_interval.cls = RX3 ∧ yX3_interval.cls ≠ "java/lang/invoke/MethodHandle" ∧ yX3_interval.cls ≠ "java/lang/invoke/VarHandle" ∧ (parseMethodDescriptor yX3_interval.desc).map (fun d => d.parameters.length) = some 3 := by decide +kernel
theorem hs_X3_interval : yX3_interval.cls ≠ "java/lang/invoke/MethodHandle" ∧ yX3_interval.cls ≠ "java/lang/invoke/VarHandle" ∧ (parseMethodDescriptor yX3_interval.desc).map (fun d => d.parameters.length) = some 3 := hv_X3_interval.2
theorem hp_X3_interval : plainName yX3_interval.cls = true := by decide +kernel
theorem hv_X3_put : yX3_put.cls = RX3 ∧ yX3_put.cls ≠ "java/lang/invoke/MethodHandle" ∧ yX3_put.cls ≠ "java/lang/invoke/VarHandle" ∧ (parseMethodDescriptor yX3_put.desc).map (fun d => d.parameters.length) = some 4 := by decide +kernel
theorem hs_X3_put : yX3_put.cls ≠ "java/lang/invoke/MethodHandle" ∧ yX3_put.cls ≠ "java/lang/invoke/VarHandle" ∧ (parseMethodDescriptor yX3_put.desc).map (fun d => d.parameters.length) = some 4 := hv_X3_put.2
theorem hp_X3_put : plainName yX3_put.cls = true := by decide +kernel
theorem hv_X3_isLater : yX3_isLater.cls = RX3 ∧ yX3_isLater.cls ≠ "java/lang/invoke/MethodHandle" ∧ yX3_isLater.cls ≠ "java/lang/invoke/VarHandle" ∧ (parseMethodDescriptor yX3_isLater.desc).map (fun d => d.parameters.length) = some 4 := by decide +kernel
theorem hs_X3_isLater : yX3_isLater.cls ≠ "java/lang/invoke/MethodHandle" ∧ yX3_isLater.cls ≠ "java/lang/invoke/VarHandle" ∧ (parseMethodDescriptor yX3_isLater.desc).map (fun d => d.parameters.length) = some 4 := hv_X3_isLater.2
theorem hp_X3_isLater : plainName yX3_isLater.cls = true := by decide +kernel
theorem hv_X3_findEvents : yX3_findEvents.cls = RX3 ∧ yX3_findEvents.cls ≠ "java/lang/invoke/MethodHandle" ∧ yX3_findEvents.cls ≠ "java/lang/invoke/VarHandle" ∧ (parseMethodDescriptor yX3_findEvents.desc).map (fun d => d.parameters.length) = some 0 := by decide +kernel
theorem hs_X3_findEvents : yX3_findEvents.cls ≠ "java/lang/invoke/MethodHandle" ∧ yX3_findEvents.cls ≠ "java/lang/invoke/VarHandle" ∧ (parseMethodDescriptor yX3_findEvents.desc).map (fun d => d.parameters.length) = some 0 := hv_X3_findEvents.2
theorem hp_X3_findEvents : plainName yX3_findEvents.cls = true := by decide +kernel
theorem hv_X3_event : yX3_event.cls = RX3 ∧ yX3_event.cls ≠ "java/lang/invoke/MethodHandle" ∧ yX3_event.cls ≠ "java/lang/invoke/VarHandle" ∧ (parseMethodDescriptor yX3_event.desc).map (fun d => d.parameters.length) = some 2 := by decide +kernel
theorem hs_X3_event : yX3_event.cls ≠ "java/lang/invoke/MethodHandle" ∧ yX3_event.cls ≠ "java/lang/invoke/VarHandle" ∧ (parseMethodDescriptor yX3_event.desc).map (fun d => d.parameters.length) = some 2 := hv_X3_event.2
theorem hp_X3_event : plainName yX3_event.cls = true := by decide +kernel
theorem hv_X3_events : yX3_events.cls = RX3 ∧ yX3_events.cls ≠ "java/lang/invoke/MethodHandle" ∧ yX3_events.cls ≠ "java/lang/invoke/VarHandle" ∧ (parseMethodDescriptor yX3_events.desc).map (fun d => d.parameters.length) = some 0 := by decide +kernel
theorem hs_X3_events : yX3_events.cls ≠ "java/lang/invoke/MethodHandle" ∧ yX3_events.cls ≠ "java/lang/invoke/VarHandle" ∧ (parseMethodDescriptor yX3_events.desc).map (fun d => d.parameters.length) = some 0 := hv_X3_events.2
theorem hp_X3_events : plainName yX3_events.cls = true := by decide +kernel
theorem hv_X3_time : yX3_time.cls = RX3 ∧ yX3_time.cls ≠ "java/lang/invoke/MethodHandle" ∧ yX3_time.cls ≠ "java/lang/invoke/VarHandle" ∧ (parseMethodDescriptor yX3_time.desc).map (fun d => d.parameters.length) = some 2 := by decide +kernel
theorem hs_X3_time : yX3_time.cls ≠ "java/lang/invoke/MethodHandle" ∧ yX3_time.cls ≠ "java/lang/invoke/VarHandle" ∧ (parseMethodDescriptor yX3_time.desc).map (fun d => d.parameters.length) = some 2 := hv_X3_time.2
theorem hp_X3_time : plainName yX3_time.cls = true := by decide +kernel
theorem hv_X3_meanTone : yX3_meanTone.cls = RX3 ∧ yX3_meanTone.cls ≠ "java/lang/invoke/MethodHandle" ∧ yX3_meanTone.cls ≠ "java/lang/invoke/VarHandle" ∧ (parseMethodDescriptor yX3_meanTone.desc).map (fun d => d.parameters.length) = some 0 := by decide +kernel
theorem hs_X3_meanTone : yX3_meanTone.cls ≠ "java/lang/invoke/MethodHandle" ∧ yX3_meanTone.cls ≠ "java/lang/invoke/VarHandle" ∧ (parseMethodDescriptor yX3_meanTone.desc).map (fun d => d.parameters.length) = some 0 := hv_X3_meanTone.2
theorem hp_X3_meanTone : plainName yX3_meanTone.cls = true := by decide +kernel
theorem hv_X3_digest : yX3_digest.cls = RX3 ∧ yX3_digest.cls ≠ "java/lang/invoke/MethodHandle" ∧ yX3_digest.cls ≠ "java/lang/invoke/VarHandle" ∧ (parseMethodDescriptor yX3_digest.desc).map (fun d => d.parameters.length) = some 0 := by decide +kernel
theorem hs_X3_digest : yX3_digest.cls ≠ "java/lang/invoke/MethodHandle" ∧ yX3_digest.cls ≠ "java/lang/invoke/VarHandle" ∧ (parseMethodDescriptor yX3_digest.desc).map (fun d => d.parameters.length) = some 0 := hv_X3_digest.2
theorem hp_X3_digest : plainName yX3_digest.cls = true := by decide +kernel
theorem hv_J9_floorDiv_7cf53 : yJ9_floorDiv_7cf53.cls = RJ9 ∧ yJ9_floorDiv_7cf53.cls ≠ "java/lang/invoke/MethodHandle" ∧ yJ9_floorDiv_7cf53.cls ≠ "java/lang/invoke/VarHandle" ∧ (parseMethodDescriptor yJ9_floorDiv_7cf53.desc).map (fun d => d.parameters.length) = some 2 := by decide +kernel
theorem hs_J9_floorDiv_7cf53 : yJ9_floorDiv_7cf53.cls ≠ "java/lang/invoke/MethodHandle" ∧ yJ9_floorDiv_7cf53.cls ≠ "java/lang/invoke/VarHandle" ∧ (parseMethodDescriptor yJ9_floorDiv_7cf53.desc).map (fun d => d.parameters.length) = some 2 := hv_J9_floorDiv_7cf53.2
theorem hv_J9_floorMod_7cf53 : yJ9_floorMod_7cf53.cls = RJ9 ∧ yJ9_floorMod_7cf53.cls ≠ "java/lang/invoke/MethodHandle" ∧ yJ9_floorMod_7cf53.cls ≠ "java/lang/invoke/VarHandle" ∧ (parseMethodDescriptor yJ9_floorMod_7cf53.desc).map (fun d => d.parameters.length) = some 2 := by decide +kernel
theorem hs_J9_floorMod_7cf53 : yJ9_floorMod_7cf53.cls ≠ "java/lang/invoke/MethodHandle" ∧ yJ9_floorMod_7cf53.cls ≠ "java/lang/invoke/VarHandle" ∧ (parseMethodDescriptor yJ9_floorMod_7cf53.desc).map (fun d => d.parameters.length) = some 2 := hv_J9_floorMod_7cf53.2
theorem hv_J9_max_7cf53 : yJ9_max_7cf53.cls = RJ9 ∧ yJ9_max_7cf53.cls ≠ "java/lang/invoke/MethodHandle" ∧ yJ9_max_7cf53.cls ≠ "java/lang/invoke/VarHandle" ∧ (parseMethodDescriptor yJ9_max_7cf53.desc).map (fun d => d.parameters.length) = some 2 := by decide +kernel
theorem hs_J9_max_7cf53 : yJ9_max_7cf53.cls ≠ "java/lang/invoke/MethodHandle" ∧ yJ9_max_7cf53.cls ≠ "java/lang/invoke/VarHandle" ∧ (parseMethodDescriptor yJ9_max_7cf53.desc).map (fun d => d.parameters.length) = some 2 := hv_J9_max_7cf53.2
theorem hv_J9_min_7cf53 : yJ9_min_7cf53.cls = RJ9 ∧ yJ9_min_7cf53.cls ≠ "java/lang/invoke/MethodHandle" ∧ yJ9_min_7cf53.cls ≠ "java/lang/invoke/VarHandle" ∧ (parseMethodDescriptor yJ9_min_7cf53.desc).map (fun d => d.parameters.length) = some 2 := by decide +kernel
theorem hs_J9_min_7cf53 : yJ9_min_7cf53.cls ≠ "java/lang/invoke/MethodHandle" ∧ yJ9_min_7cf53.cls ≠ "java/lang/invoke/VarHandle" ∧ (parseMethodDescriptor yJ9_min_7cf53.desc).map (fun d => d.parameters.length) = some 2 := hv_J9_min_7cf53.2
theorem hv_L_setBars : yL_setBars.cls = RL ∧ yL_setBars.cls ≠ "java/lang/invoke/MethodHandle" ∧ yL_setBars.cls ≠ "java/lang/invoke/VarHandle" ∧ (parseMethodDescriptor yL_setBars.desc).map (fun d => d.parameters.length) = some 4 := by decide +kernel
theorem hs_L_setBars : yL_setBars.cls ≠ "java/lang/invoke/MethodHandle" ∧ yL_setBars.cls ≠ "java/lang/invoke/VarHandle" ∧ (parseMethodDescriptor yL_setBars.desc).map (fun d => d.parameters.length) = some 4 := hv_L_setBars.2
theorem hp_L_setBars : plainName yL_setBars.cls = true := by decide +kernel
theorem hv_L_setKey : yL_setKey.cls = RL ∧ yL_setKey.cls ≠ "java/lang/invoke/MethodHandle" ∧ yL_setKey.cls ≠ "java/lang/invoke/VarHandle" ∧ (parseMethodDescriptor yL_setKey.desc).map (fun d => d.parameters.length) = some 3 := by decide +kernel
theorem hs_L_setKey : yL_setKey.cls ≠ "java/lang/invoke/MethodHandle" ∧ yL_setKey.cls ≠ "java/lang/invoke/VarHandle" ∧ (parseMethodDescriptor yL_setKey.desc).map (fun d => d.parameters.length) = some 3 := hv_L_setKey.2
theorem hp_L_setKey : plainName yL_setKey.cls = true := by decide +kernel
theorem hv_L_addVoice : yL_addVoice.cls = RL ∧ yL_addVoice.cls ≠ "java/lang/invoke/MethodHandle" ∧ yL_addVoice.cls ≠ "java/lang/invoke/VarHandle" ∧ (parseMethodDescriptor yL_addVoice.desc).map (fun d => d.parameters.length) = some 2 := by decide +kernel
theorem hs_L_addVoice : yL_addVoice.cls ≠ "java/lang/invoke/MethodHandle" ∧ yL_addVoice.cls ≠ "java/lang/invoke/VarHandle" ∧ (parseMethodDescriptor yL_addVoice.desc).map (fun d => d.parameters.length) = some 2 := hv_L_addVoice.2
theorem hp_L_addVoice : plainName yL_addVoice.cls = true := by decide +kernel
theorem hv_L_score : yL_score.cls = RL ∧ yL_score.cls ≠ "java/lang/invoke/MethodHandle" ∧ yL_score.cls ≠ "java/lang/invoke/VarHandle" ∧ (parseMethodDescriptor yL_score.desc).map (fun d => d.parameters.length) = some 3 := by decide +kernel
theorem hs_L_score : yL_score.cls ≠ "java/lang/invoke/MethodHandle" ∧ yL_score.cls ≠ "java/lang/invoke/VarHandle" ∧ (parseMethodDescriptor yL_score.desc).map (fun d => d.parameters.length) = some 3 := hv_L_score.2
theorem hp_L_score : plainName yL_score.cls = true := by decide +kernel
theorem hv_L_sign : yL_sign.cls = RL ∧ yL_sign.cls ≠ "java/lang/invoke/MethodHandle" ∧ yL_sign.cls ≠ "java/lang/invoke/VarHandle" ∧ (parseMethodDescriptor yL_sign.desc).map (fun d => d.parameters.length) = some 3 := by decide +kernel
theorem hs_L_sign : yL_sign.cls ≠ "java/lang/invoke/MethodHandle" ∧ yL_sign.cls ≠ "java/lang/invoke/VarHandle" ∧ (parseMethodDescriptor yL_sign.desc).map (fun d => d.parameters.length) = some 3 := hv_L_sign.2
theorem hp_L_sign : plainName yL_sign.cls = true := by decide +kernel
theorem hv_L_ticks : yL_ticks.cls = RL ∧ yL_ticks.cls ≠ "java/lang/invoke/MethodHandle" ∧ yL_ticks.cls ≠ "java/lang/invoke/VarHandle" ∧ (parseMethodDescriptor yL_ticks.desc).map (fun d => d.parameters.length) = some 4 := by decide +kernel
theorem hs_L_ticks : yL_ticks.cls ≠ "java/lang/invoke/MethodHandle" ∧ yL_ticks.cls ≠ "java/lang/invoke/VarHandle" ∧ (parseMethodDescriptor yL_ticks.desc).map (fun d => d.parameters.length) = some 4 := hv_L_ticks.2
theorem hp_L_ticks : plainName yL_ticks.cls = true := by decide +kernel
theorem hv_L_addNote : yL_addNote.cls = RL ∧ yL_addNote.cls ≠ "java/lang/invoke/MethodHandle" ∧ yL_addNote.cls ≠ "java/lang/invoke/VarHandle" ∧ (parseMethodDescriptor yL_addNote.desc).map (fun d => d.parameters.length) = some 9 := by decide +kernel
theorem hs_L_addNote : yL_addNote.cls ≠ "java/lang/invoke/MethodHandle" ∧ yL_addNote.cls ≠ "java/lang/invoke/VarHandle" ∧ (parseMethodDescriptor yL_addNote.desc).map (fun d => d.parameters.length) = some 9 := hv_L_addNote.2
theorem hp_L_addNote : plainName yL_addNote.cls = true := by decide +kernel
theorem hv_L_addRest : yL_addRest.cls = RL ∧ yL_addRest.cls ≠ "java/lang/invoke/MethodHandle" ∧ yL_addRest.cls ≠ "java/lang/invoke/VarHandle" ∧ (parseMethodDescriptor yL_addRest.desc).map (fun d => d.parameters.length) = some 5 := by decide +kernel
theorem hs_L_addRest : yL_addRest.cls ≠ "java/lang/invoke/MethodHandle" ∧ yL_addRest.cls ≠ "java/lang/invoke/VarHandle" ∧ (parseMethodDescriptor yL_addRest.desc).map (fun d => d.parameters.length) = some 5 := hv_L_addRest.2
theorem hp_L_addRest : plainName yL_addRest.cls = true := by decide +kernel
theorem hv_L_removeLast : yL_removeLast.cls = RL ∧ yL_removeLast.cls ≠ "java/lang/invoke/MethodHandle" ∧ yL_removeLast.cls ≠ "java/lang/invoke/VarHandle" ∧ (parseMethodDescriptor yL_removeLast.desc).map (fun d => d.parameters.length) = some 3 := by decide +kernel
theorem hs_L_removeLast : yL_removeLast.cls ≠ "java/lang/invoke/MethodHandle" ∧ yL_removeLast.cls ≠ "java/lang/invoke/VarHandle" ∧ (parseMethodDescriptor yL_removeLast.desc).map (fun d => d.parameters.length) = some 3 := hv_L_removeLast.2
theorem hp_L_removeLast : plainName yL_removeLast.cls = true := by decide +kernel
theorem hv_L_tie : yL_tie.cls = RL ∧ yL_tie.cls ≠ "java/lang/invoke/MethodHandle" ∧ yL_tie.cls ≠ "java/lang/invoke/VarHandle" ∧ (parseMethodDescriptor yL_tie.desc).map (fun d => d.parameters.length) = some 5 := by decide +kernel
theorem hs_L_tie : yL_tie.cls ≠ "java/lang/invoke/MethodHandle" ∧ yL_tie.cls ≠ "java/lang/invoke/VarHandle" ∧ (parseMethodDescriptor yL_tie.desc).map (fun d => d.parameters.length) = some 5 := hv_L_tie.2
theorem hp_L_tie : plainName yL_tie.cls = true := by decide +kernel
theorem hv_L_element : yL_element.cls = RL ∧ yL_element.cls ≠ "java/lang/invoke/MethodHandle" ∧ yL_element.cls ≠ "java/lang/invoke/VarHandle" ∧ (parseMethodDescriptor yL_element.desc).map (fun d => d.parameters.length) = some 5 := by decide +kernel
theorem hs_L_element : yL_element.cls ≠ "java/lang/invoke/MethodHandle" ∧ yL_element.cls ≠ "java/lang/invoke/VarHandle" ∧ (parseMethodDescriptor yL_element.desc).map (fun d => d.parameters.length) = some 5 := hv_L_element.2
theorem hp_L_element : plainName yL_element.cls = true := by decide +kernel
theorem hv_L_pitch : yL_pitch.cls = RL ∧ yL_pitch.cls ≠ "java/lang/invoke/MethodHandle" ∧ yL_pitch.cls ≠ "java/lang/invoke/VarHandle" ∧ (parseMethodDescriptor yL_pitch.desc).map (fun d => d.parameters.length) = some 5 := by decide +kernel
theorem hs_L_pitch : yL_pitch.cls ≠ "java/lang/invoke/MethodHandle" ∧ yL_pitch.cls ≠ "java/lang/invoke/VarHandle" ∧ (parseMethodDescriptor yL_pitch.desc).map (fun d => d.parameters.length) = some 5 := hv_L_pitch.2
theorem hp_L_pitch : plainName yL_pitch.cls = true := by decide +kernel
theorem hv_L_voice : yL_voice.cls = RL ∧ yL_voice.cls ≠ "java/lang/invoke/MethodHandle" ∧ yL_voice.cls ≠ "java/lang/invoke/VarHandle" ∧ (parseMethodDescriptor yL_voice.desc).map (fun d => d.parameters.length) = some 4 := by decide +kernel
theorem hs_L_voice : yL_voice.cls ≠ "java/lang/invoke/MethodHandle" ∧ yL_voice.cls ≠ "java/lang/invoke/VarHandle" ∧ (parseMethodDescriptor yL_voice.desc).map (fun d => d.parameters.length) = some 4 := hv_L_voice.2
theorem hp_L_voice : plainName yL_voice.cls = true := by decide +kernel
theorem hv_L_transpose : yL_transpose.cls = RL ∧ yL_transpose.cls ≠ "java/lang/invoke/MethodHandle" ∧ yL_transpose.cls ≠ "java/lang/invoke/VarHandle" ∧ (parseMethodDescriptor yL_transpose.desc).map (fun d => d.parameters.length) = some 4 := by decide +kernel
theorem hs_L_transpose : yL_transpose.cls ≠ "java/lang/invoke/MethodHandle" ∧ yL_transpose.cls ≠ "java/lang/invoke/VarHandle" ∧ (parseMethodDescriptor yL_transpose.desc).map (fun d => d.parameters.length) = some 4 := hv_L_transpose.2
theorem hp_L_transpose : plainName yL_transpose.cls = true := by decide +kernel
theorem hv_L_interval : yL_interval.cls = RL ∧ yL_interval.cls ≠ "java/lang/invoke/MethodHandle" ∧ yL_interval.cls ≠ "java/lang/invoke/VarHandle" ∧ (parseMethodDescriptor yL_interval.desc).map (fun d => d.parameters.length) = some 5 := by decide +kernel
theorem hs_L_interval : yL_interval.cls ≠ "java/lang/invoke/MethodHandle" ∧ yL_interval.cls ≠ "java/lang/invoke/VarHandle" ∧ (parseMethodDescriptor yL_interval.desc).map (fun d => d.parameters.length) = some 5 := hv_L_interval.2
theorem hp_L_interval : plainName yL_interval.cls = true := by decide +kernel
theorem hv_L_event : yL_event.cls = RL ∧ yL_event.cls ≠ "java/lang/invoke/MethodHandle" ∧ yL_event.cls ≠ "java/lang/invoke/VarHandle" ∧ (parseMethodDescriptor yL_event.desc).map (fun d => d.parameters.length) = some 4 := by decide +kernel
theorem hs_L_event : yL_event.cls ≠ "java/lang/invoke/MethodHandle" ∧ yL_event.cls ≠ "java/lang/invoke/VarHandle" ∧ (parseMethodDescriptor yL_event.desc).map (fun d => d.parameters.length) = some 4 := hv_L_event.2
theorem hp_L_event : plainName yL_event.cls = true := by decide +kernel
theorem hv_L_time : yL_time.cls = RL ∧ yL_time.cls ≠ "java/lang/invoke/MethodHandle" ∧ yL_time.cls ≠ "java/lang/invoke/VarHandle" ∧ (parseMethodDescriptor yL_time.desc).map (fun d => d.parameters.length) = some 4 := by decide +kernel
theorem hs_L_time : yL_time.cls ≠ "java/lang/invoke/MethodHandle" ∧ yL_time.cls ≠ "java/lang/invoke/VarHandle" ∧ (parseMethodDescriptor yL_time.desc).map (fun d => d.parameters.length) = some 4 := hv_L_time.2
theorem hp_L_time : plainName yL_time.cls = true := by decide +kernel
end
section
/-! ===== BEGIN exceptions that leave a method, and their catching by the caller (launches without stack traces) ===== -/
section VXA
/-! The laws vx_back, vx_callV, vx_callS, vx_callSW, vx_throw0, vx_throwS follow proofs of the library, with one case more: JvmDerived/Free/Laws.lean (Back.of_free), Shelf42/LK1.lean (callV, callS), Shelf/KitTraced.lean (throwNew0V, throwNewS). -/
/-- where a method has thrown q: the class by its name, the cell, what was written, the world -/
def vx_T (XC : String → State → State → Prop) (st : State) (q : Addr) (t : State) (mc ms : Nat) (free : Addr → Prop) : Prop :=
  ∃ (E : String) (ce : Cell) (L : List Loc), XC E st t ∧ t.heap[q]? = some ce ∧ ce.vm = .none ∧ st.vm.findClass E = some ce.cls ∧ st.WarmedH t.vm ∧ st.sameButNew ({ t with vm := st.vm } : State) L mc ms ∧ ∀ z ∈ L, free z.base
def vx_Q (Qc : Array Value → State → Outcome → State → Prop) (XC : String → State → State → Prop) (mc ms : Nat) (free : Addr → Prop) : Array Value → State → Outcome → State → Prop := fun a st o t =>
  (Qc a st o t ∧ ∃ L, FrameEnd st o t L mc ms ∧ ∀ q ∈ L, free q.base) ∨ ∃ q, o = .threw q ∧ vx_T XC st q t mc ms free
/-- a callee that returns or throws -/
def vx_Met (l : Launch) (y : MethodName) (ws : List Cond) (rm : Room) (Pc : Array Value → State → Prop) (Qc : Array Value → State → Outcome → State → Prop) (XC : String → State → State → Prop) (mc ms : Nat) (free : Addr → Prop) : Prop :=
  MetFree l y (headSpec ws rm) Pc (fun _ _ _ _ _ => True) (vx_Q Qc XC mc ms free)
def vx_Post (XC : String → State → State → Prop) (mc ms : Nat) (free : Addr → Prop) : Pt → Array Value → Addr → Pt → Prop := fun A a q B =>
  ∃ (g : JFrame) (mk : MethodId) (t : State) (L : List Loc) (E : String) (ce : Cell), B.U.heap = t.heap ∧ B.U.vm = t.vm ∧ XC E (A.U.calling g mk a) t ∧ t.heap[q]? = some ce ∧ ce.vm = .none ∧ A.U.vm.findClass E = some ce.cls ∧ B.locs = A.locs ++ L ∧ (∀ z ∈ L, free z.base) ∧ B.cells = A.cells + mc ∧ B.slots = A.slots + ms
def vx_Back (l : Launch) (R : Room) (p : Program) (e : Env) (below : List Frame) (s : State) (sargs : Array Value) (y : MethodName) (len W9 : Nat)
    (Pre : Pt → Array Value → Prop) (Post : Pt → Array Value → Option Value → Pt → Prop) (PostX : Pt → Array Value → Addr → Pt → Prop) : Prop :=
  ∀ (m : MethodId) (meth : Method) (c : Code) (A : Pt) (g : JFrame) (ig : Instr) (mk : MethodId) (a : Array Value),
    Stand p l e R s m sargs below meth c A.U A.locs A.cells A.slots → g.method = m → g.locals.size = c.maxLocals → decode c.code g.pc = .ok (ig, len) →
    2 * g.monitorRoom + (g.stack.map fun v => v.category).sum ≤ W9 → A.U.methodNamed? y = some mk → Pre A a →
    (∃ (v : Option Value) (B : Pt), Stand p l e R s m sargs below meth c B.U B.locs B.cells B.slots ∧ Post A a v B ∧
      Steps p.tables e below (doInvoke e (A.U.setTop g) [] mk a).1 (B.U.setTop { g with pc := g.pc + len, stack := v.toList ++ g.stack })) ∨
    (∃ (q : Addr) (B : Pt), Stand p l e R s m sargs below meth c B.U B.locs B.cells B.slots ∧ PostX A a q B ∧
      Steps p.tables e below (doInvoke e (A.U.setTop g) [] mk a).1 ((B.U.setTop g).pushFrame (.throwing q)))
section Payer
variable {l : Launch} {R : Room} {p : Program} {e : Env} {below : List Frame} {s : State} {sargs : Array Value} {y : MethodName} {len W9 : Nat}
theorem vx_back {ws : List Cond} {rm : Room} {Pc : Array Value → State → Prop} {Qc : Array Value → State → Outcome → State → Prop} {XC : String → State → State → Prop} {mc ms : Nat} {free : Addr → Prop} {bytes : ByteArray} {maxL : Nat} {ret : Option FieldType}
    (hM : vx_Met l y ws rm Pc Qc XC mc ms free) (hblind : FrameBlind Pc) (hrc : rm.cells = mc) (hrs : rm.slots = ms)
    (hframes : rm.frames + 1 ≤ R.frames) (hlocals : W9 + (maxL + 11) + rm.locals ≤ R.locals)
    (hws : ∀ w ∈ ws, ∀ a' U, s.WarmedH U.vm → w.before a' U = true) (hcode : Cond.code y bytes maxL ret ∈ ws) (hinit : ∀ a' U, s.WarmedH U.vm → (Cond.initialized y.cls).before a' U = true) :
    vx_Back l R p e below s sargs y len W9 (PreOf R mc ms Pc) (PostOf Qc mc ms free) (vx_Post XC mc ms free) := by
  intro m meth c A g ig mk a X hg hsize hdg hW hn hp
  have h1 : (headSpec ws rm).pre.before a A.U = true := atoms_intro fun w hw => hws w hw _ _ X.warmed
  have h2 : (Cond.code y bytes maxL ret).before a A.U = true := hws _ hcode _ _ X.warmed
  have h3 : (Cond.initialized y.cls).before a A.U = true := hinit _ _ X.warmed
  have h4 : A.cells + (headSpec ws rm).room.cells ≤ R.cells := by rw [show (headSpec ws rm).room.cells = mc from hrc]; exact hp.1
  have h5 : A.slots + (headSpec ws rm).room.slots ≤ R.slots := by rw [show (headSpec ws rm).room.slots = ms from hrs]; exact hp.2.1
  have hPc : Pc a (A.U.calling g mk a) := hblind _ _ _ _ hp.2.2
  obtain ⟨U, Ls, c0, s0⟩ := A
  dsimp only [Pt.U, Pt.locs, Pt.cells, Pt.slots] at h1 h2 h3 h4 h5 X hn hPc ⊢
  obtain ⟨methY, cY, hmY, hcY, -, hlY, -, -, -, -⟩ := Cond.code_spec hn h2
  obtain ⟨kY, hkY, -⟩ := className_of_methodNamed hn
  have hinitY : kY.init = .initialized := Cond.initialized_spec (findClass_of_methodNamed hn) hkY h3
  have h : At U g.method c below := by rw [hg]; exact X.here
  have hlocals9 : W9 + (maxL + 11) + (headSpec ws rm).room.locals ≤ R.locals := hlocals
  have happ : (headSpec ws rm).appliesLoose y e.platform (U.calling g mk a) = true :=
    Spec.appliesLoose_calling (g := g) h hdg hn hkY hinitY
      (X.room_calling (g := g) (R' := (headSpec ws rm).room) hsize hmY hcY hframes (by rw [hlY]; omega) h4 h5) h1
  obtain ⟨mid, hmid⟩ := h.above
  have hfr : (U.setTop g).frames = (.java g :: mid) ++ below := by rw [State.frames_setTop' g h.top, hmid]; rfl
  obtain ⟨o, s₂, hsteps, -, hend, hq⟩ := Steps.callFree hM p X.admits X.cas X.clock (acts := []) hfr happ hPc trivial
  have hq' : vx_Q Qc XC mc ms free a (U.calling g mk a) o s₂ := hq
  rw [State.frames_setTop' g h.top] at hend
  obtain ⟨g₀, hg0⟩ := Option.isSome_iff_exists.mp h.top
  obtain ⟨r, hr⟩ := State.topJava?_eq_some.mp hg0
  have hr' : (({ U with heap := s₂.heap, slotsUsed := s₂.slotsUsed } : State).setVm s₂.vm).frames = .java g₀ :: r := hr
  rcases hq' with ⟨hqc, L, hfe, hL⟩ | ⟨q, rfl, E, ce, L, hx, hce, hcv, hcl, hW₂, hsm, hL⟩
  · obtain ⟨⟨v, rfl⟩, hW₂, e2, q2, q3, q4, q5, q6⟩ := id hfe
    have e3 : s₂ = ({ (U.calling g mk a).setFrames s₂.frames with heap := s₂.heap, slotsUsed := s₂.slotsUsed } : State).setVm s₂.vm := by
      have : s₂ = ({ s₂ with vm := (U.calling g mk a).vm } : State).setVm s₂.vm := rfl
      rw [e2] at this
      exact this
    obtain ⟨c₂, i₂, len₂, hc₂, hd₂, hf₂⟩ := hend
    have hW' : U.WarmedH s₂.vm := hW₂
    have hcc : c₂ = c := by
      have h1 : s₂.code? g.method = U.code? g.method := by
        rw [State.code?_eq, State.code?_eq, hW'.alike.method?]
      exact Option.some.inj (hc₂.symm.trans (h1.trans h.code))
    subst hcc
    have hlen : len₂ = len := by rw [hdg] at hd₂; cases hd₂; rfl
    subst hlen
    have hs₂ : s₂ = (({ U with heap := s₂.heap, slotsUsed := s₂.slotsUsed } : State).setVm s₂.vm).setTop { g with pc := g.pc + len₂, stack := v.toList ++ g.stack } := by
      refine e3.trans ?_
      rw [hf₂, State.calling_eq h.top, State.setFrames_setFrames, State.setTop_of_frames _ hr', hr]
      rfl
    have hsame : U.sameButNew ({ U with heap := s₂.heap, slotsUsed := s₂.slotsUsed } : State) L mc ms := by
      refine ⟨?_, q2, q3, q4, q5, q6⟩
      obtain ⟨t, ht, -⟩ := State.frames_cons hr
      show ({ U with heap := s₂.heap, slotsUsed := s₂.slotsUsed } : State) = { U.setFrames U.frames with heap := s₂.heap, slotsUsed := s₂.slotsUsed }
      rw [State.setFrames_self ht]
    subst hg
    refine Or.inl ⟨v, ⟨(({ U with heap := s₂.heap, slotsUsed := s₂.slotsUsed } : State).setVm s₂.vm), Ls ++ L, c0 + mc, s0 + ms⟩,
      ⟨X.admits, X.cas, X.clock, X.frames, X.room, X.hears, X.method, X.code, (X.here.setHeapUsed s₂.heap s₂.slotsUsed).setVm hW'.alike, X.tail, State.WarmedH.trans X.warmed hW', X.limits, X.bytes, X.same.trans (hsame.setVm s.vm)⟩,
      ⟨g, mk, s₂, L, rfl, rfl, hqc, rfl, hL, rfl, rfl⟩, ?_⟩
    show Steps p.tables e below _ ((({ U with heap := s₂.heap, slotsUsed := s₂.slotsUsed } : State).setVm s₂.vm).setTop { g with pc := g.pc + len₂, stack := v.toList ++ g.stack })
    rw [← hs₂]
    exact hsteps
  · obtain ⟨e2, q2, q3, q4, q5, q6⟩ := id hsm
    have e3 : s₂ = ({ (U.calling g mk a).setFrames s₂.frames with heap := s₂.heap, slotsUsed := s₂.slotsUsed } : State).setVm s₂.vm := by
      have : s₂ = ({ s₂ with vm := (U.calling g mk a).vm } : State).setVm s₂.vm := rfl
      rw [e2] at this
      exact this
    have hf₂ : s₂.frames = .throwing q :: .java g :: U.frames.tail := hend
    have hW' : U.WarmedH s₂.vm := hW₂
    have hs₂ : s₂ = ((({ U with heap := s₂.heap, slotsUsed := s₂.slotsUsed } : State).setVm s₂.vm).setTop g).pushFrame (.throwing q) := by
      refine e3.trans ?_
      rw [hf₂, State.calling_eq h.top, State.setFrames_setFrames, State.pushFrame, State.frames_setTop _ hr', State.setTop_of_frames _ hr', State.setFrames_setFrames, hr]
      rfl
    have hsame : U.sameButNew ({ U with heap := s₂.heap, slotsUsed := s₂.slotsUsed } : State) L mc ms := by
      refine ⟨?_, q2, q3, q4, q5, q6⟩
      obtain ⟨t, ht, -⟩ := State.frames_cons hr
      show ({ U with heap := s₂.heap, slotsUsed := s₂.slotsUsed } : State) = { U.setFrames U.frames with heap := s₂.heap, slotsUsed := s₂.slotsUsed }
      rw [State.setFrames_self ht]
    subst hg
    refine Or.inr ⟨q, ⟨(({ U with heap := s₂.heap, slotsUsed := s₂.slotsUsed } : State).setVm s₂.vm), Ls ++ L, c0 + mc, s0 + ms⟩,
      ⟨X.admits, X.cas, X.clock, X.frames, X.room, X.hears, X.method, X.code, (X.here.setHeapUsed s₂.heap s₂.slotsUsed).setVm hW'.alike, X.tail, State.WarmedH.trans X.warmed hW', X.limits, X.bytes, X.same.trans (hsame.setVm s.vm)⟩,
      ⟨g, mk, s₂, L, E, ce, rfl, rfl, hx, hce, hcv, hcl, rfl, hL, rfl, rfl⟩, ?_⟩
    show Steps p.tables e below _ (((({ U with heap := s₂.heap, slotsUsed := s₂.slotsUsed } : State).setVm s₂.vm).setTop g).pushFrame (.throwing q))
    rw [← hs₂]
    exact hsteps
end Payer
section Calls
variable {p : Program} {l : Launch} {e : Env} {R : Room} {s : State} {m : MethodId} {args : Array Value} {below : List Frame} {meth : Method} {c : Code} {T : State} {locs : List Loc} {cells slots : Nat}
theorem vx_callV (X : Stand p l e R s m args below meth c T locs cells slots) (hexec : p.tables.exec = Jvm.exec) {own C : String} {index : Nat} {y : MethodName} {bytes : ByteArray} {maxL : Nat} {ret : Option FieldType}
    (hown : s.vm.findClass own = some m.cls) (hlink : (Cond.methodLink own index y).before args s = true) (hinst : (Cond.instanceMethod y).before args s = true) (hsel : (Cond.selects C y y).before args s = true)
    (hcode : (Cond.code y bytes maxL ret).before args s = true) (hy : y.cls ≠ "java/lang/invoke/MethodHandle" ∧ y.cls ≠ "java/lang/invoke/VarHandle")
    {W9 : Nat} {Pre : Pt → Array Value → Prop} {Post : Pt → Array Value → Option Value → Pt → Prop} {PostX : Pt → Array Value → Addr → Pt → Prop} (hK : vx_Back l R p e below s args y 3 W9 Pre Post PostX)
    {b : Addr} {cellB : Cell} (hcell : T.heap[b]? = some cellB) (hobj : cellB.vm.isStatics = false) (hcls : s.vm.findClass C = some cellB.cls)
    {g : JFrame} (hg : g.method = m) (hsize : g.locals.size = c.maxLocals) {argsL rest : List Value} (hlen : ∀ sig, parseMethodDescriptor y.desc = some sig → argsL.length = sig.parameters.length)
    (hstack : g.stack = argsL.reverse ++ .ref b :: rest) (hW : 2 * g.monitorRoom + (rest.map fun v => v.category).sum ≤ W9) (hdg : decode c.code g.pc = .ok (.invokevirtual index, 3))
    (hpre : ∀ vm₁, s.WarmedH vm₁ → Pre ⟨T.setVm vm₁, locs, cells, slots⟩ (Value.ref b :: argsL).toArray) :
    (∃ (v : Option Value) (vm₁ : Vm) (B : Pt), s.WarmedH vm₁ ∧ Stand p l e R s m args below meth c B.U B.locs B.cells B.slots ∧ Post ⟨T.setVm vm₁, locs, cells, slots⟩ (Value.ref b :: argsL).toArray v B ∧
      ∀ target, Steps p.tables e below (B.U.setTop { g with pc := g.pc + 3, stack := v.toList ++ rest }) target → Steps p.tables e below (T.setTop g) target) ∨
    (∃ (q : Addr) (vm₁ : Vm) (B : Pt), s.WarmedH vm₁ ∧ Stand p l e R s m args below meth c B.U B.locs B.cells B.slots ∧ PostX ⟨T.setVm vm₁, locs, cells, slots⟩ (Value.ref b :: argsL).toArray q B ∧
      Steps p.tables e below (T.setTop g) ((B.U.setTop { g with stack := rest }).pushFrame (.throwing q))) := by
  obtain ⟨mk, methM, hnamed, hmethM, hstM, habM⟩ := Cond.instanceMethod_spec hinst
  obtain ⟨methM', cM, hmethM', -, -, -, -, -, -, hsigM⟩ := Cond.code_spec hnamed hcode
  cases hmethM.symm.trans hmethM'
  obtain ⟨c2, r2, m2, q1, q2, q3, q4, kP, hkP, hkPi⟩ := Cond.selects_spec hsel
  cases hcls.symm.trans q1
  cases (State.methodFound?_of_named hnamed hy).symm.trans q2
  cases hnamed.symm.trans q3
  have hselP : selectMethod e.platform s.vm cellB.cls mk = .method mk := by rw [Launch.admits_selectMethod X.admits]; exact q4
  obtain ⟨vm₁, X₁, hstep₁⟩ := X.invokevirtual hexec hown hlink hnamed hmethM hstM hkP hkPi hy (a := b) (cell := cellB) hcell
    (fun z h => by rw [h] at hobj; cases hobj) hselP hmethM habM hkP hkPi (g := g) hg (argsL := argsL) (rest := rest) (hlen _ hsigM) hstack hdg
  rcases hK m meth c ⟨T.setVm vm₁, locs, cells, slots⟩ { g with stack := rest } (.invokevirtual index) mk (Value.ref b :: argsL).toArray X₁ hg hsize hdg hW (X₁.named hnamed) (hpre vm₁ X₁.warmed) with ⟨v, B, X', hpost, hsteps⟩ | ⟨q, B, X', hpost, hsteps⟩
  · exact Or.inl ⟨v, vm₁, B, X₁.warmed, X', hpost, fun target h => hstep₁ _ fun acts => by rw [doInvoke_state]; exact hsteps.trans h⟩
  · exact Or.inr ⟨q, vm₁, B, X₁.warmed, X', hpost, hstep₁ _ fun acts => by rw [doInvoke_state]; exact hsteps⟩
theorem vx_callS (X : Stand p l e R s m args below meth c T locs cells slots) (hexec : p.tables.exec = Jvm.exec) {own : String} {index : Nat} {y : MethodName} {bytes : ByteArray} {maxL : Nat} {ret : Option FieldType}
    (hown : s.vm.findClass own = some m.cls) (hlink : (Cond.methodLink own index y).before args s = true) (hstat : (Cond.static y).before args s = true) (hinit : (Cond.initialized y.cls).before args s = true)
    (hcode : (Cond.code y bytes maxL ret).before args s = true) (hy : y.cls ≠ "java/lang/invoke/MethodHandle" ∧ y.cls ≠ "java/lang/invoke/VarHandle")
    {W9 : Nat} {Pre : Pt → Array Value → Prop} {Post : Pt → Array Value → Option Value → Pt → Prop} {PostX : Pt → Array Value → Addr → Pt → Prop} (hK : vx_Back l R p e below s args y 3 W9 Pre Post PostX)
    {g : JFrame} (hg : g.method = m) (hsize : g.locals.size = c.maxLocals) {argsL rest : List Value} (hlen : ∀ sig, parseMethodDescriptor y.desc = some sig → argsL.length = sig.parameters.length)
    (hstack : g.stack = argsL.reverse ++ rest) (hW : 2 * g.monitorRoom + (rest.map fun v => v.category).sum ≤ W9) (hdg : decode c.code g.pc = .ok (.invokestatic index, 3))
    (hpre : ∀ vm₁, s.WarmedH vm₁ → Pre ⟨T.setVm vm₁, locs, cells, slots⟩ argsL.toArray) :
    (∃ (v : Option Value) (vm₁ : Vm) (B : Pt), s.WarmedH vm₁ ∧ Stand p l e R s m args below meth c B.U B.locs B.cells B.slots ∧ Post ⟨T.setVm vm₁, locs, cells, slots⟩ argsL.toArray v B ∧
      ∀ target, Steps p.tables e below (B.U.setTop { g with pc := g.pc + 3, stack := v.toList ++ rest }) target → Steps p.tables e below (T.setTop g) target) ∨
    (∃ (q : Addr) (vm₁ : Vm) (B : Pt), s.WarmedH vm₁ ∧ Stand p l e R s m args below meth c B.U B.locs B.cells B.slots ∧ PostX ⟨T.setVm vm₁, locs, cells, slots⟩ argsL.toArray q B ∧
      Steps p.tables e below (T.setTop g) ((B.U.setTop { g with stack := rest }).pushFrame (.throwing q))) := by
  obtain ⟨mk, hnamed⟩ := Cond.code_named hcode
  obtain ⟨methM, cM, hmethM, -, -, -, -, -, -, hsigM⟩ := Cond.code_spec hnamed hcode
  have hstatic : methM.isStatic = true := Cond.static_spec hnamed hmethM hstat
  obtain ⟨kP, hkP, -⟩ := className_of_methodNamed hnamed
  have hinitP : kP.init = .initialized := Cond.initialized_spec (findClass_of_methodNamed hnamed) hkP hinit
  obtain ⟨vm₁, X₁, hstep₁⟩ := X.invokestatic hexec hown hlink hnamed hmethM hstatic hkP hinitP hy (g := g) hg (argsL := argsL) (rest := rest) (hlen _ hsigM) hstack hdg
  rcases hK m meth c ⟨T.setVm vm₁, locs, cells, slots⟩ { g with stack := rest } (.invokestatic index) mk argsL.toArray X₁ hg hsize hdg hW (X₁.named hnamed) (hpre vm₁ X₁.warmed) with ⟨v, B, X', hpost, hsteps⟩ | ⟨q, B, X', hpost, hsteps⟩
  · exact Or.inl ⟨v, vm₁, B, X₁.warmed, X', hpost, fun target h => hstep₁ _ fun acts => by rw [doInvoke_state]; exact hsteps.trans h⟩
  · exact Or.inr ⟨q, vm₁, B, X₁.warmed, X', hpost, hstep₁ _ fun acts => by rw [doInvoke_state]; exact hsteps⟩
end Calls
theorem vx_cls {s : State} {T : State} {vm₁ : Vm} {E : String} {k : ClassId} (hW : s.WarmedH vm₁) (h : (T.setVm vm₁).vm.findClass E = some k) : s.vm.findClass E = some k := by
  have h1 : vm₁.findClass E = some k := h
  rw [hW.alike.findClass] at h1
  exact h1
/-- the method's frame g, with q thrown over it -/
def vx_W (p : Program) (l : Launch) (e : Env) (R : Room) (s : State) (m : MethodId) (args : Array Value) (below : List Frame) (meth : Method) (c : Code) (H : Heap) (locs : List Loc) (cells slots : Nat) (Q : State → Prop) (g : JFrame) (q : Addr) : Prop :=
  ∀ T : State, T.heap = H → Stand p l e R s m args below meth c T locs cells slots → ∃ t, Steps p.tables e below ((T.setTop g).pushFrame (.throwing q)) t ∧ Q t
def vx_Run (p : Program) (l : Launch) (e : Env) (R : Room) (s : State) (m : MethodId) (args : Array Value) (below : List Frame) (meth : Method) (c : Code) (H : Heap) (locs : List Loc) (cells slots mc ms : Nat) (g : JFrame) (rest : List Value) (Qa : State → Outcome → State → Prop) (XC : String → State → State → Prop) (free : Addr → Prop) : Prop :=
  ∀ T : State, T.heap = H → Stand p l e R s m args below meth c T locs cells slots →
    (∃ (v : Option Value) (st₀ t T' : State) (L : List Loc), st₀.heap = H ∧ Stand p l e R s m args below meth c T' (locs ++ L) (cells + mc) (slots + ms) ∧ (∀ q ∈ L, free q.base) ∧ T'.heap = t.heap ∧ T'.vm = t.vm ∧ Qa st₀ (.returned v) t ∧
      Goes p e below T g T' { g with pc := g.pc + 3, stack := v.toList ++ rest }) ∨
    (∃ (q : Addr) (st₀ t T' : State) (L : List Loc) (E : String) (ce : Cell), st₀.heap = H ∧ Stand p l e R s m args below meth c T' (locs ++ L) (cells + mc) (slots + ms) ∧ (∀ z ∈ L, free z.base) ∧ T'.heap = t.heap ∧ T'.vm = t.vm ∧ XC E st₀ t ∧ t.heap[q]? = some ce ∧ ce.vm = .none ∧ s.vm.findClass E = some ce.cls ∧
      Steps p.tables e below (T.setTop g) ((T'.setTop { g with stack := rest }).pushFrame (.throwing q)))
def vx_X {S : Type} (px : S → Prop) (B : String → S → State → Prop) (A : Nat → Prop) : String → State → State → Prop := fun E st t => ∃ u : S, px u ∧ B E u t ∧ va_F A st t
section Runs
variable {p : Program} {l : Launch} {e : Env} {R : Room} {s : State} {m : MethodId} {args : Array Value} {below : List Frame} {meth : Method} {c : Code} {H : Heap} {locs : List Loc} {cells slots : Nat}
variable {y : MethodName} {bytes cc : ByteArray} {maxL nL mc ms n index : Nat} {ret : Option FieldType} {ws : List Cond} {rm : Room} {Pc : Array Value → State → Prop} {Qc : Array Value → State → Outcome → State → Prop} {XC : String → State → State → Prop} {free : Addr → Prop} {Ts : List Cond} {own C : String} {b : Addr} {As rest : List Value} {g : JFrame}
theorem vx_callBack (cb : CallB R s args own index y bytes maxL ret ws rm mc ms n) (hM : vx_Met l y ws rm Pc Qc XC mc ms free) (hbl : FrameBlind Pc) : vx_Back l R p e below s args y 3 8 (PreOf R mc ms Pc) (PostOf Qc mc ms free) (vx_Post XC mc ms free) := by
  obtain ⟨hrc, hrs, hfr, hlo, hws, hcw, -, hini, -⟩ := cb
  exact vx_back (bytes := bytes) (maxL := maxL) (ret := ret) hM hbl hrc hrs hfr hlo hws hcw (fun a' U hW => word_at hW (Or.inl (by first | rfl | simp [Cond.onTables, Cond.keeps, Cond.steady])) hini)
theorem vx_runV (S : CallFix p m c cc nL s args Ts own) (hM : vx_Met l y ws rm Pc Qc XC mc ms free) (cw : CallW R s args own C index y bytes maxL ret ws rm mc ms n) (hp : PreV s H C b Pc As)
    (hg : g.method = m) (hn : As.length = n) (hsize : g.locals.size = nL) (hstack : g.stack = As.reverse ++ .ref b :: rest) (hW : 2 * g.monitorRoom + (rest.map fun v => v.category).sum ≤ 8) (hdg : decode cc g.pc = .ok (.invokevirtual index, 3)) (hf : cells + mc ≤ R.cells ∧ slots + ms ≤ R.slots) :
    vx_Run p l e R s m args below meth c H locs cells slots mc ms g rest (Qc (Value.ref b :: As).toArray) XC free := by
  have hK : vx_Back l R p e below s args y 3 8 (PreOf R mc ms Pc) (PostOf Qc mc ms free) (vx_Post XC mc ms free) := vx_callBack cw.1 hM hp.1
  obtain ⟨⟨-, -, -, -, -, -, hcode, -, hy, hlen, hl⟩, hin, hse⟩ := cw
  obtain ⟨hx, hb, hml, ho, -⟩ := S
  obtain ⟨-, ⟨cellB, hcB, hoB, hclB⟩, hPc⟩ := hp
  intro T hT X
  rcases vx_callV X hx (C := C) (bytes := bytes) (maxL := maxL) (ret := ret) ho hl hin hse hcode hy hK (by rw [hT]; exact hcB) hoB hclB hg (hsize.trans hml.symm) (argsL := As) (rest := rest) (fun sig h => hn.trans (hlen sig h)) hstack hW (by rw [hb]; exact hdg)
    (fun vm₁ hW₁ => ⟨hf.1, hf.2, hPc (T.setVm vm₁) hT hW₁⟩) with ⟨v, vm₁, ⟨U', l2, c2, s2⟩, hW₁, X', ⟨g', mk, t, L, e1, e2, hq, h1, hL, h2, h3⟩, st⟩ | ⟨q, vm₁, ⟨U', l2, c2, s2⟩, hW₁, X', ⟨g', mk, t, L, E, ce, e1, e2, hq, hce, hcv, hcl, h1, hL, h2, h3⟩, st⟩
  · dsimp only [Pt.U, Pt.locs, Pt.cells, Pt.slots] at X' e1 e2 h1 h2 h3 st
    subst h1; subst h2; subst h3
    exact Or.inl ⟨v, (T.setVm vm₁).calling g' mk (Value.ref b :: As).toArray, t, U', L, hT, X', hL, e1, e2, hq, st⟩
  · dsimp only [Pt.U, Pt.locs, Pt.cells, Pt.slots] at X' e1 e2 h1 h2 h3 st hcl
    subst h1; subst h2; subst h3
    exact Or.inr ⟨q, (T.setVm vm₁).calling g' mk (Value.ref b :: As).toArray, t, U', L, E, ce, hT, X', hL, e1, e2, hq, hce, hcv, vx_cls hW₁ hcl, st⟩
theorem vx_runS (S : CallFix p m c cc nL s args Ts own) (hM : vx_Met l y ws rm Pc Qc XC mc ms free) (cw : CallB R s args own index y bytes maxL ret ws rm mc ms n ∧ (Cond.static y).before args s = true) (hp : PreS s H Pc As)
    (hg : g.method = m) (hn : As.length = n) (hsize : g.locals.size = nL) (hstack : g.stack = As.reverse ++ rest) (hW : 2 * g.monitorRoom + (rest.map fun v => v.category).sum ≤ 8) (hdg : decode cc g.pc = .ok (.invokestatic index, 3)) (hf : cells + mc ≤ R.cells ∧ slots + ms ≤ R.slots) :
    vx_Run p l e R s m args below meth c H locs cells slots mc ms g rest (Qc As.toArray) XC free := by
  have hK : vx_Back l R p e below s args y 3 8 (PreOf R mc ms Pc) (PostOf Qc mc ms free) (vx_Post XC mc ms free) := vx_callBack cw.1 hM hp.1
  obtain ⟨⟨-, -, -, -, -, -, hcode, hini, hy, hlen, hl⟩, hstt⟩ := cw
  obtain ⟨hx, hb, hml, ho, -⟩ := S
  intro T hT X
  rcases vx_callS X hx (bytes := bytes) (maxL := maxL) (ret := ret) ho hl hstt hini hcode hy hK hg (hsize.trans hml.symm) (argsL := As) (rest := rest) (fun sig h => hn.trans (hlen sig h)) hstack hW (by rw [hb]; exact hdg)
    (fun vm₁ hW₁ => ⟨hf.1, hf.2, hp.2 (T.setVm vm₁) hT hW₁⟩) with ⟨v, vm₁, ⟨U', l2, c2, s2⟩, hW₁, X', ⟨g', mk, t, L, e1, e2, hq, h1, hL, h2, h3⟩, st⟩ | ⟨q, vm₁, ⟨U', l2, c2, s2⟩, hW₁, X', ⟨g', mk, t, L, E, ce, e1, e2, hq, hce, hcv, hcl, h1, hL, h2, h3⟩, st⟩
  · dsimp only [Pt.U, Pt.locs, Pt.cells, Pt.slots] at X' e1 e2 h1 h2 h3 st
    subst h1; subst h2; subst h3
    exact Or.inl ⟨v, (T.setVm vm₁).calling g' mk As.toArray, t, U', L, hT, X', hL, e1, e2, hq, st⟩
  · dsimp only [Pt.U, Pt.locs, Pt.cells, Pt.slots] at X' e1 e2 h1 h2 h3 st hcl
    subst h1; subst h2; subst h3
    exact Or.inr ⟨q, (T.setVm vm₁).calling g' mk As.toArray, t, U', L, E, ce, hT, X', hL, e1, e2, hq, hce, hcv, vx_cls hW₁ hcl, st⟩
end Runs
section Rows
variable {p : Program} {l : Launch} {e : Env} {R : Room} {s : State} {m : MethodId} {args : Array Value} {below : List Frame} {meth : Method} {c : Code} {H : Heap} {locs : List Loc} {cells slots : Nat} {Q : State → Prop}
variable {mc ms : Nat} {free : Addr → Prop} {A0 A1 : Nat → Prop} {H0 : Heap} {a : Array Value} {pc : Nat} {ls : Array Slot} {st0 rest : List Value}
theorem vx_keep {st₀ t T' : State} {L : List Loc} (h0 : st₀.heap = H) (e1 : T'.heap = t.heap) (hS : va_S A0 H0 H locs) (hA : ∀ q, q < H.size → A1 q → A0 q) (hf : ∀ q, free q → A0 q) (hL : ∀ q ∈ L, free q.base) (hF : va_F A1 st₀ t) :
    H.size ≤ T'.heap.size ∧ (∀ q : Nat, q < H.size → ¬ A1 q → T'.heap[q]? = H[q]?) ∧ va_S A0 H0 T'.heap (locs ++ L) := by
  obtain ⟨hz, hk⟩ := hF
  rw [h0] at hz hk
  exact ⟨by rw [e1]; exact hz, fun q h1 h2 => by rw [e1]; exact hk q h1 h2,
    ⟨Nat.le_trans hS.1 (by rw [e1]; exact hz), fun q h1 h2 => by rw [e1, hk q (Nat.lt_of_lt_of_le h1 hS.1) (fun z => h2 (hA q (Nat.lt_of_lt_of_le h1 hS.1) z))]; exact hS.2.1 q h1 h2, fun q hq => by
      rcases List.mem_append.mp hq with h | h
      · exact hS.2.2 q h
      · exact hf _ (hL q h)⟩⟩
theorem vx_calli {S SX : Type} {post : Int32 → S → Prop} {px : SX → Prop} {B : S → State → Prop} {BX : String → SX → State → Prop} {AX : Nat → Prop} (hr : vx_Run p l e R s m args below meth c H locs cells slots mc ms (F0 m pc ls st0) rest (va_Qi post B A1 a) (vx_X px BX AX) free) (hS : va_S A0 H0 H locs) (hA : ∀ q, q < H.size → A1 q → A0 q) (hf : ∀ q, free q → A0 q) (hAX : ∀ q, q < H.size → AX q → A0 q)
    (kx : ∀ (E : String) (ce : Cell) (q9 : Addr) (u : SX) (t : State) (H1 : Heap) (locs1 : List Loc), t.heap = H1 → s.vm.Alike t.vm → px u → BX E u t → H.size ≤ H1.size → (∀ q : Nat, q < H.size → ¬ AX q → H1[q]? = H[q]?) → va_S A0 H0 H1 locs1 → H1[q9]? = some ce → ce.vm = .none → s.vm.findClass E = some ce.cls → vx_W p l e R s m args below meth c H1 locs1 (cells + mc) (slots + ms) Q (F0 m pc ls rest) q9)
    (kk : ∀ (r : Int32) (u : S) (t : State) (H1 : Heap) (locs1 : List Loc), t.heap = H1 → s.vm.Alike t.vm → post r u → B u t → H.size ≤ H1.size → (∀ q : Nat, q < H.size → ¬ A1 q → H1[q]? = H[q]?) → va_S A0 H0 H1 locs1 → W p l e R s m args below meth c H1 locs1 (cells + mc) (slots + ms) Q (F0 m (pc + 3) ls (.int r :: rest))) : W p l e R s m args below meth c H locs cells slots Q (F0 m pc ls st0) := by
  intro T hT X
  rcases hr T hT X with ⟨v, st₀, t, T', L, h0, X', hL, e1, e2, ⟨⟨r, u, hv, hp, hb⟩, hF⟩, st⟩ | ⟨q, st₀, t, T', L, E, ce, h0, X', hL, e1, e2, ⟨u, hp, hb, hF⟩, hce, hcv, hcl, st⟩
  · cases hv
    obtain ⟨k1, k2, k3⟩ := vx_keep h0 e1 hS hA hf hL hF
    obtain ⟨t2, a1, b1⟩ := kk r u t T'.heap (locs ++ L) e1.symm (by rw [← e2]; exact X'.warmed.alike) hp hb k1 k2 k3 T' rfl X'
    exact ⟨t2, st t2 a1, b1⟩
  · obtain ⟨k1, k2, k3⟩ := vx_keep h0 e1 hS hAX hf hL hF
    obtain ⟨t2, a1, b1⟩ := kx E ce q u t T'.heap (locs ++ L) e1.symm (by rw [← e2]; exact X'.warmed.alike) hp hb k1 k2 k3 (by rw [e1]; exact hce) hcv hcl T' rfl X'
    exact ⟨t2, st.trans a1, b1⟩
theorem vx_calll {S SX : Type} {post : Int64 → S → Prop} {px : SX → Prop} {B : S → State → Prop} {BX : String → SX → State → Prop} {AX : Nat → Prop} (hr : vx_Run p l e R s m args below meth c H locs cells slots mc ms (F0 m pc ls st0) rest (va_Ql post B A1 a) (vx_X px BX AX) free) (hS : va_S A0 H0 H locs) (hA : ∀ q, q < H.size → A1 q → A0 q) (hf : ∀ q, free q → A0 q) (hAX : ∀ q, q < H.size → AX q → A0 q)
    (kx : ∀ (E : String) (ce : Cell) (q9 : Addr) (u : SX) (t : State) (H1 : Heap) (locs1 : List Loc), t.heap = H1 → s.vm.Alike t.vm → px u → BX E u t → H.size ≤ H1.size → (∀ q : Nat, q < H.size → ¬ AX q → H1[q]? = H[q]?) → va_S A0 H0 H1 locs1 → H1[q9]? = some ce → ce.vm = .none → s.vm.findClass E = some ce.cls → vx_W p l e R s m args below meth c H1 locs1 (cells + mc) (slots + ms) Q (F0 m pc ls rest) q9)
    (kk : ∀ (r : Int64) (u : S) (t : State) (H1 : Heap) (locs1 : List Loc), t.heap = H1 → s.vm.Alike t.vm → post r u → B u t → H.size ≤ H1.size → (∀ q : Nat, q < H.size → ¬ A1 q → H1[q]? = H[q]?) → va_S A0 H0 H1 locs1 → W p l e R s m args below meth c H1 locs1 (cells + mc) (slots + ms) Q (F0 m (pc + 3) ls (.long r :: rest))) : W p l e R s m args below meth c H locs cells slots Q (F0 m pc ls st0) := by
  intro T hT X
  rcases hr T hT X with ⟨v, st₀, t, T', L, h0, X', hL, e1, e2, ⟨⟨r, u, hv, hp, hb⟩, hF⟩, st⟩ | ⟨q, st₀, t, T', L, E, ce, h0, X', hL, e1, e2, ⟨u, hp, hb, hF⟩, hce, hcv, hcl, st⟩
  · cases hv
    obtain ⟨k1, k2, k3⟩ := vx_keep h0 e1 hS hA hf hL hF
    obtain ⟨t2, a1, b1⟩ := kk r u t T'.heap (locs ++ L) e1.symm (by rw [← e2]; exact X'.warmed.alike) hp hb k1 k2 k3 T' rfl X'
    exact ⟨t2, st t2 a1, b1⟩
  · obtain ⟨k1, k2, k3⟩ := vx_keep h0 e1 hS hAX hf hL hF
    obtain ⟨t2, a1, b1⟩ := kx E ce q u t T'.heap (locs ++ L) e1.symm (by rw [← e2]; exact X'.warmed.alike) hp hb k1 k2 k3 (by rw [e1]; exact hce) hcv hcl T' rfl X'
    exact ⟨t2, st.trans a1, b1⟩
theorem vx_callf {S SX : Type} {post : UInt32 → S → Prop} {px : SX → Prop} {B : S → State → Prop} {BX : String → SX → State → Prop} {AX : Nat → Prop} (hr : vx_Run p l e R s m args below meth c H locs cells slots mc ms (F0 m pc ls st0) rest (va_Qf post B A1 a) (vx_X px BX AX) free) (hS : va_S A0 H0 H locs) (hA : ∀ q, q < H.size → A1 q → A0 q) (hf : ∀ q, free q → A0 q) (hAX : ∀ q, q < H.size → AX q → A0 q)
    (kx : ∀ (E : String) (ce : Cell) (q9 : Addr) (u : SX) (t : State) (H1 : Heap) (locs1 : List Loc), t.heap = H1 → s.vm.Alike t.vm → px u → BX E u t → H.size ≤ H1.size → (∀ q : Nat, q < H.size → ¬ AX q → H1[q]? = H[q]?) → va_S A0 H0 H1 locs1 → H1[q9]? = some ce → ce.vm = .none → s.vm.findClass E = some ce.cls → vx_W p l e R s m args below meth c H1 locs1 (cells + mc) (slots + ms) Q (F0 m pc ls rest) q9)
    (kk : ∀ (r : UInt32) (u : S) (t : State) (H1 : Heap) (locs1 : List Loc), t.heap = H1 → s.vm.Alike t.vm → post r u → B u t → H.size ≤ H1.size → (∀ q : Nat, q < H.size → ¬ A1 q → H1[q]? = H[q]?) → va_S A0 H0 H1 locs1 → W p l e R s m args below meth c H1 locs1 (cells + mc) (slots + ms) Q (F0 m (pc + 3) ls (.float r :: rest))) : W p l e R s m args below meth c H locs cells slots Q (F0 m pc ls st0) := by
  intro T hT X
  rcases hr T hT X with ⟨v, st₀, t, T', L, h0, X', hL, e1, e2, ⟨⟨r, u, hv, hp, hb⟩, hF⟩, st⟩ | ⟨q, st₀, t, T', L, E, ce, h0, X', hL, e1, e2, ⟨u, hp, hb, hF⟩, hce, hcv, hcl, st⟩
  · cases hv
    obtain ⟨k1, k2, k3⟩ := vx_keep h0 e1 hS hA hf hL hF
    obtain ⟨t2, a1, b1⟩ := kk r u t T'.heap (locs ++ L) e1.symm (by rw [← e2]; exact X'.warmed.alike) hp hb k1 k2 k3 T' rfl X'
    exact ⟨t2, st t2 a1, b1⟩
  · obtain ⟨k1, k2, k3⟩ := vx_keep h0 e1 hS hAX hf hL hF
    obtain ⟨t2, a1, b1⟩ := kx E ce q u t T'.heap (locs ++ L) e1.symm (by rw [← e2]; exact X'.warmed.alike) hp hb k1 k2 k3 (by rw [e1]; exact hce) hcv hcl T' rfl X'
    exact ⟨t2, st.trans a1, b1⟩
theorem vx_calld {S SX : Type} {post : UInt64 → S → Prop} {px : SX → Prop} {B : S → State → Prop} {BX : String → SX → State → Prop} {AX : Nat → Prop} (hr : vx_Run p l e R s m args below meth c H locs cells slots mc ms (F0 m pc ls st0) rest (va_Qd post B A1 a) (vx_X px BX AX) free) (hS : va_S A0 H0 H locs) (hA : ∀ q, q < H.size → A1 q → A0 q) (hf : ∀ q, free q → A0 q) (hAX : ∀ q, q < H.size → AX q → A0 q)
    (kx : ∀ (E : String) (ce : Cell) (q9 : Addr) (u : SX) (t : State) (H1 : Heap) (locs1 : List Loc), t.heap = H1 → s.vm.Alike t.vm → px u → BX E u t → H.size ≤ H1.size → (∀ q : Nat, q < H.size → ¬ AX q → H1[q]? = H[q]?) → va_S A0 H0 H1 locs1 → H1[q9]? = some ce → ce.vm = .none → s.vm.findClass E = some ce.cls → vx_W p l e R s m args below meth c H1 locs1 (cells + mc) (slots + ms) Q (F0 m pc ls rest) q9)
    (kk : ∀ (r : UInt64) (u : S) (t : State) (H1 : Heap) (locs1 : List Loc), t.heap = H1 → s.vm.Alike t.vm → post r u → B u t → H.size ≤ H1.size → (∀ q : Nat, q < H.size → ¬ A1 q → H1[q]? = H[q]?) → va_S A0 H0 H1 locs1 → W p l e R s m args below meth c H1 locs1 (cells + mc) (slots + ms) Q (F0 m (pc + 3) ls (.double r :: rest))) : W p l e R s m args below meth c H locs cells slots Q (F0 m pc ls st0) := by
  intro T hT X
  rcases hr T hT X with ⟨v, st₀, t, T', L, h0, X', hL, e1, e2, ⟨⟨r, u, hv, hp, hb⟩, hF⟩, st⟩ | ⟨q, st₀, t, T', L, E, ce, h0, X', hL, e1, e2, ⟨u, hp, hb, hF⟩, hce, hcv, hcl, st⟩
  · cases hv
    obtain ⟨k1, k2, k3⟩ := vx_keep h0 e1 hS hA hf hL hF
    obtain ⟨t2, a1, b1⟩ := kk r u t T'.heap (locs ++ L) e1.symm (by rw [← e2]; exact X'.warmed.alike) hp hb k1 k2 k3 T' rfl X'
    exact ⟨t2, st t2 a1, b1⟩
  · obtain ⟨k1, k2, k3⟩ := vx_keep h0 e1 hS hAX hf hL hF
    obtain ⟨t2, a1, b1⟩ := kx E ce q u t T'.heap (locs ++ L) e1.symm (by rw [← e2]; exact X'.warmed.alike) hp hb k1 k2 k3 (by rw [e1]; exact hce) hcv hcl T' rfl X'
    exact ⟨t2, st.trans a1, b1⟩
theorem vx_callv {S SX : Type} {post : S → Prop} {px : SX → Prop} {B : S → State → Prop} {BX : String → SX → State → Prop} {AX : Nat → Prop} (hr : vx_Run p l e R s m args below meth c H locs cells slots mc ms (F0 m pc ls st0) rest (va_Qv post B A1 a) (vx_X px BX AX) free) (hS : va_S A0 H0 H locs) (hA : ∀ q, q < H.size → A1 q → A0 q) (hf : ∀ q, free q → A0 q) (hAX : ∀ q, q < H.size → AX q → A0 q)
    (kx : ∀ (E : String) (ce : Cell) (q9 : Addr) (u : SX) (t : State) (H1 : Heap) (locs1 : List Loc), t.heap = H1 → s.vm.Alike t.vm → px u → BX E u t → H.size ≤ H1.size → (∀ q : Nat, q < H.size → ¬ AX q → H1[q]? = H[q]?) → va_S A0 H0 H1 locs1 → H1[q9]? = some ce → ce.vm = .none → s.vm.findClass E = some ce.cls → vx_W p l e R s m args below meth c H1 locs1 (cells + mc) (slots + ms) Q (F0 m pc ls rest) q9)
    (kk : ∀ (u : S) (t : State) (H1 : Heap) (locs1 : List Loc), t.heap = H1 → s.vm.Alike t.vm → post u → B u t → H.size ≤ H1.size → (∀ q : Nat, q < H.size → ¬ A1 q → H1[q]? = H[q]?) → va_S A0 H0 H1 locs1 → W p l e R s m args below meth c H1 locs1 (cells + mc) (slots + ms) Q (F0 m (pc + 3) ls (rest))) : W p l e R s m args below meth c H locs cells slots Q (F0 m pc ls st0) := by
  intro T hT X
  rcases hr T hT X with ⟨v, st₀, t, T', L, h0, X', hL, e1, e2, ⟨⟨u, hv, hp, hb⟩, hF⟩, st⟩ | ⟨q, st₀, t, T', L, E, ce, h0, X', hL, e1, e2, ⟨u, hp, hb, hF⟩, hce, hcv, hcl, st⟩
  · cases hv
    obtain ⟨k1, k2, k3⟩ := vx_keep h0 e1 hS hA hf hL hF
    obtain ⟨t2, a1, b1⟩ := kk u t T'.heap (locs ++ L) e1.symm (by rw [← e2]; exact X'.warmed.alike) hp hb k1 k2 k3 T' rfl X'
    exact ⟨t2, st t2 a1, b1⟩
  · obtain ⟨k1, k2, k3⟩ := vx_keep h0 e1 hS hAX hf hL hF
    obtain ⟨t2, a1, b1⟩ := kx E ce q u t T'.heap (locs ++ L) e1.symm (by rw [← e2]; exact X'.warmed.alike) hp hb k1 k2 k3 (by rw [e1]; exact hce) hcv hcl T' rfl X'
    exact ⟨t2, st.trans a1, b1⟩
/-- caught by the row x of this method's table; the rows ahead don't take it -/
theorem vx_catch {own name : String} {E : String} {ce : Cell} {q : Addr} (hown : s.vm.findClass own = some m.cls) (pre : List ExceptionTableEntry) (x : ExceptionTableEntry) (suf : List ExceptionTableEntry) (hsplit : c.exceptionTable.toList = pre ++ x :: suf)
    (hpass : ∀ z ∈ pre, covers z pc = false ∨ (z.catchType ≠ 0 ∧ ∃ nm : String, (Cond.classLink own z.catchType nm).before args s = true ∧ va_Nc E nm s)) (hx : covers x pc = true) (h0 : x.catchType ≠ 0)
    (hlink : (Cond.classLink own x.catchType name).before args s = true) (hcast : (Cond.castable E name).before args s = true) (hcell : H[q]? = some ce) (hv : ce.vm = .none) (hcl : s.vm.findClass E = some ce.cls)
    (kk : W p l e R s m args below meth c H locs cells slots Q (F0 m x.handlerPc ls [.ref q])) : vx_W p l e R s m args below meth c H locs cells slots Q (F0 m pc ls rest) q := by
  intro T hT X
  have hpl : e.platform.magicAccessors = ({} : Platform).magicAccessors := by rw [X.admits.platform]
  obtain ⟨c3, c4, hc3, hc4, hasg⟩ := Cond.castable_spec hcast
  cases Option.some.inj (hc3.symm.trans hcl)
  obtain ⟨c5, hc5, hcl5⟩ := Cond.classLink_spec hown hlink e.platform hpl
  cases Option.some.inj (hc4.symm.trans hc5)
  obtain ⟨vm', X', st⟩ := X.thenCaughtThrough q (g := F0 m pc ls rest) rfl (Steps.refl _) (by rw [hT]; exact hcell) (by rw [hv]; rfl) (by obtain ⟨k9, h9, -⟩ := Vm.findClass_spec hcl; exact ⟨k9, h9⟩) pre x suf hsplit
    (fun z hz => by
      rcases hpass z hz with h | ⟨hz0, nm, hl1, hn1⟩
      · exact Or.inl h
      · obtain ⟨c6, hc6, hcl6⟩ := Cond.classLink_spec hown hl1 e.platform hpl
        obtain ⟨a8, b8, h1, h2, h3⟩ := hn1
        cases Option.some.inj (h1.symm.trans hcl)
        cases Option.some.inj (h2.symm.trans hc6)
        exact Or.inr ⟨hz0, _, hcl6, h3⟩) hx (Or.inr ⟨h0, c4, hcl5, hasg⟩)
  obtain ⟨t, a1, b1⟩ := kk (T.setVm vm') hT X'
  exact ⟨t, st.trans a1, b1⟩
end Rows
section Ends
variable {p : Program} {l : Launch} {e : Env} {R : Room} {s : State} {m : MethodId} {args : Array Value} {below : List Frame} {meth : Method} {c : Code} {H : Heap} {locs : List Loc} {cells slots : Nat} {Q : State → Prop}
variable {mc ms : Nat} {free : Addr → Prop} {A0 A1 : Nat → Prop} {H0 : Heap} {a : Array Value} {ls : Array Slot} {st0 rest : List Value}
variable {Qc : Array Value → State → Outcome → State → Prop} {XC : String → State → State → Prop}
/-- what a body that may throw owes at its end -/
def vx_MQ (below : List Frame) (Qc : Array Value → State → Outcome → State → Prop) (XC : String → State → State → Prop) (a : Array Value) (s : State) (mc ms : Nat) (free : Addr → Prop) : State → Prop := fun t =>
  ∃ o, t.status = .running ∧ Ended t below o ∧ vx_Q Qc XC mc ms free a s o t
theorem vx_ret {g : JFrame} {mc ms : Nat} (k : W p l e R s m args below meth c H locs cells slots (MQ below Qc args s mc ms free) g) : W p l e R s m args below meth c H locs cells slots (vx_MQ below Qc XC args s mc ms free) g := by
  intro T hT X
  obtain ⟨t, a1, o, b1, b2, b3, b4⟩ := k T hT X
  exact ⟨t, a1, o, b1, b2, Or.inl ⟨b3, b4⟩⟩
/-- not caught here: it goes on to the caller -/
theorem vx_widen {g : JFrame} {q : Addr} {k n : Nat} (h1 : cells ≤ k) (h2 : slots ≤ n) (kk : vx_W p l e R s m args below meth c H locs k n Q g q) : vx_W p l e R s m args below meth c H locs cells slots Q g q := fun T hT X => kk T hT (stand_widen X h1 h2)
theorem vx_out {pc : Nat} {E : String} {ce : Cell} {q : Addr} {mc ms : Nat} (hout : ∀ x ∈ c.exceptionTable.toList, covers x pc = false) (hlocks : meth.locks = false) (hcell : H[q]? = some ce) (hv : ce.vm = .none) (hcl : s.vm.findClass E = some ce.cls)
    (hx : ∀ t : State, t.heap = H → s.vm.Alike t.vm → XC E s t) (hf : ∀ z ∈ locs, free z.base) (hc : cells ≤ mc) (hs : slots ≤ ms) :
    vx_W p l e R s m args below meth c H locs cells slots (vx_MQ below Qc XC args s mc ms free) (F0 m pc ls rest) q := by
  intro T hT X
  obtain ⟨st1, hrun, hend, hW, hsm⟩ := X.leaveThrown q (g := F0 m pc ls rest) rfl rfl rfl hout hlocks
  have hcell9 : (T.setFrames (.throwing q :: below)).heap[q]? = some ce := by
    show T.heap[q]? = some ce
    rw [hT]; exact hcell
  exact ⟨_, st1, .threw q, hrun, hend, Or.inr ⟨q, rfl, E, ce, locs, hx _ hT hW.alike, hcell9, hv, hcl, hW, hsm.mono hc hs, hf⟩⟩
theorem vx_frame {U : State} {k n : Nat} (h : s.sameButNew ({ U with vm := s.vm } : State) locs k n) : s.heap.size ≤ U.heap.size ∧ ∀ q : Nat, q < s.heap.size → (∀ z ∈ locs, z.base ≠ q) → U.heap[q]? = s.heap[q]? := by
  obtain ⟨-, h2, -, -, -, h6⟩ := h
  refine ⟨h2, fun q hq hz => ?_⟩
  obtain ⟨c9, e1, e2, e3, e4⟩ := h6 q _ (Array.getElem?_eq_getElem hq)
  have hs : c9.slots = (s.heap[q]).slots := Array.ext_getElem? fun i => e4 i fun hm => hz _ hm rfl
  have h9 : c9 = s.heap[q] := by
    rw [hs] at e2
    exact e2
  have e5 : U.heap[q]? = some c9 := e1
  rw [e5, h9, Array.getElem?_eq_getElem hq]
/-- the words of a throw but the four that speak of the heap -/
def vx_no (w : Cond) : Bool := decide (w ≠ .isRef (.static Bundle.tN "UNASSIGNED_STACK" Bundle.steD)) && decide (w ≠ .isRef (.static Bundle.tN "SUPPRESSED_SENTINEL" Bundle.listD)) && decide (w ≠ .laysStatic Bundle.tN "UNASSIGNED_STACK" Bundle.steD) && decide (w ≠ .laysStatic Bundle.tN "SUPPRESSED_SENTINEL" Bundle.listD)
def vx_at0 (own : String) (ic : Nat) (X : String) (names : List String) : List Cond := (Bundle.ownAtoms0 own ic X names).filter vx_no
def vx_atS (own : String) (ic : Nat) (X : String) (names : List String) : List Cond := (Bundle.ownAtoms own ic X names).filter vx_no
/-- a word that the tables alone decide, or a good one -/
def vx_ot (w : Cond) : Bool := w.onTables || goodWord w
theorem vx_ot_at {args a' : Array Value} {s U : State} {w : Cond} (hW : s.WarmedH U.vm) (hvm : s.vm = U.vm) (hg : vx_ot w = true) (h : w.before args s = true) : w.before a' U = true := by
  simp only [vx_ot, Bool.or_eq_true] at hg
  rcases hg with hg | hg
  · exact va_tabs hg hvm h
  · exact word_at hW (good_of_word hg) h
/-- a list's words: the good ones out of the method's own list, the others by premises of their own -/
theorem vx_hat {args : Array Value} {s : State} {L B : List Cond} (h1 : ∀ w ∈ L.filter goodWord, w.before args s = true) (h2 : ∀ w ∈ L.filter (fun w => !goodWord w), w ∈ B) (h3 : ∀ w ∈ B, w.before args s = true) : ∀ w ∈ L, w.before args s = true := by
  intro w hw
  by_cases g : goodWord w = true
  · exact h1 w (List.mem_filter.mpr ⟨hw, g⟩)
  · refine h3 w (h2 w (List.mem_filter.mpr ⟨hw, ?_⟩))
    show (!goodWord w) = true
    cases hgw : goodWord w
    · rfl
    · exact absurd hgw g
theorem vx_c {args : Array Value} {s : State} {w : Cond} {B : List Cond} (h : w.before args s = true) (t : ∀ w ∈ B, w.before args s = true) : ∀ w' ∈ w :: B, w'.before args s = true := fun w' h' => (List.mem_cons.mp h').elim (fun e => by rw [e]; exact h) (t w')
theorem vx_n {args : Array Value} {s : State} : ∀ w ∈ ([] : List Cond), w.before args s = true := fun _ h => nomatch h
theorem vx_own {args : Array Value} {s : State} {L : List Cond} (h1 : ∀ w ∈ L.filter vx_no, w.before args s = true)
    (hU : (Cond.isRef (.static Bundle.tN "UNASSIGNED_STACK" Bundle.steD)).before args s = true) (hN : (Cond.isRef (.static Bundle.tN "SUPPRESSED_SENTINEL" Bundle.listD)).before args s = true)
    (lU : (Cond.laysStatic Bundle.tN "UNASSIGNED_STACK" Bundle.steD).before args s = true) (lN : (Cond.laysStatic Bundle.tN "SUPPRESSED_SENTINEL" Bundle.listD).before args s = true) : ∀ w ∈ L, w.before args s = true := by
  intro w hw
  by_cases e1 : w = .isRef (.static Bundle.tN "UNASSIGNED_STACK" Bundle.steD)
  · rw [e1]; exact hU
  · by_cases e2 : w = .isRef (.static Bundle.tN "SUPPRESSED_SENTINEL" Bundle.listD)
    · rw [e2]; exact hN
    · by_cases e3 : w = .laysStatic Bundle.tN "UNASSIGNED_STACK" Bundle.steD
      · rw [e3]; exact lU
      · by_cases e4 : w = .laysStatic Bundle.tN "SUPPRESSED_SENTINEL" Bundle.listD
        · rw [e4]; exact lN
        · exact h1 w (List.mem_filter.mpr ⟨hw, by unfold vx_no; rw [decide_eq_true e1, decide_eq_true e2, decide_eq_true e3, decide_eq_true e4]; rfl⟩)
/-- where a static field lies, its class's statics cell in H -/
def vx_L (C n d : String) (A : Nat → Prop) (U : State) (H : Heap) : Prop := ∃ (c : ClassId) (k : Class) (i : Nat) (f : Field) (a : Nat) (cell : Cell), U.vm.findClass C = some c ∧ U.fieldFound? C n d = some (c, k, i, f) ∧ f.isStatic = true ∧ k.statics = some a ∧ H[a]? = some cell ∧ cell.vm.isStatics = true ∧ cell.cls = c ∧ f.slot < cell.slots.size ∧ k.staticTypes[f.slot]? = some f.type ∧ ¬ A a
theorem vx_L.moved {C n d : String} {A : Nat → Prop} {u U : State} {H : Heap} (hvm : u.vm.Alike U.vm) (h : vx_L C n d A u H) : vx_L C n d A U H := by
  obtain ⟨c, k, i, f, a, cell, h1, h2, h3, h4, h5, h6, h7, h8, h9, h10⟩ := h
  obtain ⟨k', hi', he⟩ := State.fieldFound?_setVm hvm h2
  exact ⟨c, k', i, f, a, cell, by rw [hvm.findClass]; exact h1, hi', h3, by rw [he]; exact h4, h5, h6, h7, h8, by rw [he]; exact h9, h10⟩
theorem vx_L.kept {C n d : String} {A : Nat → Prop} {U : State} {H H1 : Heap} (h : vx_L C n d A U H) (hq : ∀ a : Nat, a < H.size → ¬ A a → H1[a]? = H[a]?) : vx_L C n d A U H1 := by
  obtain ⟨c, k, i, f, a, cell, h1, h2, h3, h4, h5, h6, h7, h8, h9, h10⟩ := h
  exact ⟨c, k, i, f, a, cell, h1, h2, h3, h4, by rw [hq a (Array.getElem?_eq_some_iff.mp h5).1 h10]; exact h5, h6, h7, h8, h9, h10⟩
theorem vx_L.narrow {C n d : String} {A B : Nat → Prop} {U : State} {H : Heap} (h : vx_L C n d A U H) (hAB : ∀ q, B q → A q) : vx_L C n d B U H := by
  obtain ⟨c, k, i, f, a, cell, h1, h2, h3, h4, h5, h6, h7, h8, h9, h10⟩ := h
  exact ⟨c, k, i, f, a, cell, h1, h2, h3, h4, h5, h6, h7, h8, h9, fun z => h10 (hAB _ z)⟩
theorem vx_L.word {C n d : String} {A : Nat → Prop} {s : State} {args : Array Value} (h : vx_L C n d A s s.heap) : (Cond.laysStatic C n d).before args s = true := by
  obtain ⟨c, k, i, f, a, cell, h1, h2, h3, h4, h5, h6, h7, h8, h9, -⟩ := h
  show (Cond.laysStatic C n d).holds args s none s [] = true
  exact Cond.laysStatic_of h1 h2 h3 h4 h5 h6 h7 h8 h9
/-- .. and what it holds: null or some reference -/
def vx_Zq (C n d : String) (A : Nat → Prop) (U : State) (H : Heap) : Prop := va_Zq C n d A U H ∧ vx_L C n d A U H
theorem vx_Zq.moved {C n d : String} {A : Nat → Prop} {u U : State} {H : Heap} (hvm : u.vm.Alike U.vm) (h : vx_Zq C n d A u H) : vx_Zq C n d A U H := ⟨va_Zq.moved hvm h.1, vx_L.moved hvm h.2⟩
theorem vx_Zq.kept {C n d : String} {A : Nat → Prop} {U : State} {H H1 : Heap} (h : vx_Zq C n d A U H) (hq : ∀ a : Nat, a < H.size → ¬ A a → H1[a]? = H[a]?) : vx_Zq C n d A U H1 := ⟨va_Zq.kept h.1 hq, vx_L.kept h.2 hq⟩
theorem vx_Zq.narrow {C n d : String} {A B : Nat → Prop} {U : State} {H : Heap} (h : vx_Zq C n d A U H) (hAB : ∀ q, B q → A q) : vx_Zq C n d B U H := ⟨va_Zq.narrow h.1 hAB, vx_L.narrow h.2 hAB⟩
theorem vx_Zqof {args : Array Value} {s : State} {C n d : String} {A : Nat → Prop} (hl : (Cond.laysStatic C n d).before args s = true) (hini : (Cond.initialized C).before args s = true) (h : (Cond.isRef (.static C n d)).before args s = true) (hA : ∀ a : Nat, a < s.heap.size → ¬ A a) : vx_Zq C n d A s s.heap := by
  refine ⟨va_Zqof hl hini h hA, ?_⟩
  obtain ⟨c, k, i, f, a, cell, h1, h2, h3, h4, h5, h6, h7, h8, h9⟩ := Cond.laysStatic_spec hl
  exact ⟨c, k, i, f, a, cell, h1, h2, h3, h4, h5, h6, h7, h8, h9, hA a (Array.getElem?_eq_some_iff.mp h5).1⟩
theorem vx_isRef {C n d : String} {v : Value} {A : Nat → Prop} {s : State} {args : Array Value} (h : va_Z C n d v A s s.heap) (hv : v.isRef = true) : (Cond.isRef (.static C n d)).before args s = true := by
  obtain ⟨cf, kf, fi, f, a, cell, h1, h2, h3, h4, h5, h6, h7, -⟩ := h
  have he : (Term.static C n d).eval args s none [] s = some v := by
    simp [Term.eval, State.fieldNamed?, h1, h2, h4, h5, h6, h7]
  simp only [Cond.before, Cond.holds, Cond.value, he]
  cases v <;> simp_all [Value.isRef]
theorem vx_isRefq {C n d : String} {A : Nat → Prop} {s : State} {args : Array Value} (h : va_Zq C n d A s s.heap) : (Cond.isRef (.static C n d)).before args s = true := by
  rcases h with h | ⟨t, h⟩
  · exact vx_isRef h rfl
  · exact vx_isRef h rfl
/-- the same frame, seen from here: as if the method were called anew in this heap -/
theorem vx_rebase {T : State} (X : Stand p l e R s m args below meth c T locs cells slots) {R' : Room} (hf : R'.frames ≤ R.frames) (hl : R'.locals ≤ R.locals) (hc : cells + R'.cells ≤ R.cells) (hs : slots + R'.slots ≤ R.slots) :
    Stand p l e R' ((T.setVm s.vm).setFrames (.invoking m args :: below)) m args below meth c T [] 0 0 := by
  have htop : (T.setVm s.vm).topJava?.isSome := X.here.top
  have hF : ((T.setVm s.vm).setFrames (.invoking m args :: below)).frames = .invoking m args :: below := State.frames_setFrames _ (State.cur_lt_of_top htop)
  obtain ⟨g₀, hg0⟩ := Option.isSome_iff_exists.mp htop
  obtain ⟨r, hr⟩ := State.topJava?_eq_some.mp hg0
  have hl9 : e.platform.stackLimits (T.setVm s.vm).me = e.platform.stackLimits s.me := X.limits
  have hb9 : (T.setVm s.vm).me.stackBytes = s.me.stackBytes := X.bytes
  refine ⟨X.admits, X.cas, X.clock, hF, ?_, X.hears, X.method, X.code, X.here, X.tail, X.warmed, ?_, ?_, ?_⟩
  · have h := X.room
    have hU : ((T.setVm s.vm).setFrames (.invoking m args :: below)).localsInUse = s.localsInUse := by
      rw [State.localsInUse_invoking hF (meth := meth) (c := c) X.method X.code, State.localsInUse_invoking X.frames X.method X.code]
    simp only [State.hasRoom, Bool.and_eq_true, decide_eq_true_eq] at h ⊢
    obtain ⟨⟨⟨⟨h1, h2, h3, h4, h5, h6⟩, h7⟩, h8⟩, h9⟩ := h
    rw [X.frames, List.length_cons] at h2 h3
    have q1 := X.heapSize
    have q2 := X.used
    simp only [hF, hU, List.length_cons, State.stackLimits_setFrames, State.stackBytes_setFrames, hl9, hb9]
    refine ⟨⟨⟨⟨by omega, by omega, by omega, by omega, by omega, h6⟩, ?_⟩, ?_⟩, X.book⟩
    · show T.heap.size + R'.cells ≤ e.platform.maxCells
      omega
    · show T.slotsUsed + R'.slots ≤ e.platform.maxSlots
      omega
  · rw [State.stackLimits_setFrames]; rfl
  · rw [State.stackBytes_setFrames]; rfl
  · refine ⟨?_, Nat.le_refl _, Nat.le_refl _, ?_, ?_, fun a c9 h9 => ⟨c9, h9, rfl, rfl, fun _ _ => rfl⟩⟩
    · obtain ⟨t, ht, -⟩ := State.frames_cons hr
      show T.setVm s.vm = { ((T.setVm s.vm).setFrames (.invoking m args :: below)).setFrames (T.setVm s.vm).frames with heap := T.heap, slotsUsed := T.slotsUsed }
      rw [State.setFrames_setFrames, State.setFrames_self ht]
      rfl
    · show T.slotsUsed = T.slotsUsed + ((T.heap.toList.drop T.heap.size).map (·.slots.size)).sum
      rw [List.drop_eq_nil_of_le (Nat.le_of_eq Array.length_toList)]
      rfl
    · show ((T.heap.toList.drop T.heap.size).map (·.slots.size)).sum ≤ 0
      rw [List.drop_eq_nil_of_le (Nat.le_of_eq Array.length_toList)]
      exact Nat.le_refl _
/-- 'throw new E()': new; dup; invokespecial; athrow -/
theorem vx_throw0 {cc : ByteArray} {pc : Nat} (hexec : p.tables.exec = Jvm.exec) (hb : c.code = cc) (hl : l.stackTraces = false) {own cls : String} {names : List String} {ik ic mc ms : Nat} {A : Nat → Prop}
    (hown : s.vm.findClass own = some m.cls) (hcls : Bundle.fit cls = true) (hnames : ∀ n ∈ names, Bundle.fit n = true)
    (hk : (Cond.classLink own ik cls).before args s = true) (hini : (Cond.initialized cls).before args s = true) (hat : ∀ w ∈ vx_at0 own ic cls names, w.before args s = true)
    (hgood : ∀ w ∈ Cond.classLink own ik cls :: Cond.initialized cls :: vx_at0 own ic cls names, vx_ot w = true)
    (hU : vx_Zq Bundle.tN "UNASSIGNED_STACK" Bundle.steD A s s.heap) (hN : vx_Zq Bundle.tN "SUPPRESSED_SENTINEL" Bundle.listD A s s.heap) (hS : va_S A s.heap H locs) (hsize : ls.size = c.maxLocals)
    (d0 : decode cc pc = .ok (.new ik, 3)) (d3 : decode cc (pc + 3) = .ok (.dup, 1)) (d4 : decode cc (pc + 4) = .ok (.invokespecial ic, 3)) (d7 : decode cc (pc + 7) = .ok (.athrow, 1))
    (hout : ∀ x ∈ c.exceptionTable.toList, covers x (pc + 7) = false)
    (hRframes : names.length + 3 < R.frames) (hRlocals : (rest.map fun v => v.category).sum + (13 * (names.length + 1) + 42) ≤ R.locals) (hRcells : cells + 1 ≤ R.cells) (hRslots : slots + 6 ≤ R.slots) (hlocks : meth.locks = false)
    (hx : ∀ t : State, s.vm.Alike t.vm → H.size ≤ t.heap.size → (∀ q : Nat, q < H.size → t.heap[q]? = H[q]?) → XC cls s t)
    (hf : ∀ z ∈ locs, free z.base) (hc : cells + 1 ≤ mc) (hs : slots + 6 ≤ ms) :
    W p l e R s m args below meth c H locs cells slots (vx_MQ below Qc XC args s mc ms free) (F0 m pc ls rest) := by
  intro T hT X
  have htr : e.platform.stackTraces = false := (show e.platform.stackTraces = l.stackTraces by rw [X.admits.platform]).trans hl
  have Y := vx_rebase X (R' := { frames := R.frames, locals := R.locals, cells := 1, slots := 6 }) (Nat.le_refl _) (Nat.le_refl _) hRcells hRslots
  obtain ⟨s', hA⟩ : ∃ z, z = (T.setVm s.vm).setFrames (.invoking m args :: below) := ⟨_, rfl⟩
  rw [← hA] at Y
  have hvm : s'.vm = s.vm := by rw [hA]; rfl
  have hhp : s'.heap = H := by rw [hA]; exact hT
  have hW0 : s.WarmedH s'.vm := by rw [hvm]; exact State.WarmedH.refl s
  have hat' : ∀ w ∈ vx_at0 own ic cls names, w.before args s' = true := fun w hw => vx_ot_at hW0 hvm.symm (hgood w (List.mem_cons_of_mem _ (List.mem_cons_of_mem _ hw))) (hat w hw)
  have hk' : (Cond.classLink own ik cls).before args s' = true := vx_ot_at hW0 hvm.symm (hgood _ List.mem_cons_self) hk
  have hini' : (Cond.initialized cls).before args s' = true := vx_ot_at hW0 hvm.symm (hgood _ (List.mem_cons_of_mem _ List.mem_cons_self)) hini
  have hU' : vx_Zq Bundle.tN "UNASSIGNED_STACK" Bundle.steD A s' s'.heap := by rw [hhp]; exact vx_Zq.moved hW0.alike (hU.kept hS.2.1)
  have hN' : vx_Zq Bundle.tN "SUPPRESSED_SENTINEL" Bundle.listD A s' s'.heap := by rw [hhp]; exact vx_Zq.moved hW0.alike (hN.kept hS.2.1)
  have h : ∀ w ∈ Bundle.ownAtoms0 own ic cls names, w.before args s' = true := vx_own hat' (vx_isRefq hU'.1) (vx_isRefq hN'.1) hU'.2.word hN'.2.word
  have hown' : s'.vm.findClass own = some m.cls := by rw [hvm]; exact hown
  have hins : (Cond.instantiable cls 6).before args s' = true := h _ (by simp [Bundle.ownAtoms0])
  obtain ⟨vm₁, cX, kX, hfX, hkX, -, -, X₁, st1⟩ := Y.newCold hexec (own := own) (C := cls) (index := ik) (n := 6) hown' hk' hins hini'
    (g := F0 m pc ls rest) rfl (by rw [hb]; exact d0) (Nat.le_refl _) (Nat.le_refl _)
  generalize hT1 : (T.setVm vm₁).pushCell { cls := cX, slots := kX.instanceTypes.map defaultValue, vm := .none } = T1 at X₁ st1
  have hcat : (Value.ref T.heap.size).category = 1 := rfl
  have hcellA : T1.heap[T.heap.size]? = some (freshCell cX kX) := by rw [← hT1]; exact State.heap_pushCell_size _ _
  have d3' : decode c.code (pc + 3) = .ok (.dup, 1) := by rw [hb]; exact d3
  obtain ⟨U, hsteps, hrun, hend, hW, hsame, ce, hce, hO⟩ := X₁.ctorThrow0 hexec htr (own := own) (cls := cls) (names := names) (ic := ic) hown' hcls hnames h (fun x hx => nomatch hx) hfX hkX hcellA (by rw [hhp, hT]; exact Nat.le_refl _)
    (g := { method := m, pc := pc + 4, locals := ls, stack := .ref T.heap.size :: .ref T.heap.size :: rest, locked := none }) rfl hsize rfl rfl (rest := rest) rfl
    (by rw [hb]; exact d4) (by rw [hb]; exact d7) hout hRframes (by simp only [List.map_cons, List.sum_cons, hcat]; omega) hlocks
  obtain ⟨f1, f2⟩ := vx_frame hsame
  rw [hhp] at f1 f2
  have hWs : s.WarmedH U.vm := State.WarmedH.trans hW0 hW
  have hcl : s.vm.findClass cls = some ce.cls := by
    have h9 := hO.cls
    rw [hvm] at h9
    exact h9
  have hall : s.sameButNew ({ U with vm := s.vm } : State) locs mc ms := by
    subst hA
    obtain ⟨e1, e2⟩ := hsame
    rw [State.setFrames_setFrames] at e1
    have h2 : (T.setVm s.vm).sameButNew ({ U with vm := s.vm } : State) [] (0 + 1) (0 + 6) := ⟨e1, e2⟩
    have h3 := X.same.trans h2
    rw [List.append_nil] at h3
    exact h3.mono hc hs
  refine ⟨U, ?_, .threw T.heap.size, hrun, hend, Or.inr ⟨T.heap.size, rfl, cls, ce, locs, hx U hWs.alike f1 (fun q hq => f2 q hq (fun z hz => nomatch hz)), hce, hO.vm, hcl, hWs, hall, hf⟩⟩
  refine st1 _ ?_
  show Steps p.tables e below (T1.setTop { method := m, pc := pc + 3, locals := ls, stack := .ref T.heap.size :: rest, locked := none }) _
  jvm_step X₁.here [X₁.here.top, hexec, d3', Value.category]
  exact hsteps
/-- 'throw new E("text")': new; dup; ldc; invokespecial; athrow -/
theorem vx_throwS {cc : ByteArray} {pc : Nat} (hexec : p.tables.exec = Jvm.exec) (hb : c.code = cc) (hl : l.stackTraces = false) {own cls text : String} {names : List String} {ik is ic mc ms sa : Nat} {A : Nat → Prop}
    (hown : s.vm.findClass own = some m.cls) (hcls : Bundle.fit cls = true) (hnames : ∀ n ∈ names, Bundle.fit n = true)
    (hk : (Cond.classLink own ik cls).before args s = true) (hini : (Cond.initialized cls).before args s = true) (hstr : vk_R own is text sa s) (hat : ∀ w ∈ vx_atS own ic cls names, w.before args s = true)
    (hgood : ∀ w ∈ Cond.classLink own ik cls :: Cond.initialized cls :: vx_atS own ic cls names, vx_ot w = true)
    (hU : vx_Zq Bundle.tN "UNASSIGNED_STACK" Bundle.steD A s s.heap) (hN : vx_Zq Bundle.tN "SUPPRESSED_SENTINEL" Bundle.listD A s s.heap) (hS : va_S A s.heap H locs) (hsize : ls.size = c.maxLocals)
    (d0 : decode cc pc = .ok (.new ik, 3)) (d3 : decode cc (pc + 3) = .ok (.dup, 1)) (d4 : decode cc (pc + 4) = .ok (.ldc is, 2)) (d6 : decode cc (pc + 6) = .ok (.invokespecial ic, 3)) (d9 : decode cc (pc + 9) = .ok (.athrow, 1))
    (hout : ∀ x ∈ c.exceptionTable.toList, covers x (pc + 9) = false)
    (hRframes : names.length + 3 < R.frames) (hRlocals : (rest.map fun v => v.category).sum + (13 * (names.length + 1) + 43) ≤ R.locals) (hRcells : cells + 1 ≤ R.cells) (hRslots : slots + 6 ≤ R.slots) (hlocks : meth.locks = false)
    (hx : ∀ t : State, s.vm.Alike t.vm → H.size ≤ t.heap.size → (∀ q : Nat, q < H.size → t.heap[q]? = H[q]?) → XC cls s t)
    (hf : ∀ z ∈ locs, free z.base) (hc : cells + 1 ≤ mc) (hs : slots + 6 ≤ ms) :
    W p l e R s m args below meth c H locs cells slots (vx_MQ below Qc XC args s mc ms free) (F0 m pc ls rest) := by
  intro T hT X
  have htr : e.platform.stackTraces = false := (show e.platform.stackTraces = l.stackTraces by rw [X.admits.platform]).trans hl
  have Y := vx_rebase X (R' := { frames := R.frames, locals := R.locals, cells := 1, slots := 6 }) (Nat.le_refl _) (Nat.le_refl _) hRcells hRslots
  obtain ⟨s', hA⟩ : ∃ z, z = (T.setVm s.vm).setFrames (.invoking m args :: below) := ⟨_, rfl⟩
  rw [← hA] at Y
  have hvm : s'.vm = s.vm := by rw [hA]; rfl
  have hhp : s'.heap = H := by rw [hA]; exact hT
  have hW0 : s.WarmedH s'.vm := by rw [hvm]; exact State.WarmedH.refl s
  have hat' : ∀ w ∈ vx_atS own ic cls names, w.before args s' = true := fun w hw => vx_ot_at hW0 hvm.symm (hgood w (List.mem_cons_of_mem _ (List.mem_cons_of_mem _ hw))) (hat w hw)
  have hk' : (Cond.classLink own ik cls).before args s' = true := vx_ot_at hW0 hvm.symm (hgood _ List.mem_cons_self) hk
  have hini' : (Cond.initialized cls).before args s' = true := vx_ot_at hW0 hvm.symm (hgood _ (List.mem_cons_of_mem _ List.mem_cons_self)) hini
  have hU' : vx_Zq Bundle.tN "UNASSIGNED_STACK" Bundle.steD A s' s'.heap := by rw [hhp]; exact vx_Zq.moved hW0.alike (hU.kept hS.2.1)
  have hN' : vx_Zq Bundle.tN "SUPPRESSED_SENTINEL" Bundle.listD A s' s'.heap := by rw [hhp]; exact vx_Zq.moved hW0.alike (hN.kept hS.2.1)
  have h : ∀ w ∈ Bundle.ownAtoms own ic cls names, w.before args s' = true := vx_own hat' (vx_isRefq hU'.1) (vx_isRefq hN'.1) hU'.2.word hN'.2.word
  have hown' : s'.vm.findClass own = some m.cls := by rw [hvm]; exact hown
  have hins : (Cond.instantiable cls 6).before args s' = true := h _ (by simp [Bundle.ownAtoms])
  obtain ⟨vm₁, cX, kX, hfX, hkX, -, -, X₁, st1⟩ := Y.newCold hexec (own := own) (C := cls) (index := ik) (n := 6) hown' hk' hins hini'
    (g := F0 m pc ls rest) rfl (by rw [hb]; exact d0) (Nat.le_refl _) (Nat.le_refl _)
  generalize hT1 : (T.setVm vm₁).pushCell { cls := cX, slots := kX.instanceTypes.map defaultValue, vm := .none } = T1 at X₁ st1
  have hcat : (Value.ref T.heap.size).category = 1 := rfl
  have hcellA : T1.heap[T.heap.size]? = some (freshCell cX kX) := by rw [← hT1]; exact State.heap_pushCell_size _ _
  have d3' : decode c.code (pc + 3) = .ok (.dup, 1) := by rw [hb]; exact d3
  have d4' : decode c.code (pc + 4) = .ok (.ldc is, 2) := by rw [hb]; exact d4
  have hstr' : vk_R own is text sa s' := vk_R.warm hW0 hstr
  obtain ⟨U, hsteps, hrun, hend, hW, hsame, ce, hce, hO⟩ := X₁.ctorThrowS hexec htr (own := own) (cls := cls) (names := names) (ic := ic) hown' hcls hnames h (fun x hx => nomatch hx) hfX hkX hcellA (by rw [hhp, hT]; exact Nat.le_refl _) (msg := .ref sa) rfl
    (g := { method := m, pc := pc + 6, locals := ls, stack := .ref sa :: .ref T.heap.size :: .ref T.heap.size :: rest, locked := none }) rfl hsize rfl rfl (rest := rest) rfl
    (by rw [hb]; exact d6) (by rw [hb]; exact d9) hout hRframes (by simp only [List.map_cons, List.sum_cons, hcat]; omega) hlocks
  obtain ⟨f1, f2⟩ := vx_frame hsame
  rw [hhp] at f1 f2
  have hWs : s.WarmedH U.vm := State.WarmedH.trans hW0 hW
  have hcl : s.vm.findClass cls = some ce.cls := by
    have h9 := hO.cls
    rw [hvm] at h9
    exact h9
  have hall : s.sameButNew ({ U with vm := s.vm } : State) locs mc ms := by
    subst hA
    obtain ⟨e1, e2⟩ := hsame
    rw [State.setFrames_setFrames] at e1
    have h2 : (T.setVm s.vm).sameButNew ({ U with vm := s.vm } : State) [] (0 + 1) (0 + 6) := ⟨e1, e2⟩
    have h3 := X.same.trans h2
    rw [List.append_nil] at h3
    exact h3.mono hc hs
  refine ⟨U, ?_, .threw T.heap.size, hrun, hend, Or.inr ⟨T.heap.size, rfl, cls, ce, locs, hx U hWs.alike f1 (fun q hq => f2 q hq (fun z hz => nomatch hz)), hce, hO.vm, hcl, hWs, hall, hf⟩⟩
  refine st1 _ ?_
  show Steps p.tables e below (T1.setTop { method := m, pc := pc + 3, locals := ls, stack := .ref T.heap.size :: rest, locked := none }) _
  jvm_step X₁.here [X₁.here.top, hexec, d3', Value.category]
  exact X₁.ldcString hexec (own := own) (text := text) (index := is) (a := sa) hown' hstr'.1 hstr'.2
    (g := { method := m, pc := pc + 4, locals := ls, stack := .ref T.heap.size :: .ref T.heap.size :: rest, locked := none }) rfl d4' _ hsteps
/-- 'throw new E("text")', the text by a wide index -/
theorem vx_throwSW {cc : ByteArray} {pc : Nat} (hexec : p.tables.exec = Jvm.exec) (hb : c.code = cc) (hl : l.stackTraces = false) {own cls text : String} {names : List String} {ik is ic mc ms sa : Nat} {A : Nat → Prop}
    (hown : s.vm.findClass own = some m.cls) (hcls : Bundle.fit cls = true) (hnames : ∀ n ∈ names, Bundle.fit n = true)
    (hk : (Cond.classLink own ik cls).before args s = true) (hini : (Cond.initialized cls).before args s = true) (hstr : vk_R own is text sa s) (hat : ∀ w ∈ vx_atS own ic cls names, w.before args s = true)
    (hgood : ∀ w ∈ Cond.classLink own ik cls :: Cond.initialized cls :: vx_atS own ic cls names, vx_ot w = true)
    (hU : vx_Zq Bundle.tN "UNASSIGNED_STACK" Bundle.steD A s s.heap) (hN : vx_Zq Bundle.tN "SUPPRESSED_SENTINEL" Bundle.listD A s s.heap) (hS : va_S A s.heap H locs) (hsize : ls.size = c.maxLocals)
    (d0 : decode cc pc = .ok (.new ik, 3)) (d3 : decode cc (pc + 3) = .ok (.dup, 1)) (d4 : decode cc (pc + 4) = .ok (.ldc_w is, 3)) (d7 : decode cc (pc + 7) = .ok (.invokespecial ic, 3)) (d10 : decode cc (pc + 10) = .ok (.athrow, 1))
    (hout : ∀ x ∈ c.exceptionTable.toList, covers x (pc + 10) = false)
    (hRframes : names.length + 3 < R.frames) (hRlocals : (rest.map fun v => v.category).sum + (13 * (names.length + 1) + 43) ≤ R.locals) (hRcells : cells + 1 ≤ R.cells) (hRslots : slots + 6 ≤ R.slots) (hlocks : meth.locks = false)
    (hx : ∀ t : State, s.vm.Alike t.vm → H.size ≤ t.heap.size → (∀ q : Nat, q < H.size → t.heap[q]? = H[q]?) → XC cls s t)
    (hf : ∀ z ∈ locs, free z.base) (hc : cells + 1 ≤ mc) (hs : slots + 6 ≤ ms) :
    W p l e R s m args below meth c H locs cells slots (vx_MQ below Qc XC args s mc ms free) (F0 m pc ls rest) := by
  intro T hT X
  have htr : e.platform.stackTraces = false := (show e.platform.stackTraces = l.stackTraces by rw [X.admits.platform]).trans hl
  have Y := vx_rebase X (R' := { frames := R.frames, locals := R.locals, cells := 1, slots := 6 }) (Nat.le_refl _) (Nat.le_refl _) hRcells hRslots
  obtain ⟨s', hA⟩ : ∃ z, z = (T.setVm s.vm).setFrames (.invoking m args :: below) := ⟨_, rfl⟩
  rw [← hA] at Y
  have hvm : s'.vm = s.vm := by rw [hA]; rfl
  have hhp : s'.heap = H := by rw [hA]; exact hT
  have hW0 : s.WarmedH s'.vm := by rw [hvm]; exact State.WarmedH.refl s
  have hat' : ∀ w ∈ vx_atS own ic cls names, w.before args s' = true := fun w hw => vx_ot_at hW0 hvm.symm (hgood w (List.mem_cons_of_mem _ (List.mem_cons_of_mem _ hw))) (hat w hw)
  have hk' : (Cond.classLink own ik cls).before args s' = true := vx_ot_at hW0 hvm.symm (hgood _ List.mem_cons_self) hk
  have hini' : (Cond.initialized cls).before args s' = true := vx_ot_at hW0 hvm.symm (hgood _ (List.mem_cons_of_mem _ List.mem_cons_self)) hini
  have hU' : vx_Zq Bundle.tN "UNASSIGNED_STACK" Bundle.steD A s' s'.heap := by rw [hhp]; exact vx_Zq.moved hW0.alike (hU.kept hS.2.1)
  have hN' : vx_Zq Bundle.tN "SUPPRESSED_SENTINEL" Bundle.listD A s' s'.heap := by rw [hhp]; exact vx_Zq.moved hW0.alike (hN.kept hS.2.1)
  have h : ∀ w ∈ Bundle.ownAtoms own ic cls names, w.before args s' = true := vx_own hat' (vx_isRefq hU'.1) (vx_isRefq hN'.1) hU'.2.word hN'.2.word
  have hown' : s'.vm.findClass own = some m.cls := by rw [hvm]; exact hown
  have hins : (Cond.instantiable cls 6).before args s' = true := h _ (by simp [Bundle.ownAtoms])
  obtain ⟨vm₁, cX, kX, hfX, hkX, -, -, X₁, st1⟩ := Y.newCold hexec (own := own) (C := cls) (index := ik) (n := 6) hown' hk' hins hini'
    (g := F0 m pc ls rest) rfl (by rw [hb]; exact d0) (Nat.le_refl _) (Nat.le_refl _)
  generalize hT1 : (T.setVm vm₁).pushCell { cls := cX, slots := kX.instanceTypes.map defaultValue, vm := .none } = T1 at X₁ st1
  have hcat : (Value.ref T.heap.size).category = 1 := rfl
  have hcellA : T1.heap[T.heap.size]? = some (freshCell cX kX) := by rw [← hT1]; exact State.heap_pushCell_size _ _
  have d3' : decode c.code (pc + 3) = .ok (.dup, 1) := by rw [hb]; exact d3
  have d4' : decode c.code (pc + 4) = .ok (.ldc_w is, 3) := by rw [hb]; exact d4
  have hstr' : vk_R own is text sa s' := vk_R.warm hW0 hstr
  obtain ⟨U, hsteps, hrun, hend, hW, hsame, ce, hce, hO⟩ := X₁.ctorThrowS hexec htr (own := own) (cls := cls) (names := names) (ic := ic) hown' hcls hnames h (fun x hx => nomatch hx) hfX hkX hcellA (by rw [hhp, hT]; exact Nat.le_refl _) (msg := .ref sa) rfl
    (g := { method := m, pc := pc + 7, locals := ls, stack := .ref sa :: .ref T.heap.size :: .ref T.heap.size :: rest, locked := none }) rfl hsize rfl rfl (rest := rest) rfl
    (by rw [hb]; exact d7) (by rw [hb]; exact d10) hout hRframes (by simp only [List.map_cons, List.sum_cons, hcat]; omega) hlocks
  obtain ⟨f1, f2⟩ := vx_frame hsame
  rw [hhp] at f1 f2
  have hWs : s.WarmedH U.vm := State.WarmedH.trans hW0 hW
  have hcl : s.vm.findClass cls = some ce.cls := by
    have h9 := hO.cls
    rw [hvm] at h9
    exact h9
  have hall : s.sameButNew ({ U with vm := s.vm } : State) locs mc ms := by
    subst hA
    obtain ⟨e1, e2⟩ := hsame
    rw [State.setFrames_setFrames] at e1
    have h2 : (T.setVm s.vm).sameButNew ({ U with vm := s.vm } : State) [] (0 + 1) (0 + 6) := ⟨e1, e2⟩
    have h3 := X.same.trans h2
    rw [List.append_nil] at h3
    exact h3.mono hc hs
  refine ⟨U, ?_, .threw T.heap.size, hrun, hend, Or.inr ⟨T.heap.size, rfl, cls, ce, locs, hx U hWs.alike f1 (fun q hq => f2 q hq (fun z hz => nomatch hz)), hce, hO.vm, hcl, hWs, hall, hf⟩⟩
  refine st1 _ ?_
  show Steps p.tables e below (T1.setTop { method := m, pc := pc + 3, locals := ls, stack := .ref T.heap.size :: rest, locked := none }) _
  jvm_step X₁.here [X₁.here.top, hexec, d3', Value.category]
  exact X₁.ldcStringW hexec (own := own) (text := text) (index := is) (a := sa) hown' hstr'.1 hstr'.2
    (g := { method := m, pc := pc + 4, locals := ls, stack := .ref T.heap.size :: .ref T.heap.size :: rest, locked := none }) rfl d4' _ hsteps
end Ends
section Bodies
variable {l : Launch}
theorem vx_ofW {y : MethodName} {ws ws' : List Cond} {rm : Room} {Pc : Array Value → State → Prop} {Qc : Array Value → State → Outcome → State → Prop} {XC : String → State → State → Prop} {mc ms : Nat} {free : Addr → Prop} {cc : ByteArray} {maxL : Nat} {ret : Option FieldType}
    (hy : plainName y.cls = true) (hw : ws = Cond.code y cc maxL ret :: ws')
    (body : ∀ p e s m args below meth c s₁, BodyLoose p l y (headSpec ws rm) cc maxL ret e s m args below meth c s₁ → c.maxLocals = maxL → (∀ x ∈ c.exceptionTable.toList, False) → Pc args s →
      W p l e (headSpec ws rm).room s m args below meth c s.heap [] 0 0 (vx_MQ below Qc XC args s mc ms free) (entryFrame m args maxL)) : vx_Met l y ws rm Pc Qc XC mc ms free := by
  refine MetFree.of_bodyS (code := cc) (maxLocals := maxL) (ret := ret) hy ?_ ?_
  · intro args s m h hn
    obtain ⟨meth, c, h1, h2, h3, h4, h5, h6, -, -⟩ := Cond.code_spec hn (atoms_spec (ws := ws) h _ (by rw [hw]; exact List.mem_cons_self))
    exact ⟨meth, c, h1, h2, h3, h4, h5, h6⟩
  · intro p e s m args below meth c s₁ B hml hP _
    have hh0 : s₁.heap = s.heap := by rw [B.state]; rfl
    have ht : ∀ x ∈ c.exceptionTable.toList, False := by
      obtain ⟨meth9, c9, h1, h2, -, -, -, -, h7, -⟩ := Cond.code_spec B.named (atoms_spec (ws := ws) B.pre _ (by rw [hw]; exact List.mem_cons_self))
      cases Option.some.inj (h1.symm.trans B.method)
      cases Option.some.inj (h2.symm.trans (Stand.of_body B).code)
      intro x hx
      rw [Array.isEmpty_iff.mp h7] at hx
      cases hx
    obtain ⟨t, a1, o, b1, b2, b3⟩ := body p e s m args below meth c s₁ B hml ht hP s₁ hh0 (Stand.of_body B)
    exact ⟨t, o, a1, b1, b2, b3⟩
/-- the table of a body with handlers -/
theorem vx_table {p : Program} {x y : MethodName} {S : Spec} {cc bytes : ByteArray} {maxL maxL' : Nat} {ret ret' : Option FieldType} {e : Env} {s s₁ : State} {m : MethodId} {args : Array Value} {below : List Frame} {meth : Method} {c : Code} {hh : List (Nat × Nat × Nat × Nat)}
    (B : BodyLoose p l y S cc maxL ret e s m args below meth c s₁) (h : (Cond.codeWith y bytes maxL' ret' hh).before args s = true) : c.exceptionTable.toList = tableOf hh := by
  obtain ⟨m9, meth9, c9, hn9, h1, h2, -, -, h6, -⟩ := Cond.codeWith_spec h
  cases Option.some.inj (hn9.symm.trans B.named)
  cases Option.some.inj (h1.symm.trans B.method)
  cases Option.some.inj (h2.symm.trans (Stand.of_body B).code)
  rw [← h6, table_eq]
end Bodies
end VXA
/-! ===== END ===== -/
/-! ===== BEGIN a static call of a method with an exception table ===== -/
section VXS
variable {p : Program} {l : Launch} {e : Env} {R : Room} {s : State} {m : MethodId} {args : Array Value} {below : List Frame} {meth : Method} {c : Code} {T : State} {H : Heap} {locs : List Loc} {cells slots : Nat}
abbrev vx_CSW (R : Room) (s : State) (args : Array Value) (own : String) (index : Nat) (y : MethodName) (bytes : ByteArray) (maxL : Nat) (ret : Option FieldType) (hh : List (Nat × Nat × Nat × Nat)) (ws : List Cond) (rm : Room) (mc ms n : Nat) : Prop :=
  (rm.cells = mc ∧ rm.slots = ms ∧ rm.frames + 1 ≤ R.frames ∧ 8 + (maxL + 11) + rm.locals ≤ R.locals ∧ (∀ w ∈ ws, ∀ (a' : Array Value) (U : State), s.WarmedH U.vm → w.before a' U = true) ∧ Cond.codeWith y bytes maxL ret hh ∈ ws) ∧
  (Cond.codeWith y bytes maxL ret hh).before args s = true ∧ (Cond.initialized y.cls).before args s = true ∧ (y.cls ≠ "java/lang/invoke/MethodHandle" ∧ y.cls ≠ "java/lang/invoke/VarHandle") ∧
  (∀ sig, parseMethodDescriptor y.desc = some sig → n = sig.parameters.length) ∧ (Cond.methodLink own index y).before args s = true ∧ (Cond.static y).before args s = true
theorem vx_cwSW {own : String} {index maxL mc ms : Nat} {y : MethodName} {bytes : ByteArray} {ret : Option FieldType} {hh : List (Nat × Nat × Nat × Nat)} {Ts ws ws' : List Cond} {rm : Room} (n : Nat) (ht : ∀ w ∈ Ts, w.before args s = true) (hT : GoodIn Ts (va_wsS own index y ws)) (hw : ws = Cond.codeWith y bytes maxL ret hh :: ws') (hrc : rm.cells = mc) (hrs : rm.slots = ms)
    (hd : y.cls ≠ "java/lang/invoke/MethodHandle" ∧ y.cls ≠ "java/lang/invoke/VarHandle" ∧ (parseMethodDescriptor y.desc).map (fun d => d.parameters.length) = some n) (hR : rm.frames + 1 ≤ R.frames ∧ 8 + (maxL + 11) + rm.locals ≤ R.locals) :
    vx_CSW R s args own index y bytes maxL ret hh ws rm mc ms n := by
  have ok : ∀ w ∈ va_wsS own index y ws, w.before args s = true := fun w h => ht w (hT w h).1
  have hG : GoodIn Ts ws := fun w h => hT w (by unfold va_wsS; exact List.mem_append_right _ h)
  have hc : Cond.codeWith y bytes maxL ret hh ∈ ws := by rw [hw]; exact List.mem_cons_self
  refine ⟨⟨hrc, hrs, hR.1, hR.2, pay_in ht hG, hc⟩, ht _ (hG _ hc).1, ok _ (by simp [va_wsS]), ⟨hd.1, hd.2.1⟩, fun sig h => ?_, ok _ (by simp [va_wsS]), ok _ (by simp [va_wsS])⟩
  have h2 := hd.2.2
  rw [h] at h2
  exact (Option.some.inj h2).symm
theorem vx_callSW (X : Stand p l e R s m args below meth c T locs cells slots) (hexec : p.tables.exec = Jvm.exec) {own : String} {index : Nat} {y : MethodName} {bytes : ByteArray} {maxL : Nat} {ret : Option FieldType} {hh : List (Nat × Nat × Nat × Nat)}
    (hown : s.vm.findClass own = some m.cls) (hlink : (Cond.methodLink own index y).before args s = true) (hstat : (Cond.static y).before args s = true) (hinit : (Cond.initialized y.cls).before args s = true)
    (hcode : (Cond.codeWith y bytes maxL ret hh).before args s = true) (hy : y.cls ≠ "java/lang/invoke/MethodHandle" ∧ y.cls ≠ "java/lang/invoke/VarHandle")
    {W9 : Nat} {Pre : Pt → Array Value → Prop} {Post : Pt → Array Value → Option Value → Pt → Prop} (hK : Back l R p e below s args y 3 W9 Pre Post)
    {g : JFrame} (hg : g.method = m) (hsize : g.locals.size = c.maxLocals) {argsL rest : List Value} (hlen : ∀ sig, parseMethodDescriptor y.desc = some sig → argsL.length = sig.parameters.length)
    (hstack : g.stack = argsL.reverse ++ rest) (hW : 2 * g.monitorRoom + (rest.map fun v => v.category).sum ≤ W9) (hdg : decode c.code g.pc = .ok (.invokestatic index, 3))
    (hpre : ∀ vm₁, s.WarmedH vm₁ → Pre ⟨T.setVm vm₁, locs, cells, slots⟩ argsL.toArray) :
    ∃ (v : Option Value) (vm₁ : Vm) (B : Pt), s.WarmedH vm₁ ∧ Stand p l e R s m args below meth c B.U B.locs B.cells B.slots ∧ Post ⟨T.setVm vm₁, locs, cells, slots⟩ argsL.toArray v B ∧
      ∀ target, Steps p.tables e below (B.U.setTop { g with pc := g.pc + 3, stack := v.toList ++ rest }) target → Steps p.tables e below (T.setTop g) target := by
  obtain ⟨mk, methM, cM, hnamed, hmethM, -, -, -, -, -, -, hsigM⟩ := Cond.codeWith_spec hcode
  have hstatic : methM.isStatic = true := Cond.static_spec hnamed hmethM hstat
  obtain ⟨kP, hkP, -⟩ := className_of_methodNamed hnamed
  have hinitP : kP.init = .initialized := Cond.initialized_spec (findClass_of_methodNamed hnamed) hkP hinit
  obtain ⟨vm₁, X₁, hstep₁⟩ := X.invokestatic hexec hown hlink hnamed hmethM hstatic hkP hinitP hy (g := g) hg (argsL := argsL) (rest := rest) (hlen _ hsigM) hstack hdg
  obtain ⟨v, B, X', hpost, hsteps⟩ := hK m meth c ⟨T.setVm vm₁, locs, cells, slots⟩ { g with stack := rest } (.invokestatic index) mk argsL.toArray X₁ hg hsize hdg hW (X₁.named hnamed) (hpre vm₁ X₁.warmed)
  exact ⟨v, vm₁, B, X₁.warmed, X', hpost, fun target h => hstep₁ _ fun acts => by rw [doInvoke_state]; exact hsteps.trans h⟩
theorem vx_runSW {y : MethodName} {bytes cc : ByteArray} {maxL nL mc ms n index : Nat} {ret : Option FieldType} {hh : List (Nat × Nat × Nat × Nat)} {ws : List Cond} {rm : Room} {Pc : Array Value → State → Prop} {Qc : Array Value → State → Outcome → State → Prop} {free : Addr → Prop} {Ts : List Cond} {own : String} {As rest : List Value} {g : JFrame}
    (S : CallFix p m c cc nL s args Ts own) (hM : Met l y ws rm Pc Qc mc ms free) (cw : vx_CSW R s args own index y bytes maxL ret hh ws rm mc ms n) (hp : PreS s H Pc As)
    (hg : g.method = m) (hn : As.length = n) (hsize : g.locals.size = nL) (hstack : g.stack = As.reverse ++ rest) (hW : 2 * g.monitorRoom + (rest.map fun v => v.category).sum ≤ 8) (hdg : decode cc g.pc = .ok (.invokestatic index, 3)) (hf : cells + mc ≤ R.cells ∧ slots + ms ≤ R.slots) :
    va_Run p l e R s m args below meth c H locs cells slots mc ms g rest (Qc As.toArray) (free) := by
  obtain ⟨⟨hrc, hrs, hfr, hlo, hws, hcw⟩, hcode, hini, hy, hlen, hl, hstt⟩ := cw
  have hK : Back l R p e below s args y 3 8 (PreOf R mc ms Pc) (PostOf Qc mc ms free) := va_backW (hh := hh) (bytes := bytes) (maxL := maxL) (ret := ret) hM hp.1 hrc hrs hfr hlo hws hcw (fun a' U hW => word_at hW (Or.inl (by first | rfl | simp [Cond.onTables, Cond.keeps, Cond.steady])) hini)
  obtain ⟨hx, hb, hml, ho, -⟩ := S
  intro T hT X
  obtain ⟨v, vm₁, ⟨U', l2, c2, s2⟩, hW₁, X', ⟨g', mk, t, L, e1, e2, hq, h1, hL, h2, h3⟩, st⟩ := vx_callSW X hx (hh := hh) (bytes := bytes) (maxL := maxL) (ret := ret) ho hl hstt hini hcode hy hK hg (hsize.trans hml.symm) (argsL := As) (rest := rest) (fun sig h => hn.trans (hlen sig h)) hstack hW (by rw [hb]; exact hdg)
    (fun vm₁ hW₁ => ⟨hf.1, hf.2, hp.2 (T.setVm vm₁) hT hW₁⟩)
  dsimp only [Pt.U, Pt.locs, Pt.cells, Pt.slots] at X' e1 e2 h1 h2 h3 st
  subst h1; subst h2; subst h3
  exact ⟨v, (T.setVm vm₁).calling g' mk As.toArray, t, U', L, hT, X', hL, e1, e2, hq, st⟩
/-- not caught here, past rows that name other classes: it goes on to the caller -/
theorem vx_outP {p : Program} {l : Launch} {e : Env} {R : Room} {s : State} {m : MethodId} {args : Array Value} {below : List Frame} {meth : Method} {c : Code} {H : Heap} {locs : List Loc} {cells slots : Nat} {free : Addr → Prop} {ls : Array Slot} {rest : List Value} {Qc : Array Value → State → Outcome → State → Prop} {XC : String → State → State → Prop}
    {pc : Nat} {own E : String} {ce : Cell} {q : Addr} {mc ms : Nat} (hown : s.vm.findClass own = some m.cls) (hlocks : meth.locks = false)
    (hpass : ∀ z ∈ c.exceptionTable.toList, covers z pc = false ∨ (z.catchType ≠ 0 ∧ ∃ nm : String, (Cond.classLink own z.catchType nm).before args s = true ∧ va_Nc E nm s)) (hcell : H[q]? = some ce) (hv : ce.vm = .none) (hcl : s.vm.findClass E = some ce.cls)
    (hx : ∀ t : State, t.heap = H → s.vm.Alike t.vm → XC E s t) (hf : ∀ z ∈ locs, free z.base) (hc : cells ≤ mc) (hs : slots ≤ ms) :
    vx_W p l e R s m args below meth c H locs cells slots (vx_MQ below Qc XC args s mc ms free) (F0 m pc ls rest) q := by
  intro T hT X
  have hpl : e.platform.magicAccessors = ({} : Platform).magicAccessors := by rw [X.admits.platform]
  obtain ⟨vm', hW', X', st⟩ := X.outThrough hlocks q (g := F0 m pc ls rest) rfl rfl rfl (cell := ce) (by rw [hT]; exact hcell) (by rw [hv]; rfl)
    (by obtain ⟨k9, h9, -⟩ := Vm.findClass_spec hcl; exact ⟨k9, h9⟩) (fun z hz => by
      rcases hpass z hz with h | ⟨hz0, nm, hl1, hn1⟩
      · exact Or.inl h
      · obtain ⟨c6, hc6, hcl6⟩ := Cond.classLink_spec hown hl1 e.platform hpl
        obtain ⟨a8, b8, h1, h2, h3⟩ := hn1
        cases Option.some.inj (h1.symm.trans hcl)
        cases Option.some.inj (h2.symm.trans hc6)
        exact Or.inr ⟨hz0, _, hcl6, h3⟩)
  obtain ⟨g₀, hfr⟩ := X'.frames_eq
  have hcell9 : ((T.setVm vm').setFrames (.throwing q :: below)).heap[q]? = some ce := by
    show T.heap[q]? = some ce
    rw [hT]; exact hcell
  have hend : Ended ((T.setVm vm').setFrames (.throwing q :: below)) below (.threw q) := State.frames_setFrames _ (State.cur_lt_of_frames hfr)
  refine ⟨(T.setVm vm').setFrames (.throwing q :: below), ?_, .threw q, X'.here.running, hend, Or.inr ⟨q, rfl, E, ce, locs, hx _ hT (X'.ends _).1.alike, hcell9, hv, hcl, (X'.ends _).1, (X'.ends _).2.mono hc hs, hf⟩⟩
  rw [X.pushThrowing_eq]
  exact st
/-- a thing of a world lies in the heap -/
theorem vx_lt {D : va_G} {cl : List vw_C} {ws : va_W} {H1 : Heap} (h : va_P D cl ws H1) {k : Nat} {q : Nat × va_E} (hk : ws[k]? = some q) : q.1 < H1.size := (h k q hk).lt
end VXS
/-! ===== END ===== -/
/-! ===== BEGIN methods with a table of their own: called by a name, returning or throwing ===== -/
section VXH
/-! vx_backW, vx_callVX, vx_callSX, vx_callVW, vx_runVW, vx_runVX, vx_runSX, vx_ofWH follow the same proofs as their sisters above (Free/Laws.lean, Shelf42/LK1.lean); vx_outP calls Shelf42/NT130.lean (outThrough). -/
section
variable {l : Launch} {R : Room} {p : Program} {e : Env} {below : List Frame} {s : State} {sargs : Array Value} {y : MethodName} {len W9 : Nat}
theorem vx_backW {ws : List Cond} {rm : Room} {Pc : Array Value → State → Prop} {Qc : Array Value → State → Outcome → State → Prop} {XC : String → State → State → Prop} {mc ms : Nat} {free : Addr → Prop} {bytes : ByteArray} {maxL : Nat} {ret : Option FieldType} {hh : List (Nat × Nat × Nat × Nat)}
    (hM : vx_Met l y ws rm Pc Qc XC mc ms free) (hblind : FrameBlind Pc) (hrc : rm.cells = mc) (hrs : rm.slots = ms)
    (hframes : rm.frames + 1 ≤ R.frames) (hlocals : W9 + (maxL + 11) + rm.locals ≤ R.locals)
    (hws : ∀ w ∈ ws, ∀ a' U, s.WarmedH U.vm → w.before a' U = true) (hcode : Cond.codeWith y bytes maxL ret hh ∈ ws) (hinit : ∀ a' U, s.WarmedH U.vm → (Cond.initialized y.cls).before a' U = true) :
    vx_Back l R p e below s sargs y len W9 (PreOf R mc ms Pc) (PostOf Qc mc ms free) (vx_Post XC mc ms free) := by
  intro m meth c A g ig mk a X hg hsize hdg hW hn hp
  have h1 : (headSpec ws rm).pre.before a A.U = true := atoms_intro fun w hw => hws w hw _ _ X.warmed
  have h2 : (Cond.codeWith y bytes maxL ret hh).before a A.U = true := hws _ hcode _ _ X.warmed
  have h3 : (Cond.initialized y.cls).before a A.U = true := hinit _ _ X.warmed
  have h4 : A.cells + (headSpec ws rm).room.cells ≤ R.cells := by rw [show (headSpec ws rm).room.cells = mc from hrc]; exact hp.1
  have h5 : A.slots + (headSpec ws rm).room.slots ≤ R.slots := by rw [show (headSpec ws rm).room.slots = ms from hrs]; exact hp.2.1
  have hPc : Pc a (A.U.calling g mk a) := hblind _ _ _ _ hp.2.2
  obtain ⟨U, Ls, c0, s0⟩ := A
  dsimp only [Pt.U, Pt.locs, Pt.cells, Pt.slots] at h1 h2 h3 h4 h5 X hn hPc ⊢
  obtain ⟨m9, methY, cY, hn9, hmY, hcY, -, hlY, -⟩ := Cond.codeWith_spec h2
  cases Option.some.inj (hn9.symm.trans hn)
  obtain ⟨kY, hkY, -⟩ := className_of_methodNamed hn
  have hinitY : kY.init = .initialized := Cond.initialized_spec (findClass_of_methodNamed hn) hkY h3
  have h : At U g.method c below := by rw [hg]; exact X.here
  have hlocals9 : W9 + (maxL + 11) + (headSpec ws rm).room.locals ≤ R.locals := hlocals
  have happ : (headSpec ws rm).appliesLoose y e.platform (U.calling g mk a) = true :=
    Spec.appliesLoose_calling (g := g) h hdg hn hkY hinitY
      (X.room_calling (g := g) (R' := (headSpec ws rm).room) hsize hmY hcY hframes (by rw [hlY]; omega) h4 h5) h1
  obtain ⟨mid, hmid⟩ := h.above
  have hfr : (U.setTop g).frames = (.java g :: mid) ++ below := by rw [State.frames_setTop' g h.top, hmid]; rfl
  obtain ⟨o, s₂, hsteps, -, hend, hq⟩ := Steps.callFree hM p X.admits X.cas X.clock (acts := []) hfr happ hPc trivial
  have hq' : vx_Q Qc XC mc ms free a (U.calling g mk a) o s₂ := hq
  rw [State.frames_setTop' g h.top] at hend
  obtain ⟨g₀, hg0⟩ := Option.isSome_iff_exists.mp h.top
  obtain ⟨r, hr⟩ := State.topJava?_eq_some.mp hg0
  have hr' : (({ U with heap := s₂.heap, slotsUsed := s₂.slotsUsed } : State).setVm s₂.vm).frames = .java g₀ :: r := hr
  rcases hq' with ⟨hqc, L, hfe, hL⟩ | ⟨q, rfl, E, ce, L, hx, hce, hcv, hcl, hW₂, hsm, hL⟩
  · obtain ⟨⟨v, rfl⟩, hW₂, e2, q2, q3, q4, q5, q6⟩ := id hfe
    have e3 : s₂ = ({ (U.calling g mk a).setFrames s₂.frames with heap := s₂.heap, slotsUsed := s₂.slotsUsed } : State).setVm s₂.vm := by
      have : s₂ = ({ s₂ with vm := (U.calling g mk a).vm } : State).setVm s₂.vm := rfl
      rw [e2] at this
      exact this
    obtain ⟨c₂, i₂, len₂, hc₂, hd₂, hf₂⟩ := hend
    have hW' : U.WarmedH s₂.vm := hW₂
    have hcc : c₂ = c := by
      have h1 : s₂.code? g.method = U.code? g.method := by
        rw [State.code?_eq, State.code?_eq, hW'.alike.method?]
      exact Option.some.inj (hc₂.symm.trans (h1.trans h.code))
    subst hcc
    have hlen : len₂ = len := by rw [hdg] at hd₂; cases hd₂; rfl
    subst hlen
    have hs₂ : s₂ = (({ U with heap := s₂.heap, slotsUsed := s₂.slotsUsed } : State).setVm s₂.vm).setTop { g with pc := g.pc + len₂, stack := v.toList ++ g.stack } := by
      refine e3.trans ?_
      rw [hf₂, State.calling_eq h.top, State.setFrames_setFrames, State.setTop_of_frames _ hr', hr]
      rfl
    have hsame : U.sameButNew ({ U with heap := s₂.heap, slotsUsed := s₂.slotsUsed } : State) L mc ms := by
      refine ⟨?_, q2, q3, q4, q5, q6⟩
      obtain ⟨t, ht, -⟩ := State.frames_cons hr
      show ({ U with heap := s₂.heap, slotsUsed := s₂.slotsUsed } : State) = { U.setFrames U.frames with heap := s₂.heap, slotsUsed := s₂.slotsUsed }
      rw [State.setFrames_self ht]
    subst hg
    refine Or.inl ⟨v, ⟨(({ U with heap := s₂.heap, slotsUsed := s₂.slotsUsed } : State).setVm s₂.vm), Ls ++ L, c0 + mc, s0 + ms⟩,
      ⟨X.admits, X.cas, X.clock, X.frames, X.room, X.hears, X.method, X.code, (X.here.setHeapUsed s₂.heap s₂.slotsUsed).setVm hW'.alike, X.tail, State.WarmedH.trans X.warmed hW', X.limits, X.bytes, X.same.trans (hsame.setVm s.vm)⟩,
      ⟨g, mk, s₂, L, rfl, rfl, hqc, rfl, hL, rfl, rfl⟩, ?_⟩
    show Steps p.tables e below _ ((({ U with heap := s₂.heap, slotsUsed := s₂.slotsUsed } : State).setVm s₂.vm).setTop { g with pc := g.pc + len₂, stack := v.toList ++ g.stack })
    rw [← hs₂]
    exact hsteps
  · obtain ⟨e2, q2, q3, q4, q5, q6⟩ := id hsm
    have e3 : s₂ = ({ (U.calling g mk a).setFrames s₂.frames with heap := s₂.heap, slotsUsed := s₂.slotsUsed } : State).setVm s₂.vm := by
      have : s₂ = ({ s₂ with vm := (U.calling g mk a).vm } : State).setVm s₂.vm := rfl
      rw [e2] at this
      exact this
    have hf₂ : s₂.frames = .throwing q :: .java g :: U.frames.tail := hend
    have hW' : U.WarmedH s₂.vm := hW₂
    have hs₂ : s₂ = ((({ U with heap := s₂.heap, slotsUsed := s₂.slotsUsed } : State).setVm s₂.vm).setTop g).pushFrame (.throwing q) := by
      refine e3.trans ?_
      rw [hf₂, State.calling_eq h.top, State.setFrames_setFrames, State.pushFrame, State.frames_setTop _ hr', State.setTop_of_frames _ hr', State.setFrames_setFrames, hr]
      rfl
    have hsame : U.sameButNew ({ U with heap := s₂.heap, slotsUsed := s₂.slotsUsed } : State) L mc ms := by
      refine ⟨?_, q2, q3, q4, q5, q6⟩
      obtain ⟨t, ht, -⟩ := State.frames_cons hr
      show ({ U with heap := s₂.heap, slotsUsed := s₂.slotsUsed } : State) = { U.setFrames U.frames with heap := s₂.heap, slotsUsed := s₂.slotsUsed }
      rw [State.setFrames_self ht]
    subst hg
    refine Or.inr ⟨q, ⟨(({ U with heap := s₂.heap, slotsUsed := s₂.slotsUsed } : State).setVm s₂.vm), Ls ++ L, c0 + mc, s0 + ms⟩,
      ⟨X.admits, X.cas, X.clock, X.frames, X.room, X.hears, X.method, X.code, (X.here.setHeapUsed s₂.heap s₂.slotsUsed).setVm hW'.alike, X.tail, State.WarmedH.trans X.warmed hW', X.limits, X.bytes, X.same.trans (hsame.setVm s.vm)⟩,
      ⟨g, mk, s₂, L, E, ce, rfl, rfl, hx, hce, hcv, hcl, rfl, hL, rfl, rfl⟩, ?_⟩
    show Steps p.tables e below _ (((({ U with heap := s₂.heap, slotsUsed := s₂.slotsUsed } : State).setVm s₂.vm).setTop g).pushFrame (.throwing q))
    rw [← hs₂]
    exact hsteps
end
variable {p : Program} {l : Launch} {e : Env} {R : Room} {s : State} {m : MethodId} {args : Array Value} {below : List Frame} {meth : Method} {c : Code} {T : State} {H : Heap} {locs : List Loc} {cells slots : Nat}
theorem vx_callVX (X : Stand p l e R s m args below meth c T locs cells slots) (hexec : p.tables.exec = Jvm.exec) {own C : String} {index : Nat} {y : MethodName} {bytes : ByteArray} {maxL : Nat} {ret : Option FieldType} {hh : List (Nat × Nat × Nat × Nat)}
    (hown : s.vm.findClass own = some m.cls) (hlink : (Cond.methodLink own index y).before args s = true) (hinst : (Cond.instanceMethod y).before args s = true) (hsel : (Cond.selects C y y).before args s = true)
    (hcode : (Cond.codeWith y bytes maxL ret hh).before args s = true) (hy : y.cls ≠ "java/lang/invoke/MethodHandle" ∧ y.cls ≠ "java/lang/invoke/VarHandle")
    {W9 : Nat} {Pre : Pt → Array Value → Prop} {Post : Pt → Array Value → Option Value → Pt → Prop} {PostX : Pt → Array Value → Addr → Pt → Prop} (hK : vx_Back l R p e below s args y 3 W9 Pre Post PostX)
    {b : Addr} {cellB : Cell} (hcell : T.heap[b]? = some cellB) (hobj : cellB.vm.isStatics = false) (hcls : s.vm.findClass C = some cellB.cls)
    {g : JFrame} (hg : g.method = m) (hsize : g.locals.size = c.maxLocals) {argsL rest : List Value} (hlen : ∀ sig, parseMethodDescriptor y.desc = some sig → argsL.length = sig.parameters.length)
    (hstack : g.stack = argsL.reverse ++ .ref b :: rest) (hW : 2 * g.monitorRoom + (rest.map fun v => v.category).sum ≤ W9) (hdg : decode c.code g.pc = .ok (.invokevirtual index, 3))
    (hpre : ∀ vm₁, s.WarmedH vm₁ → Pre ⟨T.setVm vm₁, locs, cells, slots⟩ (Value.ref b :: argsL).toArray) :
    (∃ (v : Option Value) (vm₁ : Vm) (B : Pt), s.WarmedH vm₁ ∧ Stand p l e R s m args below meth c B.U B.locs B.cells B.slots ∧ Post ⟨T.setVm vm₁, locs, cells, slots⟩ (Value.ref b :: argsL).toArray v B ∧
      ∀ target, Steps p.tables e below (B.U.setTop { g with pc := g.pc + 3, stack := v.toList ++ rest }) target → Steps p.tables e below (T.setTop g) target) ∨
    (∃ (q : Addr) (vm₁ : Vm) (B : Pt), s.WarmedH vm₁ ∧ Stand p l e R s m args below meth c B.U B.locs B.cells B.slots ∧ PostX ⟨T.setVm vm₁, locs, cells, slots⟩ (Value.ref b :: argsL).toArray q B ∧
      Steps p.tables e below (T.setTop g) ((B.U.setTop { g with stack := rest }).pushFrame (.throwing q))) := by
  obtain ⟨mk, methM, hnamed, hmethM, hstM, habM⟩ := Cond.instanceMethod_spec hinst
  obtain ⟨m8, methM', cM, hn8, hmethM', -, -, -, -, -, -, hsigM⟩ := Cond.codeWith_spec hcode
  cases Option.some.inj (hn8.symm.trans hnamed)
  cases hmethM.symm.trans hmethM'
  obtain ⟨c2, r2, m2, q1, q2, q3, q4, kP, hkP, hkPi⟩ := Cond.selects_spec hsel
  cases hcls.symm.trans q1
  cases (State.methodFound?_of_named hnamed hy).symm.trans q2
  cases hnamed.symm.trans q3
  have hselP : selectMethod e.platform s.vm cellB.cls mk = .method mk := by rw [Launch.admits_selectMethod X.admits]; exact q4
  obtain ⟨vm₁, X₁, hstep₁⟩ := X.invokevirtual hexec hown hlink hnamed hmethM hstM hkP hkPi hy (a := b) (cell := cellB) hcell
    (fun z h => by rw [h] at hobj; cases hobj) hselP hmethM habM hkP hkPi (g := g) hg (argsL := argsL) (rest := rest) (hlen _ hsigM) hstack hdg
  rcases hK m meth c ⟨T.setVm vm₁, locs, cells, slots⟩ { g with stack := rest } (.invokevirtual index) mk (Value.ref b :: argsL).toArray X₁ hg hsize hdg hW (X₁.named hnamed) (hpre vm₁ X₁.warmed) with ⟨v, B, X', hpost, hsteps⟩ | ⟨q, B, X', hpost, hsteps⟩
  · exact Or.inl ⟨v, vm₁, B, X₁.warmed, X', hpost, fun target h => hstep₁ _ fun acts => by rw [doInvoke_state]; exact hsteps.trans h⟩
  · exact Or.inr ⟨q, vm₁, B, X₁.warmed, X', hpost, hstep₁ _ fun acts => by rw [doInvoke_state]; exact hsteps⟩
theorem vx_callSX (X : Stand p l e R s m args below meth c T locs cells slots) (hexec : p.tables.exec = Jvm.exec) {own : String} {index : Nat} {y : MethodName} {bytes : ByteArray} {maxL : Nat} {ret : Option FieldType} {hh : List (Nat × Nat × Nat × Nat)}
    (hown : s.vm.findClass own = some m.cls) (hlink : (Cond.methodLink own index y).before args s = true) (hstat : (Cond.static y).before args s = true) (hinit : (Cond.initialized y.cls).before args s = true)
    (hcode : (Cond.codeWith y bytes maxL ret hh).before args s = true) (hy : y.cls ≠ "java/lang/invoke/MethodHandle" ∧ y.cls ≠ "java/lang/invoke/VarHandle")
    {W9 : Nat} {Pre : Pt → Array Value → Prop} {Post : Pt → Array Value → Option Value → Pt → Prop} {PostX : Pt → Array Value → Addr → Pt → Prop} (hK : vx_Back l R p e below s args y 3 W9 Pre Post PostX)
    {g : JFrame} (hg : g.method = m) (hsize : g.locals.size = c.maxLocals) {argsL rest : List Value} (hlen : ∀ sig, parseMethodDescriptor y.desc = some sig → argsL.length = sig.parameters.length)
    (hstack : g.stack = argsL.reverse ++ rest) (hW : 2 * g.monitorRoom + (rest.map fun v => v.category).sum ≤ W9) (hdg : decode c.code g.pc = .ok (.invokestatic index, 3))
    (hpre : ∀ vm₁, s.WarmedH vm₁ → Pre ⟨T.setVm vm₁, locs, cells, slots⟩ argsL.toArray) :
    (∃ (v : Option Value) (vm₁ : Vm) (B : Pt), s.WarmedH vm₁ ∧ Stand p l e R s m args below meth c B.U B.locs B.cells B.slots ∧ Post ⟨T.setVm vm₁, locs, cells, slots⟩ argsL.toArray v B ∧
      ∀ target, Steps p.tables e below (B.U.setTop { g with pc := g.pc + 3, stack := v.toList ++ rest }) target → Steps p.tables e below (T.setTop g) target) ∨
    (∃ (q : Addr) (vm₁ : Vm) (B : Pt), s.WarmedH vm₁ ∧ Stand p l e R s m args below meth c B.U B.locs B.cells B.slots ∧ PostX ⟨T.setVm vm₁, locs, cells, slots⟩ argsL.toArray q B ∧
      Steps p.tables e below (T.setTop g) ((B.U.setTop { g with stack := rest }).pushFrame (.throwing q))) := by
  obtain ⟨mk, methM, cM, hnamed, hmethM, -, -, -, -, -, -, hsigM⟩ := Cond.codeWith_spec hcode
  have hstatic : methM.isStatic = true := Cond.static_spec hnamed hmethM hstat
  obtain ⟨kP, hkP, -⟩ := className_of_methodNamed hnamed
  have hinitP : kP.init = .initialized := Cond.initialized_spec (findClass_of_methodNamed hnamed) hkP hinit
  obtain ⟨vm₁, X₁, hstep₁⟩ := X.invokestatic hexec hown hlink hnamed hmethM hstatic hkP hinitP hy (g := g) hg (argsL := argsL) (rest := rest) (hlen _ hsigM) hstack hdg
  rcases hK m meth c ⟨T.setVm vm₁, locs, cells, slots⟩ { g with stack := rest } (.invokestatic index) mk argsL.toArray X₁ hg hsize hdg hW (X₁.named hnamed) (hpre vm₁ X₁.warmed) with ⟨v, B, X', hpost, hsteps⟩ | ⟨q, B, X', hpost, hsteps⟩
  · exact Or.inl ⟨v, vm₁, B, X₁.warmed, X', hpost, fun target h => hstep₁ _ fun acts => by rw [doInvoke_state]; exact hsteps.trans h⟩
  · exact Or.inr ⟨q, vm₁, B, X₁.warmed, X', hpost, hstep₁ _ fun acts => by rw [doInvoke_state]; exact hsteps⟩
theorem vx_callVW (X : Stand p l e R s m args below meth c T locs cells slots) (hexec : p.tables.exec = Jvm.exec) {own C : String} {index : Nat} {y : MethodName} {bytes : ByteArray} {maxL : Nat} {ret : Option FieldType} {hh : List (Nat × Nat × Nat × Nat)}
    (hown : s.vm.findClass own = some m.cls) (hlink : (Cond.methodLink own index y).before args s = true) (hinst : (Cond.instanceMethod y).before args s = true) (hsel : (Cond.selects C y y).before args s = true)
    (hcode : (Cond.codeWith y bytes maxL ret hh).before args s = true) (hy : y.cls ≠ "java/lang/invoke/MethodHandle" ∧ y.cls ≠ "java/lang/invoke/VarHandle")
    {W9 : Nat} {Pre : Pt → Array Value → Prop} {Post : Pt → Array Value → Option Value → Pt → Prop} (hK : Back l R p e below s args y 3 W9 Pre Post)
    {b : Addr} {cellB : Cell} (hcell : T.heap[b]? = some cellB) (hobj : cellB.vm.isStatics = false) (hcls : s.vm.findClass C = some cellB.cls)
    {g : JFrame} (hg : g.method = m) (hsize : g.locals.size = c.maxLocals) {argsL rest : List Value} (hlen : ∀ sig, parseMethodDescriptor y.desc = some sig → argsL.length = sig.parameters.length)
    (hstack : g.stack = argsL.reverse ++ .ref b :: rest) (hW : 2 * g.monitorRoom + (rest.map fun v => v.category).sum ≤ W9) (hdg : decode c.code g.pc = .ok (.invokevirtual index, 3))
    (hpre : ∀ vm₁, s.WarmedH vm₁ → Pre ⟨T.setVm vm₁, locs, cells, slots⟩ (Value.ref b :: argsL).toArray) :
    ∃ (v : Option Value) (vm₁ : Vm) (B : Pt), s.WarmedH vm₁ ∧ Stand p l e R s m args below meth c B.U B.locs B.cells B.slots ∧ Post ⟨T.setVm vm₁, locs, cells, slots⟩ (Value.ref b :: argsL).toArray v B ∧
      ∀ target, Steps p.tables e below (B.U.setTop { g with pc := g.pc + 3, stack := v.toList ++ rest }) target → Steps p.tables e below (T.setTop g) target := by
  obtain ⟨mk, methM, hnamed, hmethM, hstM, habM⟩ := Cond.instanceMethod_spec hinst
  obtain ⟨m8, methM', cM, hn8, hmethM', -, -, -, -, -, -, hsigM⟩ := Cond.codeWith_spec hcode
  cases Option.some.inj (hn8.symm.trans hnamed)
  cases hmethM.symm.trans hmethM'
  obtain ⟨c2, r2, m2, q1, q2, q3, q4, kP, hkP, hkPi⟩ := Cond.selects_spec hsel
  cases hcls.symm.trans q1
  cases (State.methodFound?_of_named hnamed hy).symm.trans q2
  cases hnamed.symm.trans q3
  have hselP : selectMethod e.platform s.vm cellB.cls mk = .method mk := by rw [Launch.admits_selectMethod X.admits]; exact q4
  obtain ⟨vm₁, X₁, hstep₁⟩ := X.invokevirtual hexec hown hlink hnamed hmethM hstM hkP hkPi hy (a := b) (cell := cellB) hcell
    (fun z h => by rw [h] at hobj; cases hobj) hselP hmethM habM hkP hkPi (g := g) hg (argsL := argsL) (rest := rest) (hlen _ hsigM) hstack hdg
  obtain ⟨v, B, X', hpost, hsteps⟩ := hK m meth c ⟨T.setVm vm₁, locs, cells, slots⟩ { g with stack := rest } (.invokevirtual index) mk (Value.ref b :: argsL).toArray X₁ hg hsize hdg hW (X₁.named hnamed) (hpre vm₁ X₁.warmed)
  exact ⟨v, vm₁, B, X₁.warmed, X', hpost, fun target h => hstep₁ _ fun acts => by rw [doInvoke_state]; exact hsteps.trans h⟩
abbrev vx_CVW (R : Room) (s : State) (args : Array Value) (own C : String) (index : Nat) (y : MethodName) (bytes : ByteArray) (maxL : Nat) (ret : Option FieldType) (hh : List (Nat × Nat × Nat × Nat)) (ws : List Cond) (rm : Room) (mc ms n : Nat) : Prop :=
  (rm.cells = mc ∧ rm.slots = ms ∧ rm.frames + 1 ≤ R.frames ∧ 8 + (maxL + 11) + rm.locals ≤ R.locals ∧ (∀ w ∈ ws, ∀ (a' : Array Value) (U : State), s.WarmedH U.vm → w.before a' U = true) ∧ Cond.codeWith y bytes maxL ret hh ∈ ws) ∧
  (Cond.codeWith y bytes maxL ret hh).before args s = true ∧ (Cond.initialized y.cls).before args s = true ∧ (y.cls ≠ "java/lang/invoke/MethodHandle" ∧ y.cls ≠ "java/lang/invoke/VarHandle") ∧
  (∀ sig, parseMethodDescriptor y.desc = some sig → n = sig.parameters.length) ∧ (Cond.methodLink own index y).before args s = true ∧ (Cond.instanceMethod y).before args s = true ∧ (Cond.selects C y y).before args s = true
theorem vx_cwVW {own C : String} {index maxL mc ms : Nat} {y : MethodName} {bytes : ByteArray} {ret : Option FieldType} {hh : List (Nat × Nat × Nat × Nat)} {Ts ws ws' : List Cond} {rm : Room} (n : Nat) (ht : ∀ w ∈ Ts, w.before args s = true) (hT : GoodIn Ts (wsV own index C y ws)) (hw : ws = Cond.codeWith y bytes maxL ret hh :: ws') (hrc : rm.cells = mc) (hrs : rm.slots = ms)
    (hd : y.cls = C ∧ y.cls ≠ "java/lang/invoke/MethodHandle" ∧ y.cls ≠ "java/lang/invoke/VarHandle" ∧ (parseMethodDescriptor y.desc).map (fun d => d.parameters.length) = some n) (hR : rm.frames + 1 ≤ R.frames ∧ 8 + (maxL + 11) + rm.locals ≤ R.locals) :
    vx_CVW R s args own C index y bytes maxL ret hh ws rm mc ms n := by
  obtain ⟨hC, hd⟩ := hd
  subst hC
  have ok : ∀ w ∈ wsV own index y.cls y ws, w.before args s = true := fun w h => ht w (hT w h).1
  have hG : GoodIn Ts ws := fun w h => hT w (by unfold wsV; exact List.mem_append_right _ h)
  have hc : Cond.codeWith y bytes maxL ret hh ∈ ws := by rw [hw]; exact List.mem_cons_self
  refine ⟨⟨hrc, hrs, hR.1, hR.2, pay_in ht hG, hc⟩, ht _ (hG _ hc).1, ok _ (by simp [wsV]), ⟨hd.1, hd.2.1⟩, fun sig h => ?_, ok _ (by simp [wsV]), ok _ (by simp [wsV]), ok _ (by simp [wsV])⟩
  have h2 := hd.2.2
  rw [h] at h2
  exact (Option.some.inj h2).symm
theorem vx_runVW {y : MethodName} {bytes cc : ByteArray} {maxL nL mc ms n index : Nat} {ret : Option FieldType} {hh : List (Nat × Nat × Nat × Nat)} {ws : List Cond} {rm : Room} {Pc : Array Value → State → Prop} {Qc : Array Value → State → Outcome → State → Prop} {free : Addr → Prop} {Ts : List Cond} {own C : String} {b : Addr} {As rest : List Value} {g : JFrame}
    (S : CallFix p m c cc nL s args Ts own) (hM : Met l y ws rm Pc Qc mc ms free) (cw : vx_CVW R s args own C index y bytes maxL ret hh ws rm mc ms n) (hp : PreV s H C b Pc As)
    (hg : g.method = m) (hn : As.length = n) (hsize : g.locals.size = nL) (hstack : g.stack = As.reverse ++ .ref b :: rest) (hW : 2 * g.monitorRoom + (rest.map fun v => v.category).sum ≤ 8) (hdg : decode cc g.pc = .ok (.invokevirtual index, 3)) (hf : cells + mc ≤ R.cells ∧ slots + ms ≤ R.slots) :
    va_Run p l e R s m args below meth c H locs cells slots mc ms g rest (Qc (Value.ref b :: As).toArray) free := by
  obtain ⟨⟨hrc, hrs, hfr, hlo, hws, hcw⟩, hcode, hini, hy, hlen, hl, hin, hse⟩ := cw
  have hK : Back l R p e below s args y 3 8 (PreOf R mc ms Pc) (PostOf Qc mc ms free) := va_backW (hh := hh) (bytes := bytes) (maxL := maxL) (ret := ret) hM hp.1 hrc hrs hfr hlo hws hcw (fun a' U hW => word_at hW (Or.inl (by first | rfl | simp [Cond.onTables, Cond.keeps, Cond.steady])) hini)
  obtain ⟨hx, hb, hml, ho, -⟩ := S
  obtain ⟨-, ⟨cellB, hcB, hoB, hclB⟩, hPc⟩ := hp
  intro T hT X
  obtain ⟨v, vm₁, ⟨U', l2, c2, s2⟩, hW₁, X', ⟨g', mk, t, L, e1, e2, hq, h1, hL, h2, h3⟩, st⟩ := vx_callVW X hx (C := C) (hh := hh) (bytes := bytes) (maxL := maxL) (ret := ret) ho hl hin hse hcode hy hK (by rw [hT]; exact hcB) hoB hclB hg (hsize.trans hml.symm) (argsL := As) (rest := rest) (fun sig h => hn.trans (hlen sig h)) hstack hW (by rw [hb]; exact hdg)
    (fun vm₁ hW₁ => ⟨hf.1, hf.2, hPc (T.setVm vm₁) hT hW₁⟩)
  dsimp only [Pt.U, Pt.locs, Pt.cells, Pt.slots] at X' e1 e2 h1 h2 h3 st
  subst h1; subst h2; subst h3
  exact ⟨v, (T.setVm vm₁).calling g' mk (Value.ref b :: As).toArray, t, U', L, hT, X', hL, e1, e2, hq, st⟩
section
variable {y : MethodName} {bytes cc : ByteArray} {maxL nL mc ms n index : Nat} {ret : Option FieldType} {ws : List Cond} {rm : Room} {Pc : Array Value → State → Prop} {Qc : Array Value → State → Outcome → State → Prop} {XC : String → State → State → Prop} {free : Addr → Prop} {Ts : List Cond} {own C : String} {b : Addr} {As rest : List Value} {g : JFrame}
theorem vx_runVX {hh : List (Nat × Nat × Nat × Nat)} (S : CallFix p m c cc nL s args Ts own) (hM : vx_Met l y ws rm Pc Qc XC mc ms free) (cw : vx_CVW R s args own C index y bytes maxL ret hh ws rm mc ms n) (hp : PreV s H C b Pc As)
    (hg : g.method = m) (hn : As.length = n) (hsize : g.locals.size = nL) (hstack : g.stack = As.reverse ++ .ref b :: rest) (hW : 2 * g.monitorRoom + (rest.map fun v => v.category).sum ≤ 8) (hdg : decode cc g.pc = .ok (.invokevirtual index, 3)) (hf : cells + mc ≤ R.cells ∧ slots + ms ≤ R.slots) :
    vx_Run p l e R s m args below meth c H locs cells slots mc ms g rest (Qc (Value.ref b :: As).toArray) XC free := by
  obtain ⟨⟨hrc, hrs, hfr, hlo, hws, hcw⟩, hcode, hini, hy, hlen, hl, hin, hse⟩ := cw
  have hK : vx_Back l R p e below s args y 3 8 (PreOf R mc ms Pc) (PostOf Qc mc ms free) (vx_Post XC mc ms free) := vx_backW (hh := hh) (bytes := bytes) (maxL := maxL) (ret := ret) hM hp.1 hrc hrs hfr hlo hws hcw (fun a' U hW => word_at hW (Or.inl (by first | rfl | simp [Cond.onTables, Cond.keeps, Cond.steady])) hini)
  obtain ⟨hx, hb, hml, ho, -⟩ := S
  obtain ⟨-, ⟨cellB, hcB, hoB, hclB⟩, hPc⟩ := hp
  intro T hT X
  rcases vx_callVX X hx (C := C) (hh := hh) (bytes := bytes) (maxL := maxL) (ret := ret) ho hl hin hse hcode hy hK (by rw [hT]; exact hcB) hoB hclB hg (hsize.trans hml.symm) (argsL := As) (rest := rest) (fun sig h => hn.trans (hlen sig h)) hstack hW (by rw [hb]; exact hdg)
    (fun vm₁ hW₁ => ⟨hf.1, hf.2, hPc (T.setVm vm₁) hT hW₁⟩) with ⟨v, vm₁, ⟨U', l2, c2, s2⟩, hW₁, X', ⟨g', mk, t, L, e1, e2, hq, h1, hL, h2, h3⟩, st⟩ | ⟨q, vm₁, ⟨U', l2, c2, s2⟩, hW₁, X', ⟨g', mk, t, L, E, ce, e1, e2, hq, hce, hcv, hcl, h1, hL, h2, h3⟩, st⟩
  · dsimp only [Pt.U, Pt.locs, Pt.cells, Pt.slots] at X' e1 e2 h1 h2 h3 st
    subst h1; subst h2; subst h3
    exact Or.inl ⟨v, (T.setVm vm₁).calling g' mk (Value.ref b :: As).toArray, t, U', L, hT, X', hL, e1, e2, hq, st⟩
  · dsimp only [Pt.U, Pt.locs, Pt.cells, Pt.slots] at X' e1 e2 h1 h2 h3 st hcl
    subst h1; subst h2; subst h3
    exact Or.inr ⟨q, (T.setVm vm₁).calling g' mk (Value.ref b :: As).toArray, t, U', L, E, ce, hT, X', hL, e1, e2, hq, hce, hcv, vx_cls hW₁ hcl, st⟩
theorem vx_runSX {hh : List (Nat × Nat × Nat × Nat)} (S : CallFix p m c cc nL s args Ts own) (hM : vx_Met l y ws rm Pc Qc XC mc ms free) (cw : vx_CSW R s args own index y bytes maxL ret hh ws rm mc ms n) (hp : PreS s H Pc As)
    (hg : g.method = m) (hn : As.length = n) (hsize : g.locals.size = nL) (hstack : g.stack = As.reverse ++ rest) (hW : 2 * g.monitorRoom + (rest.map fun v => v.category).sum ≤ 8) (hdg : decode cc g.pc = .ok (.invokestatic index, 3)) (hf : cells + mc ≤ R.cells ∧ slots + ms ≤ R.slots) :
    vx_Run p l e R s m args below meth c H locs cells slots mc ms g rest (Qc As.toArray) XC free := by
  obtain ⟨⟨hrc, hrs, hfr, hlo, hws, hcw⟩, hcode, hini, hy, hlen, hl, hstt⟩ := cw
  have hK : vx_Back l R p e below s args y 3 8 (PreOf R mc ms Pc) (PostOf Qc mc ms free) (vx_Post XC mc ms free) := vx_backW (hh := hh) (bytes := bytes) (maxL := maxL) (ret := ret) hM hp.1 hrc hrs hfr hlo hws hcw (fun a' U hW => word_at hW (Or.inl (by first | rfl | simp [Cond.onTables, Cond.keeps, Cond.steady])) hini)
  obtain ⟨hx, hb, hml, ho, -⟩ := S
  intro T hT X
  rcases vx_callSX X hx (hh := hh) (bytes := bytes) (maxL := maxL) (ret := ret) ho hl hstt hini hcode hy hK hg (hsize.trans hml.symm) (argsL := As) (rest := rest) (fun sig h => hn.trans (hlen sig h)) hstack hW (by rw [hb]; exact hdg)
    (fun vm₁ hW₁ => ⟨hf.1, hf.2, hp.2 (T.setVm vm₁) hT hW₁⟩) with ⟨v, vm₁, ⟨U', l2, c2, s2⟩, hW₁, X', ⟨g', mk, t, L, e1, e2, hq, h1, hL, h2, h3⟩, st⟩ | ⟨q, vm₁, ⟨U', l2, c2, s2⟩, hW₁, X', ⟨g', mk, t, L, E, ce, e1, e2, hq, hce, hcv, hcl, h1, hL, h2, h3⟩, st⟩
  · dsimp only [Pt.U, Pt.locs, Pt.cells, Pt.slots] at X' e1 e2 h1 h2 h3 st
    subst h1; subst h2; subst h3
    exact Or.inl ⟨v, (T.setVm vm₁).calling g' mk As.toArray, t, U', L, hT, X', hL, e1, e2, hq, st⟩
  · dsimp only [Pt.U, Pt.locs, Pt.cells, Pt.slots] at X' e1 e2 h1 h2 h3 st hcl
    subst h1; subst h2; subst h3
    exact Or.inr ⟨q, (T.setVm vm₁).calling g' mk As.toArray, t, U', L, E, ce, hT, X', hL, e1, e2, hq, hce, hcv, vx_cls hW₁ hcl, st⟩
end
end VXH
theorem vx_ofWH {l : Launch} {y : MethodName} {ws ws' : List Cond} {rm : Room} {Pc : Array Value → State → Prop} {Qc : Array Value → State → Outcome → State → Prop} {XC : String → State → State → Prop} {mc ms : Nat} {free : Addr → Prop} {cc : ByteArray} {maxL : Nat} {ret : Option FieldType} {hh : List (Nat × Nat × Nat × Nat)}
    (hy : plainName y.cls = true) (hw : ws = Cond.codeWith y cc maxL ret hh :: ws')
    (body : ∀ p e s m args below meth c s₁, BodyLoose p l y (headSpec ws rm) cc maxL ret e s m args below meth c s₁ → c.maxLocals = maxL → Pc args s →
      W p l e (headSpec ws rm).room s m args below meth c s.heap [] 0 0 (vx_MQ below Qc XC args s mc ms free) (entryFrame m args maxL)) : vx_Met l y ws rm Pc Qc XC mc ms free := by
  refine MetFree.of_bodyS (code := cc) (maxLocals := maxL) (ret := ret) hy ?_ ?_
  · intro args s m h hn
    obtain ⟨m9, meth, c, hn9, h1, h2, h3, h4, -, h5, h6, -⟩ := Cond.codeWith_spec (atoms_spec (ws := ws) h _ (by rw [hw]; exact List.mem_cons_self))
    cases hn.symm.trans hn9
    exact ⟨meth, c, h1, h2, h3, h4, h5, h6⟩
  · intro p e s m args below meth c s₁ B hml hP _
    have hh0 : s₁.heap = s.heap := by rw [B.state]; rfl
    obtain ⟨t, a1, o, b1, b2, b3⟩ := body p e s m args below meth c s₁ B hml hP s₁ hh0 (Stand.of_body B)
    exact ⟨t, o, a1, b1, b2, b3⟩
/-! ===== END ===== -/
end
section
/-! numbers of the machine by whole numbers -/
def zI (z : Int) : Int32 := Int32.ofInt z
theorem zI_toInt {a : Int} (h : -2147483648 ≤ a ∧ a ≤ 2147483647) : (zI a).toInt = a := Int32.toInt_ofInt_of_le (by omega) (by omega)
theorem zI_of (x : Int32) : zI x.toInt = x := Int32.ofInt_toInt x
theorem zI_rng (x : Int32) : -2147483648 ≤ x.toInt ∧ x.toInt ≤ 2147483647 := by
  have h1 := Int32.toInt_lt x
  have h2 := Int32.le_toInt x
  omega
theorem zI_add (a b : Int) : zI a + zI b = zI (a + b) := (Int32.ofInt_add a b).symm
theorem zI_sub (a b : Int) : zI a - zI b = zI (a - b) := (Int32.ofInt_sub a b).symm
theorem zI_mul (a b : Int) : zI a * zI b = zI (a * b) := (Int32.ofInt_mul a b).symm
theorem zI_neg (a : Int) : -zI a = zI (-a) := (Int32.ofInt_neg a).symm
theorem zI_lt {a b : Int} (ha : -2147483648 ≤ a ∧ a ≤ 2147483647) (hb : -2147483648 ≤ b ∧ b ≤ 2147483647) : zI a < zI b ↔ a < b := by
  rw [Int32.lt_iff_toInt_lt, zI_toInt ha, zI_toInt hb]
theorem zI_le {a b : Int} (ha : -2147483648 ≤ a ∧ a ≤ 2147483647) (hb : -2147483648 ≤ b ∧ b ≤ 2147483647) : zI a ≤ zI b ↔ a ≤ b := by
  rw [Int32.le_iff_toInt_le, zI_toInt ha, zI_toInt hb]
theorem zI_eq {a b : Int} (ha : -2147483648 ≤ a ∧ a ≤ 2147483647) (hb : -2147483648 ≤ b ∧ b ≤ 2147483647) : zI a = zI b ↔ a = b := by
  rw [← Int32.toInt_inj, zI_toInt ha, zI_toInt hb]
theorem zI_0 : zI 0 = 0 := rfl
theorem zI_nat (n : Nat) : zI (n : Int) = nI n := Int32.ofInt_eq_ofNat
theorem zI_cl {i : Int} (h0 : 0 ≤ i) (h1 : i ≤ 2147483647) : (zI i).toNatClampNeg = i.toNat := by
  show (zI i).toInt.toNat = i.toNat
  rw [zI_toInt ⟨by omega, h1⟩]
theorem zI_in {i : Int} {n : Nat} (h0 : 0 ≤ i) (h : i < n) (hn : n ≤ 2147483647) : vp_in (zI i) n := by
  rw [vp_in_iff, zI_toInt ⟨by omega, by omega⟩]
  exact ⟨h0, h⟩
theorem zI_div {a b : Int} (ha : 0 ≤ a ∧ a ≤ 2147483647) (hb : 0 < b ∧ b ≤ 2147483647) : zI a / zI b = zI (a / b) := by
  obtain ⟨x, rfl⟩ : ∃ x : Nat, a = x := ⟨a.toNat, by omega⟩
  obtain ⟨y, rfl⟩ : ∃ y : Nat, b = y := ⟨b.toNat, by omega⟩
  rw [zI_nat, zI_nat, pk_div (by omega) (by omega) (by omega), ← zI_nat]
  congr 1
theorem zI_ne0 {b : Int} (hb : 0 < b ∧ b ≤ 2147483647) : ¬ zI b = 0 := by
  rw [← zI_0, zI_eq ⟨by omega, by omega⟩ ⟨by omega, by omega⟩]
  omega
theorem zI_shr1 {a : Int} (ha : 0 ≤ a ∧ a ≤ 2147483647) : zI a >>> (zI 1 &&& 31) = zI (a / 2) := by
  obtain ⟨x, rfl⟩ : ∃ x : Nat, a = x := ⟨a.toNat, by omega⟩
  rw [zI_nat, show (zI 1 &&& 31) = 1 by decide, pk_shrN (by omega) 1 1 (by decide), ← zI_nat]
  congr 1
theorem zI_and1 {a : Int} (ha : 0 ≤ a ∧ a ≤ 2147483647) : zI a &&& zI 1 = zI (a % 2) := by
  obtain ⟨x, rfl⟩ : ∃ x : Nat, a = x := ⟨a.toNat, by omega⟩
  rw [zI_nat, pk_andN (by omega) 1 (by decide), ← zI_nat]
  congr 1
/-- an array's contents -/
abbrev zA (F : Int → Int) : Nat → Int32 := fun k => zI (F (k : Int))
def zU (F : Int → Int) (i x : Int) : Int → Int := fun j => if j = i then x else F j
def zR (T : Nat → Int → Int) (w : Nat) (i x : Int) : Nat → Int → Int := fun v j => if v = w ∧ j = i then x else T v j
def zN (F : Nat → Int) (k : Nat) (x : Int) : Nat → Int := fun j => if j = k then x else F j
theorem zU_s (F : Int → Int) (i x : Int) : zU F i x i = x := if_pos rfl
theorem zU_n {F : Int → Int} {i x j : Int} (h : j ≠ i) : zU F i x j = F j := if_neg h
theorem zR_s (T : Nat → Int → Int) (w : Nat) (i x : Int) : zR T w i x w i = x := if_pos ⟨rfl, rfl⟩
theorem zR_n {T : Nat → Int → Int} {w v : Nat} {i x j : Int} (h : v ≠ w ∨ j ≠ i) : zR T w i x v j = T v j := if_neg (fun q => h.elim (fun z => z q.1) (fun z => z q.2))
theorem zN_s (F : Nat → Int) (k : Nat) (x : Int) : zN F k x k = x := if_pos rfl
theorem zN_n {F : Nat → Int} {k j : Nat} {x : Int} (h : j ≠ k) : zN F k x j = F j := if_neg h
theorem zR_row (T : Nat → Int → Int) (w : Nat) (i x : Int) : zR T w i x w = zU (T w) i x := by
  funext j
  unfold zR zU
  simp
theorem zR_off {T : Nat → Int → Int} {w v : Nat} (i x : Int) (h : v ≠ w) : zR T w i x v = T v := by
  funext j
  unfold zR
  simp [h]
theorem zA_at {F : Int → Int} {i : Int} (h0 : 0 ≤ i) (h1 : i ≤ 2147483647) : (zA F) (zI i).toNatClampNeg = zI (F i) := by
  show zI (F ((zI i).toNatClampNeg : Int)) = _
  rw [zI_cl h0 h1, Int.toNat_of_nonneg h0]
theorem zA_up {F : Int → Int} {i x : Int} (h0 : 0 ≤ i) (h1 : i ≤ 2147483647) : upd (zA F) (zI i).toNatClampNeg (zI x) = zA (zU F i x) := by
  funext j
  rw [zI_cl h0 h1]
  unfold upd zU
  by_cases h : j = i.toNat
  · have h2 : (j : Int) = i := by omega
    rw [if_pos h]
    show _ = zI (if (j : Int) = i then x else F j)
    rw [if_pos h2]
  · have h2 : ¬ (j : Int) = i := by omega
    rw [if_neg h]
    show _ = zI (if (j : Int) = i then x else F j)
    rw [if_neg h2]
/-! the classes' numbers, what never changes -/
abbrev zG : Type := va_G × (Nat → ClassId) × Nat
abbrev zT (G : zG) : List (ClassId × FieldType) := [(G.2.1 0, .int), (G.2.1 1, .array .int), (G.2.1 2, .object RX1), (G.2.1 3, .long)]
def nestM : List (String × Nat × MethodName × String) := [(RX2, 17, yX0_init, RX2), (RX2, 43, yX1_init, RX2), (RX1, 117, yX2_signOfKey, RX2), (RX1, 127, yX2_wholeParts, RX2), (RX1, 64, yX2_toneOf, RX2), (RX1, 72, yX2_signAt, RX2), (RX1, 79, yX2_stepAt, RX2), (RX1, 82, yX2_octaveAt, RX2), (RX1, 85, yX2_isPitch, RX2)]
def nestF : List (String × Nat × String × String × String × String) := [(RX1, 55, "ScorePress", "VALUE_TICKS", "[I", RX2), (RX1, 58, "ScorePress", "VALUE_PARTS", "[I", RX2), (RX1, 61, "ScorePress", "VALUE_DOTS", "[I", RX2)]
def statT : List (String × String × List Int) := [("ScorePress", "STEP_TONES", [0, 2, 4, 5, 7, 9, 11]), ("ScorePress", "SHARP_PLACES", [1, 3, 5, 0, 2, 4, 6]), ("ScorePress", "VALUE_PARTS", [1, 1, 1, 2, 2, 2, 4, 4, 4, 8, 8, 8, 16, 16, 32]), ("ScorePress", "VALUE_DOTS", [2, 1, 0, 2, 1, 0, 2, 1, 0, 2, 1, 0, 1, 0, 0]), ("ScorePress", "VALUE_TICKS", [672, 576, 384, 336, 288, 192, 168, 144, 96, 84, 72, 48, 36, 24, 12]), ("ScorePressModel", "TONES", [0, 2, 4, 5, 7, 9, 11]), ("ScorePressModel", "RAISED", [3, 0, 4, 1, 5, 2, 6]), ("ScorePressModel", "PARTS", [1, 1, 1, 2, 2, 2, 4, 4, 4, 8, 8, 8, 16, 16, 32]), ("ScorePressModel", "DOTS", [2, 1, 0, 2, 1, 0, 2, 1, 0, 2, 1, 0, 1, 0, 0])]
/-- a table's content, by its place in statT -/
def tb (j : Nat) (k : Int) : Int := ((statT.getD j ("", "", [])).2.2).getD k.toNat 0
def zlen (j : Nat) : Nat := ((statT.getD j ("", "", [])).2.2).length
def strT : List (Nat × String) := [(73, "no such number of the score"), (46, "no such bar"), (57, "a voice has elements"), (64, "no such key"), (69, "there are 4 voices"), (79, "no such step"), (88, "no such value"), (217, "no such voice"), (101, "no such value or pitch"), (232, "the voice would have more than 200 elements"), (234, "the voice would end behind the bar 99"), (122, "the voice has no elements"), (219, "no such element"), (134, "the element is a rest"), (139, "no such number of an element"), (141, "no such number of a pitch"), (146, "no such number of a voice"), (152, "too far to transpose"), (154, "the key would not be one"), (160, "a pitch would not be one"), (178, "the tick is less than 0"), (186, "no such event"), (188, "no such number of an event"), (195, "no such tick or speed")]
abbrev xIO : String := "java/lang/IndexOutOfBoundsException"
abbrev xIA : String := "java/lang/IllegalArgumentException"
abbrev xIS : String := "java/lang/IllegalStateException"
abbrev xNm : List String := ["java/lang/RuntimeException", "java/lang/Exception"]
/-- the words of a throw that aren't good ones -/
def thrW : List Cond := (vx_atS RX2 75 xIO xNm ++ (vx_atS RX2 48 xIA xNm ++ vx_atS RX2 59 xIS xNm)).filter (fun w => !goodWord w)
theorem thrW_k : ∀ w ∈ thrW, w.keepsFace = true ∧ w.onTables = true := by decide +kernel
theorem thrW_t : ∀ w ∈ thrW, w ∈ lw_tbl := by decide +kernel
theorem thrA_t : ∀ w ∈ vx_atS RX2 75 xIO xNm ++ (vx_atS RX2 48 xIA xNm ++ vx_atS RX2 59 xIS xNm), w ∈ lw_tbl := by decide +kernel
theorem thrW_w {w : Cond} {s U : State} (hw : w ∈ thrW) (hW : s.WarmedH U.vm) (h : va_Nw w s) : va_Nw w U :=
  va_tabs (thrW_k w hw).2 (rfl : (s.setVm U.vm).vm = U.vm) (Cond.before_shiftedFace (State.Shifted.of_warmed hW) w (thrW_k w hw).1 h)
def GK (G : zG) (s : State) : Prop :=
  va_K G.1 vwCl (zT G) s ∧ G.2.2 ≤ s.heap.size ∧ (∀ q ∈ nestM, va_Nw (.methodLinkNest q.1 q.2.1 q.2.2.1 q.2.2.2) s) ∧ (∀ q ∈ nestF, va_Nw (.fieldLinkNest q.1 q.2.1 q.2.2.1 q.2.2.2.1 q.2.2.2.2.1 q.2.2.2.2.2) s) ∧
  (∀ q ∈ statT, ∃ t : Nat, va_Z q.1 q.2.1 "[I" (.ref t) (fun a => G.2.2 ≤ a) s s.heap ∧ va_T .int t q.2.2.length (fun k => .int (zI (q.2.2.getD k 0))) (fun a => G.2.2 ≤ a) s s.heap) ∧
  vx_Zq Bundle.tN "UNASSIGNED_STACK" Bundle.steD (fun a => G.2.2 ≤ a) s s.heap ∧ vx_Zq Bundle.tN "SUPPRESSED_SENTINEL" Bundle.listD (fun a => G.2.2 ≤ a) s s.heap ∧ (∀ q ∈ strT, ∃ a : Nat, vk_R RX2 q.1 q.2 a s) ∧ (∀ w ∈ thrW, va_Nw w s)
theorem GK_next {G : zG} {s U : State} (h : GK G s) (hW : s.WarmedH U.vm) (hs : G.2.2 ≤ U.heap.size) (hk : ∀ a : Nat, a < s.heap.size → ¬ G.2.2 ≤ a → U.heap[a]? = s.heap[a]?) : GK G U := by
  obtain ⟨h1, h2, h3, h4, h5, h6, h7, h8, h9⟩ := h
  refine ⟨h1.moved hW.alike, hs, fun q hq => va_Nw.warmM hW (h3 q hq), fun q hq => va_Nw.warmF hW (h4 q hq), fun q hq => ?_, (h6.moved hW.alike).kept hk, (h7.moved hW.alike).kept hk, fun q hq => ?_, fun w hw => thrW_w hw hW (h9 w hw)⟩
  · obtain ⟨t, a, b⟩ := h5 q hq
    exact ⟨t, (a.moved hW.alike).kept hk, (b.moved hW.alike).kept hk⟩
  · obtain ⟨a, b⟩ := h8 q hq
    exact ⟨a, b.warm hW⟩
theorem GK_blind {G : zG} {U : State} (g : JFrame) (mk : MethodId) (a : Array Value) (h : GK G U) : GK G (U.calling g mk a) :=
  GK_next (U := U.calling g mk a) h (State.WarmedH.refl U) h.2.1 (fun _ _ _ => rfl)
theorem GK_call {G : zG} {s U : State} {A : Nat → Prop} {H : Heap} {locs : List Loc} (h : GK G s) (hS : va_S A s.heap H locs) (hA : ∀ q, A q → G.2.2 ≤ q) (hU : U.heap = H) (hW : s.WarmedH U.vm) : GK G U :=
  GK_next h hW (by rw [hU]; exact Nat.le_trans h.2.1 hS.1) (fun a h1 h2 => by rw [hU]; exact hS.2.1 a h1 (fun q => h2 (hA a q)))
/-! cells by places: N places at the addresses ad, place k holds en k -/
def PP (G : zG) (N : Nat) (ad : Nat → Nat) (en : Nat → va_E) (H : Heap) : Prop := ((∀ i j, i < N → j < N → ad i = ad j → i = j) ∧ ∀ k, k < N → G.2.2 ≤ ad k) ∧ ∀ k, k < N → va_at G.1 vwCl (ad k, en k) H
theorem PP.lt {G : zG} {N : Nat} {ad : Nat → Nat} {en : Nat → va_E} {H : Heap} (h : PP G N ad en H) {k : Nat} (hk : k < N) : ad k < H.size := (h.2 k hk).lt
theorem PP.upd {G : zG} {N : Nat} {ad : Nat → Nat} {en en' : Nat → va_E} {H H1 : Heap} (h : PP G N ad en H) {k : Nat} {e : va_E} (hk : k < N) (he : va_at G.1 vwCl (ad k, e) H1) (ho : ∀ q : Nat, q ≠ ad k → H1[q]? = H[q]?) (h1 : en' k = e) (h2 : ∀ j, j < N → j ≠ k → en' j = en j) : PP G N ad en' H1 := by
  refine ⟨h.1, fun j hj => ?_⟩
  by_cases hjk : j = k
  · subst hjk
    rw [h1]
    exact he
  · rw [h2 j hj hjk]
    exact (h.2 j hj).kept (ho _ (fun q => hjk (h.1.1 j k hj hk q)))
theorem PP.kept {G : zG} {N : Nat} {ad : Nat → Nat} {en : Nat → va_E} {H H1 : Heap} (h : PP G N ad en H) (ho : ∀ k, k < N → H1[ad k]? = H[ad k]?) : PP G N ad en H1 := ⟨h.1, fun k hk => (h.2 k hk).kept (ho k hk)⟩
theorem PP.congr {G : zG} {N : Nat} {ad : Nat → Nat} {en en' : Nat → va_E} {H : Heap} (h : PP G N ad en H) (he : ∀ k, k < N → en' k = en k) : PP G N ad en' H := ⟨h.1, fun k hk => by rw [he k hk]; exact h.2 k hk⟩
theorem P1 {G : zG} {a : Nat} {e : va_E} {H : Heap} (h : va_at G.1 vwCl (a, e) H) : va_P G.1 vwCl [(a, e)] H := fun k q hq => by
  cases k with
  | zero => cases hq; exact h
  | succ k => simp at hq
/-- which cells a method may change: N places, and those that it makes -/
def fA (N : Nat) (ad : Nat → Nat) (sz : Nat) : Nat → Prop := fun q => (∃ k, k < N ∧ q = ad k) ∨ sz ≤ q
theorem fA_in {N : Nat} {ad : Nat → Nat} {sz k : Nat} (h : k < N) : fA N ad sz (ad k) := Or.inl ⟨k, h, rfl⟩
theorem va_at_rec {G : zG} {H : Heap} {s : State} {a ci : Nat} {fs : List Value} {C : String} {T : u_T} {N : Nat} (hK : va_K G.1 vwCl (zT G) s) (h : va_at G.1 vwCl (a, .inr (ci, fs)) H) (hc : vwCl[ci]? = some (C, T, N)) : ∃ cell : Cell, H[a]? = some cell ∧ cell.vm.isStatics = false ∧ s.vm.findClass C = some cell.cls := va_recv hK (P1 h) hc (q0 := 0) rfl
section ZR
variable {p : Program} {l : Launch} {e : Env} {R : Room} {s : State} {m : MethodId} {args : Array Value} {below : List Frame} {meth : Method} {c : Code} {H : Heap} {locs : List Loc} {cells slots : Nat} {Q : State → Prop}
variable {cc : ByteArray} {pc : Nat} {ls : Array Slot} {rest : List Value} {A : Nat → Prop} {H0 : Heap} {a : Nat}
theorem z_iconst (hexec : p.tables.exec = Jvm.exec) (hb : c.code = cc) {n : Int} (hdg : decode cc pc = .ok (.iconst n, 1)) (k : W p l e R s m args below meth c H locs cells slots Q (F0 m (pc + 1) ls (.int (zI n) :: rest))) : W p l e R s m args below meth c H locs cells slots Q (F0 m pc ls rest) := lv_iconst hexec hb hdg rfl k
theorem z_bipush (hexec : p.tables.exec = Jvm.exec) (hb : c.code = cc) {n : Int} (hdg : decode cc pc = .ok (.bipush n, 2)) (hv : (Int8.ofInt n).toInt32 = zI n) (k : W p l e R s m args below meth c H locs cells slots Q (F0 m (pc + 2) ls (.int (zI n) :: rest))) : W p l e R s m args below meth c H locs cells slots Q (F0 m pc ls rest) := lv_bipush hexec hb hdg hv k
theorem z_sipush (hexec : p.tables.exec = Jvm.exec) (hb : c.code = cc) {n : Int} (hdg : decode cc pc = .ok (.sipush n, 3)) (hv : (Int16.ofInt n).toInt32 = zI n) (k : W p l e R s m args below meth c H locs cells slots Q (F0 m (pc + 3) ls (.int (zI n) :: rest))) : W p l e R s m args below meth c H locs cells slots Q (F0 m pc ls rest) := lv_sipush hexec hb hdg hv k
theorem z_iadd (hexec : p.tables.exec = Jvm.exec) (hb : c.code = cc) {x y : Int} (hdg : decode cc pc = .ok (.iadd, 1)) (k : W p l e R s m args below meth c H locs cells slots Q (F0 m (pc + 1) ls (.int (zI (x + y)) :: rest))) : W p l e R s m args below meth c H locs cells slots Q (F0 m pc ls (.int (zI y) :: .int (zI x) :: rest)) := lv_iadd hexec hb hdg (by rw [zI_add]; exact k)
theorem z_isub (hexec : p.tables.exec = Jvm.exec) (hb : c.code = cc) {x y : Int} (hdg : decode cc pc = .ok (.isub, 1)) (k : W p l e R s m args below meth c H locs cells slots Q (F0 m (pc + 1) ls (.int (zI (x - y)) :: rest))) : W p l e R s m args below meth c H locs cells slots Q (F0 m pc ls (.int (zI y) :: .int (zI x) :: rest)) := lv_isub hexec hb hdg (by rw [zI_sub]; exact k)
theorem z_imul (hexec : p.tables.exec = Jvm.exec) (hb : c.code = cc) {x y : Int} (hdg : decode cc pc = .ok (.imul, 1)) (k : W p l e R s m args below meth c H locs cells slots Q (F0 m (pc + 1) ls (.int (zI (x * y)) :: rest))) : W p l e R s m args below meth c H locs cells slots Q (F0 m pc ls (.int (zI y) :: .int (zI x) :: rest)) := lv_imul hexec hb hdg (by rw [zI_mul]; exact k)
theorem z_ineg (hexec : p.tables.exec = Jvm.exec) (hb : c.code = cc) {x : Int} (hdg : decode cc pc = .ok (.ineg, 1)) (k : W p l e R s m args below meth c H locs cells slots Q (F0 m (pc + 1) ls (.int (zI (-x)) :: rest))) : W p l e R s m args below meth c H locs cells slots Q (F0 m pc ls (.int (zI x) :: rest)) := lv_ineg hexec hb hdg (by rw [zI_neg]; exact k)
theorem z_idiv (hexec : p.tables.exec = Jvm.exec) (hb : c.code = cc) {x y : Int} (hdg : decode cc pc = .ok (.idiv, 1)) (hx : 0 ≤ x ∧ x ≤ 2147483647) (hy : 0 < y ∧ y ≤ 2147483647) (k : W p l e R s m args below meth c H locs cells slots Q (F0 m (pc + 1) ls (.int (zI (x / y)) :: rest))) : W p l e R s m args below meth c H locs cells slots Q (F0 m pc ls (.int (zI y) :: .int (zI x) :: rest)) := lv_idiv hexec hb hdg (zI_ne0 hy) (by rw [zI_div hx hy]; exact k)
theorem z_ishr1 (hexec : p.tables.exec = Jvm.exec) (hb : c.code = cc) {x : Int} (hdg : decode cc pc = .ok (.ishr, 1)) (hx : 0 ≤ x ∧ x ≤ 2147483647) (k : W p l e R s m args below meth c H locs cells slots Q (F0 m (pc + 1) ls (.int (zI (x / 2)) :: rest))) : W p l e R s m args below meth c H locs cells slots Q (F0 m pc ls (.int (zI 1) :: .int (zI x) :: rest)) := lv_ishr hexec hb hdg (by rw [zI_shr1 hx]; exact k)
theorem z_iand1 (hexec : p.tables.exec = Jvm.exec) (hb : c.code = cc) {x : Int} (hdg : decode cc pc = .ok (.iand, 1)) (hx : 0 ≤ x ∧ x ≤ 2147483647) (k : W p l e R s m args below meth c H locs cells slots Q (F0 m (pc + 1) ls (.int (zI (x % 2)) :: rest))) : W p l e R s m args below meth c H locs cells slots Q (F0 m pc ls (.int (zI 1) :: .int (zI x) :: rest)) := lv_iand hexec hb hdg (by rw [zI_and1 hx]; exact k)
theorem z_istore_n (hexec : p.tables.exec = Jvm.exec) (hb : c.code = cc) {k : Fin 4} {i nL : Nat} {x : Int32} {lv lv' : List (Nat × Value)} (hdg : decode cc pc = .ok (.istore_n k, 1)) (hi : (k : Nat) = i) (h : lv_has ls nL lv) (hn : i < nL) (hl : (i, Value.int x) :: lv.filter (fun q => !(q.1 == i) && !(q.1 + 1 == i && q.2.category == 2)) = lv') (kk : ∀ ls' : Array Slot, lv_has ls' nL lv' → W p l e R s m args below meth c H locs cells slots Q (F0 m (pc + 1) ls' rest)) : W p l e R s m args below meth c H locs cells slots Q (F0 m pc ls (.int x :: rest)) := lv_istore_n hexec hb hdg hi h hn hl kk
theorem z_iinc (hexec : p.tables.exec = Jvm.exec) (hb : c.code = cc) {i nL k : Nat} {n x : Int} {lv lv' : List (Nat × Value)} (hdg : decode cc pc = .ok (.iinc i n, 3)) (h : lv_has ls nL lv) (hk : lv[k]? = some (i, .int (zI x))) (hn : i < nL) (hl : (i, Value.int (zI (x + n))) :: lv.filter (fun q => !(q.1 == i) && !(q.1 + 1 == i && q.2.category == 2)) = lv') (kk : ∀ ls' : Array Slot, lv_has ls' nL lv' → W p l e R s m args below meth c H locs cells slots Q (F0 m (pc + 3) ls' rest)) : W p l e R s m args below meth c H locs cells slots Q (F0 m pc ls rest) := lv_iinc hexec hb hdg h hk (zI_add x n) hn hl kk
theorem z_icmp_eq (hexec : p.tables.exec = Jvm.exec) (hb : c.code = cc) {a b off : Int} {tgt : Nat} (hdg : decode cc pc = .ok (.if_icmp .eq off, 3)) (ht : (pc : Int) + off = (tgt : Int)) (ha9 : -2147483648 ≤ a ∧ a ≤ 2147483647) (hb9 : -2147483648 ≤ b ∧ b ≤ 2147483647) (kt : a = b → W p l e R s m args below meth c H locs cells slots Q (F0 m tgt ls rest)) (kf : ¬ a = b → W p l e R s m args below meth c H locs cells slots Q (F0 m (pc + 3) ls rest)) : W p l e R s m args below meth c H locs cells slots Q (F0 m pc ls (.int (zI b) :: .int (zI a) :: rest)) := lv_icmp_eq hexec hb hdg ht (fun h => kt ((zI_eq ha9 hb9).mp h)) (fun h => kf (fun q => h ((zI_eq ha9 hb9).mpr q)))
theorem z_icmp_ne (hexec : p.tables.exec = Jvm.exec) (hb : c.code = cc) {a b off : Int} {tgt : Nat} (hdg : decode cc pc = .ok (.if_icmp .ne off, 3)) (ht : (pc : Int) + off = (tgt : Int)) (ha9 : -2147483648 ≤ a ∧ a ≤ 2147483647) (hb9 : -2147483648 ≤ b ∧ b ≤ 2147483647) (kt : ¬ a = b → W p l e R s m args below meth c H locs cells slots Q (F0 m tgt ls rest)) (kf : a = b → W p l e R s m args below meth c H locs cells slots Q (F0 m (pc + 3) ls rest)) : W p l e R s m args below meth c H locs cells slots Q (F0 m pc ls (.int (zI b) :: .int (zI a) :: rest)) := lv_icmp_ne hexec hb hdg ht (fun h => kt (fun q => h ((zI_eq ha9 hb9).mpr q))) (fun h => kf ((zI_eq ha9 hb9).mp h))
theorem z_icmp_lt (hexec : p.tables.exec = Jvm.exec) (hb : c.code = cc) {a b off : Int} {tgt : Nat} (hdg : decode cc pc = .ok (.if_icmp .lt off, 3)) (ht : (pc : Int) + off = (tgt : Int)) (ha9 : -2147483648 ≤ a ∧ a ≤ 2147483647) (hb9 : -2147483648 ≤ b ∧ b ≤ 2147483647) (kt : a < b → W p l e R s m args below meth c H locs cells slots Q (F0 m tgt ls rest)) (kf : ¬ a < b → W p l e R s m args below meth c H locs cells slots Q (F0 m (pc + 3) ls rest)) : W p l e R s m args below meth c H locs cells slots Q (F0 m pc ls (.int (zI b) :: .int (zI a) :: rest)) := lv_icmp_lt hexec hb hdg ht (fun h => kt ((zI_lt ha9 hb9).mp h)) (fun h => kf (fun q => h ((zI_lt ha9 hb9).mpr q)))
theorem z_icmp_ge (hexec : p.tables.exec = Jvm.exec) (hb : c.code = cc) {a b off : Int} {tgt : Nat} (hdg : decode cc pc = .ok (.if_icmp .ge off, 3)) (ht : (pc : Int) + off = (tgt : Int)) (ha9 : -2147483648 ≤ a ∧ a ≤ 2147483647) (hb9 : -2147483648 ≤ b ∧ b ≤ 2147483647) (kt : b ≤ a → W p l e R s m args below meth c H locs cells slots Q (F0 m tgt ls rest)) (kf : ¬ b ≤ a → W p l e R s m args below meth c H locs cells slots Q (F0 m (pc + 3) ls rest)) : W p l e R s m args below meth c H locs cells slots Q (F0 m pc ls (.int (zI b) :: .int (zI a) :: rest)) := lv_icmp_ge hexec hb hdg ht (fun h => kt ((zI_le hb9 ha9).mp h)) (fun h => kf (fun q => h ((zI_le hb9 ha9).mpr q)))
theorem z_icmp_gt (hexec : p.tables.exec = Jvm.exec) (hb : c.code = cc) {a b off : Int} {tgt : Nat} (hdg : decode cc pc = .ok (.if_icmp .gt off, 3)) (ht : (pc : Int) + off = (tgt : Int)) (ha9 : -2147483648 ≤ a ∧ a ≤ 2147483647) (hb9 : -2147483648 ≤ b ∧ b ≤ 2147483647) (kt : b < a → W p l e R s m args below meth c H locs cells slots Q (F0 m tgt ls rest)) (kf : ¬ b < a → W p l e R s m args below meth c H locs cells slots Q (F0 m (pc + 3) ls rest)) : W p l e R s m args below meth c H locs cells slots Q (F0 m pc ls (.int (zI b) :: .int (zI a) :: rest)) := lv_icmp_gt hexec hb hdg ht (fun h => kt ((zI_lt hb9 ha9).mp h)) (fun h => kf (fun q => h ((zI_lt hb9 ha9).mpr q)))
theorem z_icmp_le (hexec : p.tables.exec = Jvm.exec) (hb : c.code = cc) {a b off : Int} {tgt : Nat} (hdg : decode cc pc = .ok (.if_icmp .le off, 3)) (ht : (pc : Int) + off = (tgt : Int)) (ha9 : -2147483648 ≤ a ∧ a ≤ 2147483647) (hb9 : -2147483648 ≤ b ∧ b ≤ 2147483647) (kt : a ≤ b → W p l e R s m args below meth c H locs cells slots Q (F0 m tgt ls rest)) (kf : ¬ a ≤ b → W p l e R s m args below meth c H locs cells slots Q (F0 m (pc + 3) ls rest)) : W p l e R s m args below meth c H locs cells slots Q (F0 m pc ls (.int (zI b) :: .int (zI a) :: rest)) := lv_icmp_le hexec hb hdg ht (fun h => kt ((zI_le ha9 hb9).mp h)) (fun h => kf (fun q => h ((zI_le ha9 hb9).mpr q)))
theorem z_if_eq (hexec : p.tables.exec = Jvm.exec) (hb : c.code = cc) {a off : Int} {tgt : Nat} (hdg : decode cc pc = .ok (.ifCond .eq off, 3)) (ht : (pc : Int) + off = (tgt : Int)) (ha9 : -2147483648 ≤ a ∧ a ≤ 2147483647) (kt : a = 0 → W p l e R s m args below meth c H locs cells slots Q (F0 m tgt ls rest)) (kf : ¬ a = 0 → W p l e R s m args below meth c H locs cells slots Q (F0 m (pc + 3) ls rest)) : W p l e R s m args below meth c H locs cells slots Q (F0 m pc ls (.int (zI a) :: rest)) := lv_if_eq hexec hb hdg ht (fun h => kt ((zI_eq (a := a) (b := 0) ha9 ⟨by decide, by decide⟩).mp h)) (fun h => kf (fun q => h ((zI_eq (a := a) (b := 0) ha9 ⟨by decide, by decide⟩).mpr q)))
theorem z_if_ne (hexec : p.tables.exec = Jvm.exec) (hb : c.code = cc) {a off : Int} {tgt : Nat} (hdg : decode cc pc = .ok (.ifCond .ne off, 3)) (ht : (pc : Int) + off = (tgt : Int)) (ha9 : -2147483648 ≤ a ∧ a ≤ 2147483647) (kt : ¬ a = 0 → W p l e R s m args below meth c H locs cells slots Q (F0 m tgt ls rest)) (kf : a = 0 → W p l e R s m args below meth c H locs cells slots Q (F0 m (pc + 3) ls rest)) : W p l e R s m args below meth c H locs cells slots Q (F0 m pc ls (.int (zI a) :: rest)) := lv_if_ne hexec hb hdg ht (fun h => kt (fun q => h ((zI_eq (a := a) (b := 0) ha9 ⟨by decide, by decide⟩).mpr q))) (fun h => kf ((zI_eq (a := a) (b := 0) ha9 ⟨by decide, by decide⟩).mp h))
theorem z_if_lt (hexec : p.tables.exec = Jvm.exec) (hb : c.code = cc) {a off : Int} {tgt : Nat} (hdg : decode cc pc = .ok (.ifCond .lt off, 3)) (ht : (pc : Int) + off = (tgt : Int)) (ha9 : -2147483648 ≤ a ∧ a ≤ 2147483647) (kt : a < 0 → W p l e R s m args below meth c H locs cells slots Q (F0 m tgt ls rest)) (kf : ¬ a < 0 → W p l e R s m args below meth c H locs cells slots Q (F0 m (pc + 3) ls rest)) : W p l e R s m args below meth c H locs cells slots Q (F0 m pc ls (.int (zI a) :: rest)) := lv_if_lt hexec hb hdg ht (fun h => kt ((zI_lt (a := a) (b := 0) ha9 ⟨by decide, by decide⟩).mp h)) (fun h => kf (fun q => h ((zI_lt (a := a) (b := 0) ha9 ⟨by decide, by decide⟩).mpr q)))
theorem z_if_ge (hexec : p.tables.exec = Jvm.exec) (hb : c.code = cc) {a off : Int} {tgt : Nat} (hdg : decode cc pc = .ok (.ifCond .ge off, 3)) (ht : (pc : Int) + off = (tgt : Int)) (ha9 : -2147483648 ≤ a ∧ a ≤ 2147483647) (kt : 0 ≤ a → W p l e R s m args below meth c H locs cells slots Q (F0 m tgt ls rest)) (kf : ¬ 0 ≤ a → W p l e R s m args below meth c H locs cells slots Q (F0 m (pc + 3) ls rest)) : W p l e R s m args below meth c H locs cells slots Q (F0 m pc ls (.int (zI a) :: rest)) := lv_if_ge hexec hb hdg ht (fun h => kt ((zI_le (a := 0) (b := a) ⟨by decide, by decide⟩ ha9).mp h)) (fun h => kf (fun q => h ((zI_le (a := 0) (b := a) ⟨by decide, by decide⟩ ha9).mpr q)))
theorem z_if_gt (hexec : p.tables.exec = Jvm.exec) (hb : c.code = cc) {a off : Int} {tgt : Nat} (hdg : decode cc pc = .ok (.ifCond .gt off, 3)) (ht : (pc : Int) + off = (tgt : Int)) (ha9 : -2147483648 ≤ a ∧ a ≤ 2147483647) (kt : 0 < a → W p l e R s m args below meth c H locs cells slots Q (F0 m tgt ls rest)) (kf : ¬ 0 < a → W p l e R s m args below meth c H locs cells slots Q (F0 m (pc + 3) ls rest)) : W p l e R s m args below meth c H locs cells slots Q (F0 m pc ls (.int (zI a) :: rest)) := lv_if_gt hexec hb hdg ht (fun h => kt ((zI_lt (a := 0) (b := a) ⟨by decide, by decide⟩ ha9).mp h)) (fun h => kf (fun q => h ((zI_lt (a := 0) (b := a) ⟨by decide, by decide⟩ ha9).mpr q)))
theorem z_if_le (hexec : p.tables.exec = Jvm.exec) (hb : c.code = cc) {a off : Int} {tgt : Nat} (hdg : decode cc pc = .ok (.ifCond .le off, 3)) (ht : (pc : Int) + off = (tgt : Int)) (ha9 : -2147483648 ≤ a ∧ a ≤ 2147483647) (kt : a ≤ 0 → W p l e R s m args below meth c H locs cells slots Q (F0 m tgt ls rest)) (kf : ¬ a ≤ 0 → W p l e R s m args below meth c H locs cells slots Q (F0 m (pc + 3) ls rest)) : W p l e R s m args below meth c H locs cells slots Q (F0 m pc ls (.int (zI a) :: rest)) := lv_if_le hexec hb hdg ht (fun h => kt ((zI_le (a := a) (b := 0) ha9 ⟨by decide, by decide⟩).mp h)) (fun h => kf (fun q => h ((zI_le (a := a) (b := 0) ha9 ⟨by decide, by decide⟩).mpr q)))
theorem z_ald (hexec : p.tables.exec = Jvm.exec) (hb : c.code = cc) {G : zG} (hK : va_K G.1 vwCl (zT G) s) {n : Nat} {F : Int → Int} {i : Int} (hc : va_at G.1 vwCl (a, .inl (G.2.1 0, n, .inl (zA F))) H) (h0 : 0 ≤ i ∧ i < n) (hn : n ≤ 2147483647) (hdg : decode cc pc = .ok (.iaload, 1))
    (k : W p l e R s m args below meth c H locs cells slots Q (F0 m (pc + 1) ls (.int (zI (F i)) :: rest))) : W p l e R s m args below meth c H locs cells slots Q (F0 m pc ls (.int (zI i) :: .ref a :: rest)) :=
  va_iald hexec hb hK (P1 hc) 0 0 rfl rfl (zI_in h0.1 h0.2 hn) hdg (by rw [zA_at h0.1 (by omega)]; exact k)
theorem z_ast (hexec : p.tables.exec = Jvm.exec) (hb : c.code = cc) {G : zG} (hK : va_K G.1 vwCl (zT G) s) (hS : va_S A H0 H locs) (hA : A a) {n : Nat} {F : Int → Int} {i x : Int} (hc : va_at G.1 vwCl (a, .inl (G.2.1 0, n, .inl (zA F))) H) (h0 : 0 ≤ i ∧ i < n) (hn : n ≤ 2147483647) (hdg : decode cc pc = .ok (.iastore, 1))
    (k : ∀ (H1 : Heap) (locs1 : List Loc), va_at G.1 vwCl (a, .inl (G.2.1 0, n, .inl (zA (zU F i x)))) H1 → H1.size = H.size → (∀ q : Nat, q ≠ a → H1[q]? = H[q]?) → va_S A H0 H1 locs1 → W p l e R s m args below meth c H1 locs1 cells slots Q (F0 m (pc + 1) ls rest)) : W p l e R s m args below meth c H locs cells slots Q (F0 m pc ls (.int (zI x) :: .int (zI i) :: .ref a :: rest)) := by
  have hin := zI_in h0.1 h0.2 hn
  refine W.iast (cell := vp_cell (G.2.1 0) (n, .inl (zA F))) hexec hb hc ((hK.2 0 _ rfl).1 n (fun j => .int (zA F j))) (fun q => by cases q) (by show ¬ (_ < 0 ∨ (arrV _ _ _).slots.size ≤ _); rw [arrV_size]; exact hin) rfl rfl hdg fun H' e1 e2 e3 => k H' _ ?_ e2 e3 (hS.put e2 e3 hA)
  show H'[a]? = some (vp_cell (G.2.1 0) (n, .inl (zA (zU F i x))))
  rw [e1, vp_cell_i, vp_cell_i, arrV_store, ← zA_up h0.1 (by omega)]
  refine congrArg (fun f => some (arrV (G.2.1 0) n f)) (funext fun j => ?_)
  unfold updV upd
  split <;> rfl
theorem z_aldr (hexec : p.tables.exec = Jvm.exec) (hb : c.code = cc) {G : zG} (hK : va_K G.1 vwCl (zT G) s) {n t0 : Nat} {ty : FieldType} (ht : (zT G)[t0]? = some (G.2.1 t0, ty)) (hr : ty.isReference = true) {f : Nat → Option Nat} {i : Int} (hc : va_at G.1 vwCl (a, .inl (G.2.1 t0, n, .inr (.inr (.inr (.inr f))))) H) (h0 : 0 ≤ i ∧ i < n) (hn : n ≤ 2147483647) {q : Nat} (hq : f i.toNat = some q) (hdg : decode cc pc = .ok (.aaload, 1))
    (k : W p l e R s m args below meth c H locs cells slots Q (F0 m (pc + 1) ls (.ref q :: rest))) : W p l e R s m args below meth c H locs cells slots Q (F0 m pc ls (.int (zI i) :: .ref a :: rest)) := by
  have hin := zI_in h0.1 h0.2 hn
  have hcl := zI_cl h0.1 (by omega : i ≤ 2147483647)
  have hlt : i.toNat < n := by omega
  refine W.aald (v := .ref q) (ty := ty) (cell := vp_cell (G.2.1 t0) (n, .inr (.inr (.inr (.inr f))))) hexec hb hc ((hK.2 t0 _ ht).1 n (fun j => va_rf (f j))) hr (fun q => by cases q) (by show ¬ (_ < 0 ∨ (arrV _ _ _).slots.size ≤ _); rw [arrV_size]; exact hin) ?_ rfl rfl hdg k
  rw [hcl]
  show (arrV _ _ _).slots[_]? = _
  rw [arrV_read _ _ hlt, hq]
  rfl
theorem z_alen (hexec : p.tables.exec = Jvm.exec) (hb : c.code = cc) {G : zG} (hK : va_K G.1 vwCl (zT G) s) {n : Nat} {F : Int → Int} (hc : va_at G.1 vwCl (a, .inl (G.2.1 0, n, .inl (zA F))) H) (hdg : decode cc pc = .ok (.arraylength, 1))
    (k : W p l e R s m args below meth c H locs cells slots Q (F0 m (pc + 1) ls (.int (zI (n : Int)) :: rest))) : W p l e R s m args below meth c H locs cells slots Q (F0 m pc ls (.ref a :: rest)) :=
  va_alen hexec hb hK (P1 hc) 0 0 rfl rfl (v := zI (n : Int)) (zI_nat n).symm hdg k
theorem z_get (hexec : p.tables.exec = Jvm.exec) (hb : c.code = cc) {G : zG} (hK : va_K G.1 vwCl (zT G) s) (hts : ∀ w ∈ lw_all, w.before args s = true) {own C : String} {T : u_T} {N ci index : Nat} (hin : ∀ w ∈ u_ws C T N, w ∈ lw_all) (hown : s.vm.findClass own = some m.cls) {fs : List Value} (hc : va_at G.1 vwCl (a, .inr (ci, fs)) H) (hci : vwCl[ci]? = some (C, T, N)) (k : Nat) (hk : k < N) (hlink : Cond.fieldLink own index (T k).1 (T k).2.1 (T k).2.2.1 ∈ lw_all) {v : Value} (hv : fs[k]? = some v) (hdg : decode cc pc = .ok (.getfield index, 3))
    (kk : W p l e R s m args below meth c H locs cells slots Q (F0 m (pc + 3) ls (v :: rest))) : W p l e R s m args below meth c H locs cells slots Q (F0 m pc ls (.ref a :: rest)) :=
  va_get (D := G.1) (ci := ci) (v := v) (C := C) (T := T) (N := N) hexec hb hts hin hown hK (P1 hc) 0 rfl hci k hk (hts _ hlink) (fun _ h9 => h9) hv hdg kk
theorem z_put (hexec : p.tables.exec = Jvm.exec) (hb : c.code = cc) {G : zG} (hK : va_K G.1 vwCl (zT G) s) (hts : ∀ w ∈ lw_all, w.before args s = true) {own C : String} {T : u_T} {N ci index : Nat} (hin : ∀ w ∈ u_ws C T N, w ∈ lw_all) (ty0 : Nat → FieldType) (hty : ∀ k, k < N → parseFieldDescriptor (T k).2.2.1 = some (ty0 k)) (hnm : ∀ a, a < N → ∀ b, b < N → a ≠ b → (T a).2.1 ≠ (T b).2.1) (hown : s.vm.findClass own = some m.cls) (hS0 : va_S A H0 H locs) (hA : A a) {fs : List Value} (he : va_at G.1 vwCl (a, .inr (ci, fs)) H) (hc : vwCl[ci]? = some (C, T, N)) (k : Nat) (hk : k < N) (hlink : Cond.fieldLink own index (T k).1 (T k).2.1 (T k).2.2.1 ∈ lw_all) (hfin : (T k).2.2.2 = false) {v : Value} (hn : narrow (ty0 k) v = v) (hfit : fits (ty0 k) v = true) (hl : k < fs.length)
    (hdg : decode cc pc = .ok (.putfield index, 3)) (kk : ∀ (H1 : Heap) (locs1 : List Loc), va_at G.1 vwCl (a, .inr (ci, fs.set k v)) H1 → H1.size = H.size → (∀ q : Nat, q ≠ a → H1[q]? = H[q]?) → va_S A H0 H1 locs1 → W p l e R s m args below meth c H1 locs1 cells slots Q (F0 m (pc + 3) ls rest)) : W p l e R s m args below meth c H locs cells slots Q (F0 m pc ls (v :: .ref a :: rest)) := by
  have hap := va_apart (own := own) hts hin ty0 hty hnm hK hc
  obtain ⟨r, h1, cell, q1, q2, q3, q4⟩ := he
  have hr : r = (C, T, N) := Option.some.inj (h1.symm.trans hc)
  subst hr
  obtain ⟨hS, hfc, kC, hkC, hkind⟩ := hK.1 ci _ hc
  obtain ⟨cf, kf, fi, f, hi, hsl⟩ := hS k hk
  have hlay := hts _ (hin _ (u_in_lay hk))
  unfold u_lay at hlay
  rw [if_neg (by rw [hfin]; decide)] at hlay
  have hst := (u_facts hfc hkC (u_lays hts hin hk) hi).1
  have h6 := u_store hfc hkC hkind hlay hi (hty k hk) hn hfit
  refine W.putK hexec hb (f := f) ⟨hown, hts _ hlink, ⟨_, _, _, hi⟩, hst⟩ (by rw [q2]; exact h6) q1 q3 (by rw [hsl]; exact k2_hasslot (q4 k hk)) rfl rfl hdg fun H' e1 e2 e3 => ?_
  rw [hsl] at e1 ⊢
  exact kk H' _ ⟨_, hc, t_OB.to (V := updV (vp_V fs) k v) ⟨_, e1, q2, q3, t_set q4 hap hk v⟩ (fun j _ => vp_updV_set hl v j)⟩ e2 e3 (hS0.put e2 e3 hA)
/-- a table, and its places -/
theorem z_gets (hexec : p.tables.exec = Jvm.exec) (hb : c.code = cc) {G : zG} (hG : GK G s) (hts : ∀ w ∈ lw_all, w.before args s = true) (hS : va_S A s.heap H locs) (hA : ∀ q, A q → G.2.2 ≤ q) {own C n : String} {vs : List Int} {index : Nat} (hj : (C, n, vs) ∈ statT) (hown : s.vm.findClass own = some m.cls) (hlink : Cond.fieldLink own index C n "[I" ∈ lw_all) (hdg : decode cc pc = .ok (.getstatic index, 3))
    (k : ∀ t : Nat, va_T .int t vs.length (fun k => .int (zI (vs.getD k 0))) A s s.heap → W p l e R s m args below meth c H locs cells slots Q (F0 m (pc + 3) ls (.ref t :: rest))) : W p l e R s m args below meth c H locs cells slots Q (F0 m pc ls rest) := by
  obtain ⟨t, h1, h2⟩ := hG.2.2.2.2.1 _ hj
  exact va_gets hexec hb (h1.narrow hA) hS hown (hts _ hlink) (fun _ h => h) hdg (k t (h2.narrow hA))
theorem z_getsN (hexec : p.tables.exec = Jvm.exec) (hb : c.code = cc) {G : zG} (hG : GK G s) (hS : va_S A s.heap H locs) (hA : ∀ q, A q → G.2.2 ≤ q) {own C n host : String} {vs : List Int} {index : Nat} (hj : (C, n, vs) ∈ statT) (hown : s.vm.findClass own = some m.cls) (hlink : (own, index, C, n, "[I", host) ∈ nestF) (hdg : decode cc pc = .ok (.getstatic index, 3))
    (k : ∀ t : Nat, va_T .int t vs.length (fun k => .int (zI (vs.getD k 0))) A s s.heap → W p l e R s m args below meth c H locs cells slots Q (F0 m (pc + 3) ls (.ref t :: rest))) : W p l e R s m args below meth c H locs cells slots Q (F0 m pc ls rest) := by
  obtain ⟨t, h1, h2⟩ := hG.2.2.2.2.1 _ hj
  exact va_getsN hexec hb (h1.narrow hA) hS hown (va_Nw.use rfl (hG.2.2.2.1 _ hlink)) (fun _ h => h) hdg (k t (h2.narrow hA))
theorem z_tld (hexec : p.tables.exec = Jvm.exec) (hb : c.code = cc) {t : Nat} {vs : List Int} (hT : va_T .int t vs.length (fun k => .int (zI (vs.getD k 0))) A s s.heap) (hS : va_S A s.heap H locs) {i : Int} (h0 : 0 ≤ i ∧ i < vs.length) (hn : vs.length ≤ 2147483647) (hdg : decode cc pc = .ok (.iaload, 1))
    (k : W p l e R s m args below meth c H locs cells slots Q (F0 m (pc + 1) ls (.int (zI (vs.getD i.toNat 0)) :: rest))) : W p l e R s m args below meth c H locs cells slots Q (F0 m pc ls (.int (zI i) :: .ref t :: rest)) :=
  va_ti hexec hb hT hS (zI_in h0.1 h0.2 hn) (v := .int (zI (vs.getD i.toNat 0))) (by rw [zI_cl h0.1 (by omega)]) hdg k
theorem z_tlen (hexec : p.tables.exec = Jvm.exec) (hb : c.code = cc) {t : Nat} {vs : List Int} (hT : va_T .int t vs.length (fun k => .int (zI (vs.getD k 0))) A s s.heap) (hS : va_S A s.heap H locs) {n : Int} (hn : (vs.length : Int) = n) (hdg : decode cc pc = .ok (.arraylength, 1))
    (k : W p l e R s m args below meth c H locs cells slots Q (F0 m (pc + 1) ls (.int (zI n) :: rest))) : W p l e R s m args below meth c H locs cells slots Q (F0 m pc ls (.ref t :: rest)) :=
  va_tlen hexec hb hT hS (v := zI n) (by rw [← hn]; exact (zI_nat _).symm) hdg k
end ZR
end
section
/-! the pictures: a voice, the score, the model -/
abbrev vF (ad : Nat → Nat) (F : Nat → Int) : List Value := [.ref (ad 1), .ref (ad 11), .ref (ad 15), .ref (ad 19), .ref (ad 20), .int (zI (F 0)), .int (zI (F 1)), .int (zI (F 2)), .int (zI (F 3)), .int (zI (F 4)), .int (zI (F 5)), .int (zI (F 6))]
/-- the places of a voice: T told, P pitches, S sounds, A heldBars and heldSigns, F count end soundCount beamCount shownCount greatestTone leastTone -/
def vE (G : zG) (ad : Nat → Nat) (T P S A : Nat → Int → Int) (F : Nat → Int) (k : Nat) : va_E :=
  if k = 0 then .inr (1, vF ad F)
  else if k = 1 then .inl (G.2.1 1, 9, .inr (.inr (.inr (.inr (fun j => some (ad (2 + j)))))))
  else if k < 11 then .inl (G.2.1 0, 200, .inl (zA (T (k - 2))))
  else if k = 11 then .inl (G.2.1 1, 3, .inr (.inr (.inr (.inr (fun j => some (ad (12 + j)))))))
  else if k < 15 then .inl (G.2.1 0, 200, .inl (zA (P (k - 12))))
  else if k = 15 then .inl (G.2.1 1, 3, .inr (.inr (.inr (.inr (fun j => some (ad (16 + j)))))))
  else if k < 19 then .inl (G.2.1 0, 200, .inl (zA (S (k - 16))))
  else .inl (G.2.1 0, 63, .inl (zA (A (k - 19))))
def VP (G : zG) (ad : Nat → Nat) (T P S A : Nat → Int → Int) (F : Nat → Int) (H : Heap) : Prop := PP G 21 ad (vE G ad T P S A F) H
section VEL
variable (G : zG) (ad : Nat → Nat) (T P S A : Nat → Int → Int) (F : Nat → Int)
theorem vE_T {w : Nat} (h : w < 9) : vE G ad T P S A F (2 + w) = .inl (G.2.1 0, 200, .inl (zA (T w))) := by
  unfold vE
  rw [if_neg (by omega), if_neg (by omega), if_pos (by omega), Nat.add_sub_cancel_left]
theorem vE_P {w : Nat} (h : w < 3) : vE G ad T P S A F (12 + w) = .inl (G.2.1 0, 200, .inl (zA (P w))) := by
  unfold vE
  rw [if_neg (by omega), if_neg (by omega), if_neg (by omega), if_neg (by omega), if_pos (by omega), Nat.add_sub_cancel_left]
theorem vE_S {w : Nat} (h : w < 3) : vE G ad T P S A F (16 + w) = .inl (G.2.1 0, 200, .inl (zA (S w))) := by
  unfold vE
  rw [if_neg (by omega), if_neg (by omega), if_neg (by omega), if_neg (by omega), if_neg (by omega), if_neg (by omega), if_pos (by omega), Nat.add_sub_cancel_left]
theorem vE_A {w : Nat} (h : w < 2) : vE G ad T P S A F (19 + w) = .inl (G.2.1 0, 63, .inl (zA (A w))) := by
  unfold vE
  rw [if_neg (by omega), if_neg (by omega), if_neg (by omega), if_neg (by omega), if_neg (by omega), if_neg (by omega), if_neg (by omega), Nat.add_sub_cancel_left]
theorem vE_uT {w : Nat} (h : w < 9) (i x : Int) (j : Nat) (hj : j ≠ 2 + w) : vE G ad (zR T w i x) P S A F j = vE G ad T P S A F j := by
  unfold vE
  split
  · rfl
  · split
    · rfl
    · split
      · rw [zR_off i x (by omega)]
      · rfl
theorem vE_uP {w : Nat} (h : w < 3) (i x : Int) (j : Nat) (hj : j ≠ 12 + w) : vE G ad T (zR P w i x) S A F j = vE G ad T P S A F j := by
  unfold vE
  repeat' split
  all_goals first | rfl | rw [zR_off i x (by omega)]
theorem vE_uS {w : Nat} (h : w < 3) (i x : Int) (j : Nat) (hj : j ≠ 16 + w) : vE G ad T P (zR S w i x) A F j = vE G ad T P S A F j := by
  unfold vE
  repeat' split
  all_goals first | rfl | rw [zR_off i x (by omega)]
theorem vE_uA {w : Nat} (h : w < 2) (i x : Int) (j : Nat) (hj : j < 21) (hj2 : j ≠ 19 + w) : vE G ad T P S (zR A w i x) F j = vE G ad T P S A F j := by
  unfold vE
  repeat' split
  all_goals first | rfl | rw [zR_off i x (by omega)]
theorem vE_uF (F' : Nat → Int) (j : Nat) (hj : j ≠ 0) : vE G ad T P S A F' j = vE G ad T P S A F j := by
  unfold vE
  rw [if_neg hj, if_neg hj]
theorem vF_set (ad : Nat → Nat) (F : Nat → Int) (x : Int) : ∀ j, j < 7 → (vF ad F).set (5 + j) (.int (zI x)) = vF ad (zN F j x) := by
  intro j hj
  rcases (by omega : j = 0 ∨ j = 1 ∨ j = 2 ∨ j = 3 ∨ j = 4 ∨ j = 5 ∨ j = 6) with h | h | h | h | h | h | h <;> subst h <;> rfl
theorem vF_ty : ∀ j, j < 7 → (TX1 (5 + j)).2.2.2 = false ∧ tyX1 (5 + j) = .int := by decide +kernel
end VEL
theorem VP.rec {G : zG} {s : State} {ad : Nat → Nat} {T P S A : Nat → Int → Int} {F : Nat → Int} {H : Heap} (hK : va_K G.1 vwCl (zT G) s) (h : VP G ad T P S A F H) : ∃ cell : Cell, H[ad 0]? = some cell ∧ cell.vm.isStatics = false ∧ s.vm.findClass RX1 = some cell.cls := va_at_rec hK (h.2 0 (by decide)) (C := RX1) (T := TX1) (N := 12) rfl
section ZV
variable {p : Program} {l : Launch} {e : Env} {R : Room} {s : State} {m : MethodId} {args : Array Value} {below : List Frame} {meth : Method} {c : Code} {H : Heap} {locs : List Loc} {cells slots : Nat} {Q : State → Prop}
variable {cc : ByteArray} {pc : Nat} {ls : Array Slot} {rest : List Value} {D : Nat → Prop} {H0 : Heap}
variable {G : zG} {ad : Nat → Nat} {T P S A : Nat → Int → Int} {F : Nat → Int}
theorem zv_get (hexec : p.tables.exec = Jvm.exec) (hb : c.code = cc) (hK : va_K G.1 vwCl (zT G) s) (hts : ∀ w ∈ lw_all, w.before args s = true) {own : String} {index : Nat} (hown : s.vm.findClass own = some m.cls) (hP : VP G ad T P S A F H) (k : Nat) (hk : k < 12) (hlink : Cond.fieldLink own index (TX1 k).1 (TX1 k).2.1 (TX1 k).2.2.1 ∈ lw_all) {v : Value} (hv : (vF ad F)[k]? = some v) (hdg : decode cc pc = .ok (.getfield index, 3))
    (kk : W p l e R s m args below meth c H locs cells slots Q (F0 m (pc + 3) ls (v :: rest))) : W p l e R s m args below meth c H locs cells slots Q (F0 m pc ls (.ref (ad 0) :: rest)) :=
  z_get (C := RX1) (T := TX1) (N := 12) hexec hb hK hts u_in_X1 hown (hP.2 0 (by decide)) rfl k hk hlink hv hdg kk
theorem zv_put (hexec : p.tables.exec = Jvm.exec) (hb : c.code = cc) (hK : va_K G.1 vwCl (zT G) s) (hts : ∀ w ∈ lw_all, w.before args s = true) {own : String} {index : Nat} (hown : s.vm.findClass own = some m.cls) (hP : VP G ad T P S A F H) (hS : va_S D H0 H locs) (hD : D (ad 0)) (j : Nat) (hj : j < 7) (hlink : Cond.fieldLink own index (TX1 (5 + j)).1 (TX1 (5 + j)).2.1 (TX1 (5 + j)).2.2.1 ∈ lw_all) {x : Int} (hdg : decode cc pc = .ok (.putfield index, 3))
    (kk : ∀ (H1 : Heap) (locs1 : List Loc), VP G ad T P S A (zN F j x) H1 → H1.size = H.size → (∀ q : Nat, q ≠ ad 0 → H1[q]? = H[q]?) → va_S D H0 H1 locs1 → W p l e R s m args below meth c H1 locs1 cells slots Q (F0 m (pc + 3) ls rest)) : W p l e R s m args below meth c H locs cells slots Q (F0 m pc ls (.int (zI x) :: .ref (ad 0) :: rest)) :=
  z_put (C := RX1) (T := TX1) (N := 12) hexec hb hK hts u_in_X1 tyX1 tyX1_ok nmX1 hown hS hD (hP.2 0 (by decide)) rfl (5 + j) (by omega) hlink (vF_ty j hj).1 (by rw [(vF_ty j hj).2]; rfl) (by rw [(vF_ty j hj).2]; rfl) (by show 5 + j < 12; omega) hdg
    (fun H1 locs1 h1 h2 h3 h4 => kk H1 locs1 (hP.upd (by decide) h1 h3 (by show vE G ad T P S A (zN F j x) 0 = _; rw [vF_set ad F x j hj]; rfl) (fun i _ hi => vE_uF G ad T P S A F _ i hi)) h2 h3 h4)
theorem zv_aT (hexec : p.tables.exec = Jvm.exec) (hb : c.code = cc) (hK : va_K G.1 vwCl (zT G) s) (hP : VP G ad T P S A F H) (w : Nat) (hw : w < 9) {i : Int} (hi : i = (w : Int)) (hdg : decode cc pc = .ok (.aaload, 1))
    (kk : W p l e R s m args below meth c H locs cells slots Q (F0 m (pc + 1) ls (.ref (ad (2 + w)) :: rest))) : W p l e R s m args below meth c H locs cells slots Q (F0 m pc ls (.int (zI i) :: .ref (ad 1) :: rest)) :=
  z_aldr (t0 := 1) (n := 9) hexec hb hK rfl rfl (hP.2 1 (by decide)) (by omega) (by decide) (by subst hi; rfl) hdg kk
theorem zv_aP (hexec : p.tables.exec = Jvm.exec) (hb : c.code = cc) (hK : va_K G.1 vwCl (zT G) s) (hP : VP G ad T P S A F H) (w : Nat) (hw : w < 3) {i : Int} (hi : i = (w : Int)) (hdg : decode cc pc = .ok (.aaload, 1))
    (kk : W p l e R s m args below meth c H locs cells slots Q (F0 m (pc + 1) ls (.ref (ad (12 + w)) :: rest))) : W p l e R s m args below meth c H locs cells slots Q (F0 m pc ls (.int (zI i) :: .ref (ad 11) :: rest)) :=
  z_aldr (t0 := 1) (n := 3) hexec hb hK rfl rfl (hP.2 11 (by decide)) (by omega) (by decide) (by subst hi; rfl) hdg kk
theorem zv_aS (hexec : p.tables.exec = Jvm.exec) (hb : c.code = cc) (hK : va_K G.1 vwCl (zT G) s) (hP : VP G ad T P S A F H) (w : Nat) (hw : w < 3) {i : Int} (hi : i = (w : Int)) (hdg : decode cc pc = .ok (.aaload, 1))
    (kk : W p l e R s m args below meth c H locs cells slots Q (F0 m (pc + 1) ls (.ref (ad (16 + w)) :: rest))) : W p l e R s m args below meth c H locs cells slots Q (F0 m pc ls (.int (zI i) :: .ref (ad 15) :: rest)) :=
  z_aldr (t0 := 1) (n := 3) hexec hb hK rfl rfl (hP.2 15 (by decide)) (by omega) (by decide) (by subst hi; rfl) hdg kk
theorem zv_lT (hexec : p.tables.exec = Jvm.exec) (hb : c.code = cc) (hK : va_K G.1 vwCl (zT G) s) (hP : VP G ad T P S A F H) (w : Nat) (hw : w < 9) {i : Int} (h0 : 0 ≤ i ∧ i < 200) (hdg : decode cc pc = .ok (.iaload, 1))
    (kk : W p l e R s m args below meth c H locs cells slots Q (F0 m (pc + 1) ls (.int (zI (T w i)) :: rest))) : W p l e R s m args below meth c H locs cells slots Q (F0 m pc ls (.int (zI i) :: .ref (ad (2 + w)) :: rest)) :=
  z_ald (n := 200) hexec hb hK (vE_T G ad T P S A F hw ▸ hP.2 (2 + w) (by omega)) h0 (by decide) hdg kk
theorem zv_sT (hexec : p.tables.exec = Jvm.exec) (hb : c.code = cc) (hK : va_K G.1 vwCl (zT G) s) (hP : VP G ad T P S A F H) (hS : va_S D H0 H locs) (w : Nat) (hw : w < 9) (hD : D (ad (2 + w))) {i x : Int} (h0 : 0 ≤ i ∧ i < 200) (hdg : decode cc pc = .ok (.iastore, 1))
    (kk : ∀ (H1 : Heap) (locs1 : List Loc), VP G ad (zR T w i x) P S A F H1 → H1.size = H.size → (∀ q : Nat, q ≠ ad (2 + w) → H1[q]? = H[q]?) → va_S D H0 H1 locs1 → W p l e R s m args below meth c H1 locs1 cells slots Q (F0 m (pc + 1) ls rest)) : W p l e R s m args below meth c H locs cells slots Q (F0 m pc ls (.int (zI x) :: .int (zI i) :: .ref (ad (2 + w)) :: rest)) :=
  z_ast (n := 200) hexec hb hK hS hD (vE_T G ad T P S A F hw ▸ hP.2 (2 + w) (by omega)) h0 (by decide) hdg
    (fun H1 locs1 h1 h2 h3 h4 => kk H1 locs1 (hP.upd (by omega) h1 h3 (by rw [vE_T G ad (zR T w i x) P S A F hw, zR_row]) (fun j hj hne => vE_uT G ad T P S A F hw i x j hne)) h2 h3 h4)
theorem zv_lP (hexec : p.tables.exec = Jvm.exec) (hb : c.code = cc) (hK : va_K G.1 vwCl (zT G) s) (hP : VP G ad T P S A F H) (w : Nat) (hw : w < 3) {i : Int} (h0 : 0 ≤ i ∧ i < 200) (hdg : decode cc pc = .ok (.iaload, 1))
    (kk : W p l e R s m args below meth c H locs cells slots Q (F0 m (pc + 1) ls (.int (zI (P w i)) :: rest))) : W p l e R s m args below meth c H locs cells slots Q (F0 m pc ls (.int (zI i) :: .ref (ad (12 + w)) :: rest)) :=
  z_ald (n := 200) hexec hb hK (vE_P G ad T P S A F hw ▸ hP.2 (12 + w) (by omega)) h0 (by decide) hdg kk
theorem zv_sP (hexec : p.tables.exec = Jvm.exec) (hb : c.code = cc) (hK : va_K G.1 vwCl (zT G) s) (hP : VP G ad T P S A F H) (hS : va_S D H0 H locs) (w : Nat) (hw : w < 3) (hD : D (ad (12 + w))) {i x : Int} (h0 : 0 ≤ i ∧ i < 200) (hdg : decode cc pc = .ok (.iastore, 1))
    (kk : ∀ (H1 : Heap) (locs1 : List Loc), VP G ad T (zR P w i x) S A F H1 → H1.size = H.size → (∀ q : Nat, q ≠ ad (12 + w) → H1[q]? = H[q]?) → va_S D H0 H1 locs1 → W p l e R s m args below meth c H1 locs1 cells slots Q (F0 m (pc + 1) ls rest)) : W p l e R s m args below meth c H locs cells slots Q (F0 m pc ls (.int (zI x) :: .int (zI i) :: .ref (ad (12 + w)) :: rest)) :=
  z_ast (n := 200) hexec hb hK hS hD (vE_P G ad T P S A F hw ▸ hP.2 (12 + w) (by omega)) h0 (by decide) hdg
    (fun H1 locs1 h1 h2 h3 h4 => kk H1 locs1 (hP.upd (by omega) h1 h3 (by rw [vE_P G ad T (zR P w i x) S A F hw, zR_row]) (fun j hj hne => vE_uP G ad T P S A F hw i x j hne)) h2 h3 h4)
theorem zv_lS (hexec : p.tables.exec = Jvm.exec) (hb : c.code = cc) (hK : va_K G.1 vwCl (zT G) s) (hP : VP G ad T P S A F H) (w : Nat) (hw : w < 3) {i : Int} (h0 : 0 ≤ i ∧ i < 200) (hdg : decode cc pc = .ok (.iaload, 1))
    (kk : W p l e R s m args below meth c H locs cells slots Q (F0 m (pc + 1) ls (.int (zI (S w i)) :: rest))) : W p l e R s m args below meth c H locs cells slots Q (F0 m pc ls (.int (zI i) :: .ref (ad (16 + w)) :: rest)) :=
  z_ald (n := 200) hexec hb hK (vE_S G ad T P S A F hw ▸ hP.2 (16 + w) (by omega)) h0 (by decide) hdg kk
theorem zv_sS (hexec : p.tables.exec = Jvm.exec) (hb : c.code = cc) (hK : va_K G.1 vwCl (zT G) s) (hP : VP G ad T P S A F H) (hS : va_S D H0 H locs) (w : Nat) (hw : w < 3) (hD : D (ad (16 + w))) {i x : Int} (h0 : 0 ≤ i ∧ i < 200) (hdg : decode cc pc = .ok (.iastore, 1))
    (kk : ∀ (H1 : Heap) (locs1 : List Loc), VP G ad T P (zR S w i x) A F H1 → H1.size = H.size → (∀ q : Nat, q ≠ ad (16 + w) → H1[q]? = H[q]?) → va_S D H0 H1 locs1 → W p l e R s m args below meth c H1 locs1 cells slots Q (F0 m (pc + 1) ls rest)) : W p l e R s m args below meth c H locs cells slots Q (F0 m pc ls (.int (zI x) :: .int (zI i) :: .ref (ad (16 + w)) :: rest)) :=
  z_ast (n := 200) hexec hb hK hS hD (vE_S G ad T P S A F hw ▸ hP.2 (16 + w) (by omega)) h0 (by decide) hdg
    (fun H1 locs1 h1 h2 h3 h4 => kk H1 locs1 (hP.upd (by omega) h1 h3 (by rw [vE_S G ad T P (zR S w i x) A F hw, zR_row]) (fun j hj hne => vE_uS G ad T P S A F hw i x j hne)) h2 h3 h4)
theorem zv_lA (hexec : p.tables.exec = Jvm.exec) (hb : c.code = cc) (hK : va_K G.1 vwCl (zT G) s) (hP : VP G ad T P S A F H) (w : Nat) (hw : w < 2) {i : Int} (h0 : 0 ≤ i ∧ i < 63) (hdg : decode cc pc = .ok (.iaload, 1))
    (kk : W p l e R s m args below meth c H locs cells slots Q (F0 m (pc + 1) ls (.int (zI (A w i)) :: rest))) : W p l e R s m args below meth c H locs cells slots Q (F0 m pc ls (.int (zI i) :: .ref (ad (19 + w)) :: rest)) :=
  z_ald (n := 63) hexec hb hK (vE_A G ad T P S A F hw ▸ hP.2 (19 + w) (by omega)) h0 (by decide) hdg kk
theorem zv_sA (hexec : p.tables.exec = Jvm.exec) (hb : c.code = cc) (hK : va_K G.1 vwCl (zT G) s) (hP : VP G ad T P S A F H) (hS : va_S D H0 H locs) (w : Nat) (hw : w < 2) (hD : D (ad (19 + w))) {i x : Int} (h0 : 0 ≤ i ∧ i < 63) (hdg : decode cc pc = .ok (.iastore, 1))
    (kk : ∀ (H1 : Heap) (locs1 : List Loc), VP G ad T P S (zR A w i x) F H1 → H1.size = H.size → (∀ q : Nat, q ≠ ad (19 + w) → H1[q]? = H[q]?) → va_S D H0 H1 locs1 → W p l e R s m args below meth c H1 locs1 cells slots Q (F0 m (pc + 1) ls rest)) : W p l e R s m args below meth c H locs cells slots Q (F0 m pc ls (.int (zI x) :: .int (zI i) :: .ref (ad (19 + w)) :: rest)) :=
  z_ast (n := 63) hexec hb hK hS hD (vE_A G ad T P S A F hw ▸ hP.2 (19 + w) (by omega)) h0 (by decide) hdg
    (fun H1 locs1 h1 h2 h3 h4 => kk H1 locs1 (hP.upd (by omega) h1 h3 (by rw [vE_A G ad T P S (zR A w i x) F hw, zR_row]) (fun j hj hne => vE_uA G ad T P S A F hw i x j hj hne)) h2 h3 h4)
theorem zv_nA (hexec : p.tables.exec = Jvm.exec) (hb : c.code = cc) (hK : va_K G.1 vwCl (zT G) s) (hP : VP G ad T P S A F H) (w : Nat) (hw : w < 2) (hdg : decode cc pc = .ok (.arraylength, 1))
    (kk : W p l e R s m args below meth c H locs cells slots Q (F0 m (pc + 1) ls (.int (zI 63) :: rest))) : W p l e R s m args below meth c H locs cells slots Q (F0 m pc ls (.ref (ad (19 + w)) :: rest)) :=
  z_alen (n := 63) hexec hb hK (vE_A G ad T P S A F hw ▸ hP.2 (19 + w) (by omega)) hdg kk
end ZV
end
section
/-! contracts: a reader (the heap stays), a writer (N places and new cells change), and what may throw -/
abbrev rmz (f lo mc ms : Nat) : Room := { frames := f, cells := mc, slots := ms, locals := lo }
/-- what holds at a walk's start -/
def BF (p : Program) (s : State) (m : MethodId) (args : Array Value) (meth : Method) (c : Code) (cc : ByteArray) (n : Nat) (ret : Option FieldType) (own : String) (G : zG) : Prop :=
  p.tables.exec = Jvm.exec ∧ c.code = cc ∧ c.maxLocals = n ∧ meth.sig.returnType = ret ∧ meth.locks = false ∧ s.vm.findClass own = some m.cls ∧ (∀ w ∈ lw_all, w.before args s = true) ∧ GK G s
theorem zm_of {l : Launch} {y : MethodName} {cc : ByteArray} {n f lo mc ms : Nat} {ret : Option FieldType} {G : zG} {av : List Value} {Pic : Heap → Prop} {Qc : Array Value → State → Outcome → State → Prop} {free : Addr → Prop} (hy : plainName y.cls = true) (hlen : (lg_sl av).length ≤ n)
    (body : ∀ (p : Program) (e : Env) (s : State) (m : MethodId) (below : List Frame) (meth : Method) (c : Code) (ls : Array Slot), BF p s m av.toArray meth c cc n ret y.cls G → Pic s.heap → lv_has ls n (lv_args 0 av) → W p l e (rmz f lo mc ms) s m av.toArray below meth c s.heap [] 0 0 (MQ below Qc av.toArray s mc ms free) (F0 m 0 ls [])) :
    Met l y (lw_m y cc n ret) (rmz f lo mc ms) (va_Pc av (fun U => GK G U ∧ Pic U.heap)) Qc mc ms free := by
  refine Met.ofW (cc := cc) (maxL := n) (ret := ret) hy rfl ?_
  intro p e s m args below meth c s₁ B hml hv
  obtain ⟨rfl, hG, hP⟩ := hv
  have hts := atoms_spec (ws := lw_m y cc n ret) B.pre
  have hl := lv_entry av (n := n) hlen
  rw [lg_entry_eq]
  exact body p e s m below meth c _ ⟨B.exec, B.bytes, hml, B.returns, B.notSynchronized, findClass_of_methodNamed B.named, fun w hw => hts w (List.mem_cons_of_mem _ hw), hG⟩ hP hl
theorem zx_of {l : Launch} {y : MethodName} {cc : ByteArray} {n f lo mc ms : Nat} {ret : Option FieldType} {G : zG} {av : List Value} {Pic : Heap → Prop} {Qc : Array Value → State → Outcome → State → Prop} {XC : String → State → State → Prop} {free : Addr → Prop} (hy : plainName y.cls = true) (hlen : (lg_sl av).length ≤ n)
    (body : ∀ (p : Program) (e : Env) (s : State) (m : MethodId) (below : List Frame) (meth : Method) (c : Code) (ls : Array Slot), BF p s m av.toArray meth c cc n ret y.cls G → (∀ (x : ExceptionTableEntry), x ∈ c.exceptionTable.toList → False) → Pic s.heap → lv_has ls n (lv_args 0 av) → W p l e (rmz f lo mc ms) s m av.toArray below meth c s.heap [] 0 0 (vx_MQ below Qc XC av.toArray s mc ms free) (F0 m 0 ls [])) :
    vx_Met l y (lw_m y cc n ret) (rmz f lo mc ms) (va_Pc av (fun U => GK G U ∧ Pic U.heap)) Qc XC mc ms free := by
  refine vx_ofW (cc := cc) (maxL := n) (ret := ret) hy rfl ?_
  intro p e s m args below meth c s₁ B hml hnt hv
  obtain ⟨rfl, hG, hP⟩ := hv
  have hts := atoms_spec (ws := lw_m y cc n ret) B.pre
  have hl := lv_entry av (n := n) hlen
  rw [lg_entry_eq]
  exact body p e s m below meth c _ ⟨B.exec, B.bytes, hml, B.returns, B.notSynchronized, findClass_of_methodNamed B.named, fun w hw => hts w (List.mem_cons_of_mem _ hw), hG⟩ hnt hP hl
def QR (v : Value) : Array Value → State → Outcome → State → Prop := fun _ st o t => o = .returned (some v) ∧ t.heap = st.heap
/-- a reader: answers v, the heap stays -/
def MR (l : Launch) (y : MethodName) (cc : ByteArray) (n : Nat) (ret : Option FieldType) (f lo : Nat) (G : zG) (av : List Value) (Pic : Heap → Prop) (v : Value) : Prop :=
  Met l y (lw_m y cc n ret) (rmz f lo 0 0) (va_Pc av (fun U => GK G U ∧ Pic U.heap)) (QR v) 0 0 (fun _ => False)
def QW (A : Nat → Prop) (Post : Int → Heap → Prop) : Array Value → State → Outcome → State → Prop := fun _ st o t => ∃ r : Int, o = .returned (some (.int (zI r))) ∧ Post r t.heap ∧ va_F A st t
def QL (A : Nat → Prop) (Post : Int64 → Heap → Prop) : Array Value → State → Outcome → State → Prop := fun _ st o t => ∃ r : Int64, o = .returned (some (.long r)) ∧ Post r t.heap ∧ va_F A st t
def QD (A : Nat → Prop) (Post : UInt64 → Heap → Prop) : Array Value → State → Outcome → State → Prop := fun _ st o t => ∃ r : UInt64, o = .returned (some (.double r)) ∧ Post r t.heap ∧ va_F A st t
def QV (A : Nat → Prop) (Post : Heap → Prop) : Array Value → State → Outcome → State → Prop := fun _ st o t => o = .returned none ∧ Post t.heap ∧ va_F A st t
def XQ (A : Nat → Prop) (PX : String → Heap → Prop) : String → State → State → Prop := fun E st t => PX E t.heap ∧ va_F A st t
/-- a writer: Qc is one of QW, QL, QD, QV at the places ad, N of them, and sz the heap's size at the start -/
def MW (l : Launch) (y : MethodName) (cc : ByteArray) (n : Nat) (ret : Option FieldType) (f lo mc ms : Nat) (G : zG) (av : List Value) (A : Nat → Prop) (sz : Nat) (Pic : Heap → Prop) (Qc : Array Value → State → Outcome → State → Prop) : Prop :=
  Met l y (lw_m y cc n ret) (rmz f lo mc ms) (va_Pc av (fun U => GK G U ∧ (U.heap.size = sz ∧ Pic U.heap))) Qc mc ms A
/-- .. that may throw -/
def MX (l : Launch) (y : MethodName) (cc : ByteArray) (n : Nat) (ret : Option FieldType) (f lo mc ms : Nat) (G : zG) (av : List Value) (A : Nat → Prop) (sz : Nat) (Pic : Heap → Prop) (Qc : Array Value → State → Outcome → State → Prop) (PX : String → Heap → Prop) : Prop :=
  vx_Met l y (lw_m y cc n ret) (rmz f lo mc ms) (va_Pc av (fun U => GK G U ∧ (U.heap.size = sz ∧ Pic U.heap))) Qc (XQ A PX) mc ms A
theorem Pc_blind (G : zG) (av : List Value) (Pic : Heap → Prop) : FrameBlind (va_Pc av (fun U => GK G U ∧ Pic U.heap)) := fun a U g mk h => ⟨h.1, GK_blind g mk a h.2.1, h.2.2⟩
theorem good_V {own C : String} {idx n : Nat} {y : MethodName} {cc : ByteArray} {ret : Option FieldType} (h : Cond.methodLink own idx y ∈ lw_all ∧ Cond.instanceMethod y ∈ lw_all ∧ Cond.selects C y y ∈ lw_all ∧ Cond.initialized C ∈ lw_all ∧ Cond.code y cc n ret ∈ lw_all) : GoodIn lw_all (wsV own idx C y (lw_m y cc n ret)) := by
  intro w hw
  unfold wsV at hw
  rcases List.mem_append.mp hw with q | q
  · simp only [List.mem_cons, List.not_mem_nil, or_false] at q
    rcases q with rfl | rfl | rfl | rfl
    · exact ⟨h.1, lw_good h.1⟩
    · exact ⟨h.2.1, lw_good h.2.1⟩
    · exact ⟨h.2.2.1, lw_good h.2.2.1⟩
    · exact ⟨h.2.2.2.1, lw_good h.2.2.2.1⟩
  · exact lw_inm h.2.2.2.2 w q
theorem good_S {own : String} {idx n : Nat} {y : MethodName} {cc : ByteArray} {ret : Option FieldType} (h : Cond.methodLink own idx y ∈ lw_all ∧ Cond.static y ∈ lw_all ∧ Cond.initialized y.cls ∈ lw_all ∧ Cond.code y cc n ret ∈ lw_all) : GoodIn lw_all (va_wsS own idx y (lw_m y cc n ret)) := by
  intro w hw
  unfold va_wsS at hw
  rcases List.mem_append.mp hw with q | q
  · simp only [List.mem_cons, List.not_mem_nil, or_false] at q
    rcases q with rfl | rfl | rfl
    · exact ⟨h.1, lw_good h.1⟩
    · exact ⟨h.2.1, lw_good h.2.1⟩
    · exact ⟨h.2.2.1, lw_good h.2.2.1⟩
  · exact lw_inm h.2.2.2 w q
section ZC
variable {p : Program} {l : Launch} {e : Env} {R : Room} {s : State} {m : MethodId} {args : Array Value} {below : List Frame} {meth : Method} {c : Code} {H : Heap} {locs : List Loc} {cells slots : Nat} {Q : State → Prop}
variable {cc : ByteArray} {pc : Nat} {ls : Array Slot} {rest st0 : List Value} {A A1 : Nat → Prop} {H0 : Heap} {G : zG} {v : Value} {mc ms : Nat} {free : Addr → Prop} {a : Array Value}
/-! the ends -/
theorem e_R {r r' : Int} {ty : FieldType} (hexec : p.tables.exec = Jvm.exec) (hb : c.code = cc) (hr : meth.sig.returnType = some ty) (hlk : meth.locks = false) (hn : narrow ty (.int (zI r')) = .int (zI r')) (hq : r' = r) (hdg : decode cc pc = .ok (.ireturn, 1)) : W p l e R s m args below meth c s.heap [] 0 0 (MQ below (QR (.int (zI r))) args s 0 0 (fun _ => False)) (F0 m pc ls [.int (zI r')]) := by
  subst hq
  exact W.zret hexec hb hr hn (fun t ht hW => ⟨rfl, ht⟩) (fun q h => nomatch h) hdg hlk
theorem n_i (x : Int) : narrow .int (.int (zI x)) = .int (zI x) := rfl
theorem n_z {x : Int} (h : x = 0 ∨ x = 1) : narrow .boolean (.int (zI x)) = .int (zI x) := by rcases h with rfl | rfl <;> rfl
theorem e_Wi {r : Int} {Post : Int → Heap → Prop} {ty : FieldType} (hexec : p.tables.exec = Jvm.exec) (hb : c.code = cc) (hr : meth.sig.returnType = some ty) (hlk : meth.locks = false) (hn : narrow ty (.int (zI r)) = .int (zI r)) (hS : va_S A s.heap H locs) (hc : cells ≤ mc) (hs : slots ≤ ms) (hq : Post r H) (hdg : decode cc pc = .ok (.ireturn, 1)) : W p l e R s m args below meth c H locs cells slots (MQ below (QW A Post) args s mc ms A) (F0 m pc ls [.int (zI r)]) :=
  W.widen hc hs (W.zret hexec hb hr hn (fun t ht hW => ⟨r, rfl, by rw [ht]; exact hq, hS.F ht⟩) hS.2.2 hdg hlk)
theorem e_Wv {Post : Heap → Prop} (hexec : p.tables.exec = Jvm.exec) (hb : c.code = cc) (hr : meth.sig.returnType = none) (hlk : meth.locks = false) (hS : va_S A s.heap H locs) (hc : cells ≤ mc) (hs : slots ≤ ms) (hq : Post H) (hdg : decode cc pc = .ok (.return_, 1)) : W p l e R s m args below meth c H locs cells slots (MQ below (QV A Post) args s mc ms A) (F0 m pc ls []) :=
  W.widen hc hs (W.vret hexec hb hr (fun t ht hW => ⟨rfl, by rw [ht]; exact hq, hS.F ht⟩) hS.2.2 hdg hlk)
theorem e_Wl {r : Int64} {Post : Int64 → Heap → Prop} (hexec : p.tables.exec = Jvm.exec) (hb : c.code = cc) (hr : meth.sig.returnType = some .long) (hlk : meth.locks = false) (hS : va_S A s.heap H locs) (hc : cells ≤ mc) (hs : slots ≤ ms) (hq : Post r H) (hdg : decode cc pc = .ok (.lreturn, 1)) : W p l e R s m args below meth c H locs cells slots (MQ below (QL A Post) args s mc ms A) (F0 m pc ls [.long r]) :=
  W.widen hc hs (W.lret hexec hb hr (fun t ht hW => ⟨r, rfl, by rw [ht]; exact hq, hS.F ht⟩) hS.2.2 hdg hlk)
theorem e_Wd {r : UInt64} {Post : UInt64 → Heap → Prop} (hexec : p.tables.exec = Jvm.exec) (hb : c.code = cc) (hr : meth.sig.returnType = some .double) (hlk : meth.locks = false) (hS : va_S A s.heap H locs) (hc : cells ≤ mc) (hs : slots ≤ ms) (hq : Post r H) (hdg : decode cc pc = .ok (.dreturn, 1)) : W p l e R s m args below meth c H locs cells slots (MQ below (QD A Post) args s mc ms A) (F0 m pc ls [.double r]) :=
  W.widen hc hs (W.dret hexec hb hr (fun t ht hW => ⟨r, rfl, by rw [ht]; exact hq, hS.F ht⟩) hS.2.2 hdg hlk)
/-! the calls' continuations -/
theorem k_R (hr : va_Run p l e R s m args below meth c H locs cells slots 0 0 (F0 m pc ls st0) rest (QR v a) (fun _ => False)) (kk : W p l e R s m args below meth c H locs cells slots Q (F0 m (pc + 3) ls (v :: rest))) : W p l e R s m args below meth c H locs cells slots Q (F0 m pc ls st0) := by
  intro T hT X
  obtain ⟨v9, st₀, t, T', L, h0, X', hL, e1, e2, ⟨hv, hh⟩, st⟩ := hr T hT X
  cases hv
  have hLn : L = [] := by
    cases L with
    | nil => rfl
    | cons z L => exact absurd (hL z List.mem_cons_self) id
  subst hLn
  rw [List.append_nil] at X'
  obtain ⟨t2, a1, b1⟩ := kk T' (by rw [e1, hh, h0]) X'
  exact ⟨t2, st t2 a1, b1⟩
theorem k_keep {st₀ t T' : State} {L : List Loc} (h0 : st₀.heap = H) (e1 : T'.heap = t.heap) (hS : va_S A H0 H locs) (hA : ∀ q, A1 q → A q) (hL : ∀ q ∈ L, A1 q.base) (hF : va_F A1 st₀ t) : H.size ≤ T'.heap.size ∧ (∀ q : Nat, q < H.size → ¬ A1 q → T'.heap[q]? = H[q]?) ∧ va_S A H0 T'.heap (locs ++ L) := by
  exact vx_keep h0 e1 hS (fun q _ h => hA q h) hA hL hF
theorem k_Wi {Post : Int → Heap → Prop} (hr : va_Run p l e R s m args below meth c H locs cells slots mc ms (F0 m pc ls st0) rest (QW A1 Post a) A1) (hS : va_S A H0 H locs) (hA : ∀ q, A1 q → A q)
    (kk : ∀ (r : Int) (H1 : Heap) (locs1 : List Loc), Post r H1 → H.size ≤ H1.size → (∀ q : Nat, q < H.size → ¬ A1 q → H1[q]? = H[q]?) → va_S A H0 H1 locs1 → W p l e R s m args below meth c H1 locs1 (cells + mc) (slots + ms) Q (F0 m (pc + 3) ls (.int (zI r) :: rest))) : W p l e R s m args below meth c H locs cells slots Q (F0 m pc ls st0) := by
  intro T hT X
  obtain ⟨v9, st₀, t, T', L, h0, X', hL, e1, e2, ⟨r, hv, hp, hF⟩, st⟩ := hr T hT X
  cases hv
  obtain ⟨k1, k2, k3⟩ := k_keep h0 e1 hS hA hL hF
  obtain ⟨t2, a1, b1⟩ := kk r T'.heap _ (by rw [e1]; exact hp) k1 k2 k3 T' rfl X'
  exact ⟨t2, st t2 a1, b1⟩
theorem k_Wl {Post : Int64 → Heap → Prop} (hr : va_Run p l e R s m args below meth c H locs cells slots mc ms (F0 m pc ls st0) rest (QL A1 Post a) A1) (hS : va_S A H0 H locs) (hA : ∀ q, A1 q → A q)
    (kk : ∀ (r : Int64) (H1 : Heap) (locs1 : List Loc), Post r H1 → H.size ≤ H1.size → (∀ q : Nat, q < H.size → ¬ A1 q → H1[q]? = H[q]?) → va_S A H0 H1 locs1 → W p l e R s m args below meth c H1 locs1 (cells + mc) (slots + ms) Q (F0 m (pc + 3) ls (.long r :: rest))) : W p l e R s m args below meth c H locs cells slots Q (F0 m pc ls st0) := by
  intro T hT X
  obtain ⟨v9, st₀, t, T', L, h0, X', hL, e1, e2, ⟨r, hv, hp, hF⟩, st⟩ := hr T hT X
  cases hv
  obtain ⟨k1, k2, k3⟩ := k_keep h0 e1 hS hA hL hF
  obtain ⟨t2, a1, b1⟩ := kk r T'.heap _ (by rw [e1]; exact hp) k1 k2 k3 T' rfl X'
  exact ⟨t2, st t2 a1, b1⟩
theorem k_Wd {Post : UInt64 → Heap → Prop} (hr : va_Run p l e R s m args below meth c H locs cells slots mc ms (F0 m pc ls st0) rest (QD A1 Post a) A1) (hS : va_S A H0 H locs) (hA : ∀ q, A1 q → A q)
    (kk : ∀ (r : UInt64) (H1 : Heap) (locs1 : List Loc), Post r H1 → H.size ≤ H1.size → (∀ q : Nat, q < H.size → ¬ A1 q → H1[q]? = H[q]?) → va_S A H0 H1 locs1 → W p l e R s m args below meth c H1 locs1 (cells + mc) (slots + ms) Q (F0 m (pc + 3) ls (.double r :: rest))) : W p l e R s m args below meth c H locs cells slots Q (F0 m pc ls st0) := by
  intro T hT X
  obtain ⟨v9, st₀, t, T', L, h0, X', hL, e1, e2, ⟨r, hv, hp, hF⟩, st⟩ := hr T hT X
  cases hv
  obtain ⟨k1, k2, k3⟩ := k_keep h0 e1 hS hA hL hF
  obtain ⟨t2, a1, b1⟩ := kk r T'.heap _ (by rw [e1]; exact hp) k1 k2 k3 T' rfl X'
  exact ⟨t2, st t2 a1, b1⟩
theorem k_Wv {Post : Heap → Prop} (hr : va_Run p l e R s m args below meth c H locs cells slots mc ms (F0 m pc ls st0) rest (QV A1 Post a) A1) (hS : va_S A H0 H locs) (hA : ∀ q, A1 q → A q)
    (kk : ∀ (H1 : Heap) (locs1 : List Loc), Post H1 → H.size ≤ H1.size → (∀ q : Nat, q < H.size → ¬ A1 q → H1[q]? = H[q]?) → va_S A H0 H1 locs1 → W p l e R s m args below meth c H1 locs1 (cells + mc) (slots + ms) Q (F0 m (pc + 3) ls rest)) : W p l e R s m args below meth c H locs cells slots Q (F0 m pc ls st0) := by
  intro T hT X
  obtain ⟨v9, st₀, t, T', L, h0, X', hL, e1, e2, ⟨hv, hp, hF⟩, st⟩ := hr T hT X
  cases hv
  obtain ⟨k1, k2, k3⟩ := k_keep h0 e1 hS hA hL hF
  obtain ⟨t2, a1, b1⟩ := kk T'.heap _ (by rw [e1]; exact hp) k1 k2 k3 T' rfl X'
  exact ⟨t2, st t2 a1, b1⟩
/-! the calls: of an instance method, a static one, a private static one of a nest mate -/
theorem c_V {y : MethodName} {bytes : ByteArray} {maxL nL n f lo idx : Nat} {ret : Option FieldType} {own C : String} {b : Nat} {As : List Value} {Pic : Heap → Prop} {Qc : Array Value → State → Outcome → State → Prop}
    (S : p.tables.exec = Jvm.exec ∧ c.code = cc ∧ c.maxLocals = nL ∧ s.vm.findClass own = some m.cls ∧ ∀ w ∈ lw_all, w.before args s = true) (hG : GK G s) (hS : va_S A s.heap H locs) (hA : ∀ q, A q → G.2.2 ≤ q)
    (hM : Met l y (lw_m y bytes maxL ret) (rmz f lo mc ms) (va_Pc (.ref b :: As) (fun U => GK G U ∧ Pic U.heap)) Qc mc ms free)
    (hw : Cond.methodLink own idx y ∈ lw_all ∧ Cond.instanceMethod y ∈ lw_all ∧ Cond.selects C y y ∈ lw_all ∧ Cond.initialized C ∈ lw_all ∧ Cond.code y bytes maxL ret ∈ lw_all)
    (hd : y.cls = C ∧ y.cls ≠ "java/lang/invoke/MethodHandle" ∧ y.cls ≠ "java/lang/invoke/VarHandle" ∧ (parseMethodDescriptor y.desc).map (fun d => d.parameters.length) = some n)
    (hrec : ∃ cell : Cell, H[b]? = some cell ∧ cell.vm.isStatics = false ∧ s.vm.findClass C = some cell.cls) (hP : Pic H) (hR : f + 1 ≤ R.frames ∧ 8 + (maxL + 11) + lo ≤ R.locals) (hfit : cells + mc ≤ R.cells ∧ slots + ms ≤ R.slots)
    (hn : As.length = n) (hsize : ls.size = nL) (hstack : st0 = As.reverse ++ .ref b :: rest) (hcat : (rest.map fun v => v.category).sum ≤ 8) (hdg : decode cc pc = .ok (.invokevirtual idx, 3)) :
    va_Run p l e R s m args below meth c H locs cells slots mc ms (F0 m pc ls st0) rest (Qc (Value.ref b :: As).toArray) free := by
  obtain ⟨hx, hb, hml, hown, hts⟩ := S
  exact va_runV (As := As) (rest := rest) (Ts := lw_all) (own := own) ⟨hx, hb, hml, hown, hts⟩ hM (cwV n hts (good_V hw) rfl rfl rfl hd hR) ⟨Pc_blind G _ Pic, hrec, fun U hU hW => ⟨rfl, GK_call hG hS hA hU hW, by rw [hU]; exact hP⟩⟩ rfl hn hsize hstack (lv_room hcat) hdg hfit
theorem c_S {y : MethodName} {bytes : ByteArray} {maxL nL n f lo idx : Nat} {ret : Option FieldType} {own : String} {As : List Value} {Pic : Heap → Prop} {Qc : Array Value → State → Outcome → State → Prop}
    (S : p.tables.exec = Jvm.exec ∧ c.code = cc ∧ c.maxLocals = nL ∧ s.vm.findClass own = some m.cls ∧ ∀ w ∈ lw_all, w.before args s = true) (hG : GK G s) (hS : va_S A s.heap H locs) (hA : ∀ q, A q → G.2.2 ≤ q)
    (hM : Met l y (lw_m y bytes maxL ret) (rmz f lo mc ms) (va_Pc As (fun U => GK G U ∧ Pic U.heap)) Qc mc ms free)
    (hw : Cond.methodLink own idx y ∈ lw_all ∧ Cond.static y ∈ lw_all ∧ Cond.initialized y.cls ∈ lw_all ∧ Cond.code y bytes maxL ret ∈ lw_all)
    (hd : y.cls ≠ "java/lang/invoke/MethodHandle" ∧ y.cls ≠ "java/lang/invoke/VarHandle" ∧ (parseMethodDescriptor y.desc).map (fun d => d.parameters.length) = some n)
    (hP : Pic H) (hR : f + 1 ≤ R.frames ∧ 8 + (maxL + 11) + lo ≤ R.locals) (hfit : cells + mc ≤ R.cells ∧ slots + ms ≤ R.slots)
    (hn : As.length = n) (hsize : ls.size = nL) (hstack : st0 = As.reverse ++ rest) (hcat : (rest.map fun v => v.category).sum ≤ 8) (hdg : decode cc pc = .ok (.invokestatic idx, 3)) :
    va_Run p l e R s m args below meth c H locs cells slots mc ms (F0 m pc ls st0) rest (Qc As.toArray) free := by
  obtain ⟨hx, hb, hml, hown, hts⟩ := S
  exact va_runS (As := As) (rest := rest) (Ts := lw_all) (own := own) ⟨hx, hb, hml, hown, hts⟩ hM (va_cwS n hts (good_S hw) rfl rfl rfl hd hR) ⟨Pc_blind G _ Pic, fun U hU hW => ⟨rfl, GK_call hG hS hA hU hW, by rw [hU]; exact hP⟩⟩ rfl hn hsize hstack (lv_room hcat) hdg hfit
theorem c_N {y : MethodName} {bytes : ByteArray} {maxL nL n f lo idx : Nat} {ret : Option FieldType} {own host : String} {As : List Value} {Pic : Heap → Prop} {Qc : Array Value → State → Outcome → State → Prop}
    (S : p.tables.exec = Jvm.exec ∧ c.code = cc ∧ c.maxLocals = nL ∧ s.vm.findClass own = some m.cls ∧ ∀ w ∈ lw_all, w.before args s = true) (hG : GK G s) (hS : va_S A s.heap H locs) (hA : ∀ q, A q → G.2.2 ≤ q)
    (hM : Met l y (lw_m y bytes maxL ret) (rmz f lo mc ms) (va_Pc As (fun U => GK G U ∧ Pic U.heap)) Qc mc ms free)
    (hw : (own, idx, y, host) ∈ nestM ∧ Cond.static y ∈ lw_all ∧ Cond.initialized y.cls ∈ lw_all ∧ Cond.code y bytes maxL ret ∈ lw_all)
    (hd : y.cls ≠ "java/lang/invoke/MethodHandle" ∧ y.cls ≠ "java/lang/invoke/VarHandle" ∧ (parseMethodDescriptor y.desc).map (fun d => d.parameters.length) = some n)
    (hP : Pic H) (hR : f + 1 ≤ R.frames ∧ 8 + (maxL + 11) + lo ≤ R.locals) (hfit : cells + mc ≤ R.cells ∧ slots + ms ≤ R.slots)
    (hn : As.length = n) (hsize : ls.size = nL) (hstack : st0 = As.reverse ++ rest) (hcat : (rest.map fun v => v.category).sum ≤ 8) (hdg : decode cc pc = .ok (.invokestatic idx, 3)) :
    va_Run p l e R s m args below meth c H locs cells slots mc ms (F0 m pc ls st0) rest (Qc As.toArray) free := by
  obtain ⟨hx, hb, hml, hown, hts⟩ := S
  exact va_runSN (As := As) (rest := rest) (Ts := lw_all) (own := own) (host := host) ⟨hx, hb, hml, hown, hts⟩ hM ⟨va_cnB n hts (lw_inm hw.2.2.2) rfl rfl rfl (hG.2.2.1 _ hw.1) (hts _ hw.2.2.1) hd hR, hts _ hw.2.1, trivial⟩ ⟨Pc_blind G _ Pic, fun U hU hW => ⟨rfl, GK_call hG hS hA hU hW, by rw [hU]; exact hP⟩⟩ rfl hn hsize hstack (lv_room hcat) hdg hfit
end ZC
end
section
def bI (p : Prop) [Decidable p] : Int := if p then 1 else 0
theorem bI_t {p : Prop} [Decidable p] (h : p) : 1 = bI p := (if_pos h).symm
theorem bI_f {p : Prop} [Decidable p] (h : ¬ p) : 0 = bI p := (if_neg h).symm
theorem bI_01 (p : Prop) [Decidable p] : bI p = 0 ∨ bI p = 1 := by
  unfold bI
  split
  · exact Or.inr rfl
  · exact Or.inl rfl
theorem bI_e0 {p : Prop} [Decidable p] : bI p = 0 ↔ ¬ p := by
  unfold bI
  split <;> simp_all
theorem bI_rng (p : Prop) [Decidable p] : -2147483648 ≤ bI p ∧ bI p ≤ 2147483647 := by
  have := bI_01 p
  omega
theorem bI_congr {p q : Prop} [Decidable p] [Decidable q] (h : p ↔ q) : bI p = bI q := by
  unfold bI
  split <;> split <;> simp_all
section ZB
variable {p : Program} {l : Launch} {e : Env} {R : Room} {s : State} {m : MethodId} {args : Array Value} {below : List Frame} {meth : Method} {c : Code} {H : Heap} {locs : List Loc} {cells slots : Nat} {Q : State → Prop}
variable {cc : ByteArray} {pc : Nat} {ls : Array Slot} {rest : List Value}
theorem z_bif_eq (hexec : p.tables.exec = Jvm.exec) (hb : c.code = cc) {q : Prop} [Decidable q] {off : Int} {tgt : Nat} (hdg : decode cc pc = .ok (.ifCond .eq off, 3)) (ht : (pc : Int) + off = (tgt : Int)) (kt : ¬ q → W p l e R s m args below meth c H locs cells slots Q (F0 m tgt ls rest)) (kf : q → W p l e R s m args below meth c H locs cells slots Q (F0 m (pc + 3) ls rest)) : W p l e R s m args below meth c H locs cells slots Q (F0 m pc ls (.int (zI (bI q)) :: rest)) :=
  z_if_eq hexec hb hdg ht (bI_rng q) (fun h => kt (bI_e0.mp h)) (fun h => kf (Decidable.not_not.mp (fun z => h (bI_e0.mpr z))))
theorem z_bif_ne (hexec : p.tables.exec = Jvm.exec) (hb : c.code = cc) {q : Prop} [Decidable q] {off : Int} {tgt : Nat} (hdg : decode cc pc = .ok (.ifCond .ne off, 3)) (ht : (pc : Int) + off = (tgt : Int)) (kt : q → W p l e R s m args below meth c H locs cells slots Q (F0 m tgt ls rest)) (kf : ¬ q → W p l e R s m args below meth c H locs cells slots Q (F0 m (pc + 3) ls rest)) : W p l e R s m args below meth c H locs cells slots Q (F0 m pc ls (.int (zI (bI q)) :: rest)) :=
  z_if_ne hexec hb hdg ht (bI_rng q) (fun h => kt (Decidable.not_not.mp (fun z => h (bI_e0.mpr z)))) (fun h => kf (bI_e0.mp h))
end ZB
end
section
theorem zm_ofF {l : Launch} {y : MethodName} {cc : ByteArray} {n f lo mc ms : Nat} {ret : Option FieldType} {G : zG} {av : List Value} {Pic : Heap → Prop} {Qc : Array Value → State → Outcome → State → Prop} {free : Addr → Prop} (hy : plainFor y = true) (hlen : (lg_sl av).length ≤ n)
    (body : ∀ (p : Program) (e : Env) (s : State) (m : MethodId) (below : List Frame) (meth : Method) (c : Code) (ls : Array Slot), BF p s m av.toArray meth c cc n ret y.cls G → Pic s.heap → lv_has ls n (lv_args 0 av) → W p l e (rmz f lo mc ms) s m av.toArray below meth c s.heap [] 0 0 (MQ below Qc av.toArray s mc ms free) (F0 m 0 ls [])) :
    Met l y (lw_m y cc n ret) (rmz f lo mc ms) (va_Pc av (fun U => GK G U ∧ Pic U.heap)) Qc mc ms free := by
  refine MetFree.of_bodySF (code := cc) (maxLocals := n) (ret := ret) hy ?_ ?_
  · intro args s m h hn
    obtain ⟨meth, c, h1, h2, h3, h4, h5, h6, -, -⟩ := Cond.code_spec hn (atoms_spec (ws := lw_m y cc n ret) h _ List.mem_cons_self)
    exact ⟨meth, c, h1, h2, h3, h4, h5, h6⟩
  · intro p e s m args below meth c s₁ B hml hv _
    obtain ⟨rfl, hG, hP⟩ := hv
    have hts := atoms_spec (ws := lw_m y cc n ret) B.pre
    have hl := lv_entry av (n := n) hlen
    have hh0 : s₁.heap = s.heap := by rw [B.state]; rfl
    have K := body p e s m below meth c _ ⟨B.exec, B.bytes, hml, B.returns, B.notSynchronized, findClass_of_methodNamed B.named, fun w hw => hts w (List.mem_cons_of_mem _ hw), hG⟩ hP hl
    rw [← lg_entry_eq] at K
    obtain ⟨t, a1, o, b1, b2, b3⟩ := K s₁ hh0 (Stand.of_body B)
    exact ⟨t, o, a1, b1, b2, ⟨b3.1, b3.2⟩⟩
theorem mr_of {l : Launch} {y : MethodName} {cc : ByteArray} {n f lo : Nat} {ret : Option FieldType} {G : zG} {av : List Value} {Pic : Heap → Prop} {v : Value} (hy : plainName y.cls = true) (hlen : (lg_sl av).length ≤ n) (body : ∀ (p : Program) (e : Env) (s : State) (m : MethodId) (below : List Frame) (meth : Method) (c : Code) (ls : Array Slot), BF p s m av.toArray meth c cc n ret y.cls G → Pic s.heap → lv_has ls n (lv_args 0 av) → W p l e (rmz f lo 0 0) s m av.toArray below meth c s.heap [] 0 0 (MQ below (QR v) av.toArray s 0 0 (fun _ => False)) (F0 m 0 ls [])) : MR l y cc n ret f lo G av Pic v := zm_of hy hlen body
theorem mr_ofF {l : Launch} {y : MethodName} {cc : ByteArray} {n f lo : Nat} {ret : Option FieldType} {G : zG} {av : List Value} {Pic : Heap → Prop} {v : Value} (hy : plainFor y = true) (hlen : (lg_sl av).length ≤ n) (body : ∀ (p : Program) (e : Env) (s : State) (m : MethodId) (below : List Frame) (meth : Method) (c : Code) (ls : Array Slot), BF p s m av.toArray meth c cc n ret y.cls G → Pic s.heap → lv_has ls n (lv_args 0 av) → W p l e (rmz f lo 0 0) s m av.toArray below meth c s.heap [] 0 0 (MQ below (QR v) av.toArray s 0 0 (fun _ => False)) (F0 m 0 ls [])) : MR l y cc n ret f lo G av Pic v := zm_ofF hy hlen body
theorem hf_J9_floorDiv_7cf53 : plainFor yJ9_floorDiv_7cf53 = true := by decide +kernel
theorem hf_J9_floorMod_7cf53 : plainFor yJ9_floorMod_7cf53 = true := by decide +kernel
theorem hf_J9_max_7cf53 : plainFor yJ9_max_7cf53 = true := by decide +kernel
theorem hf_J9_min_7cf53 : plainFor yJ9_min_7cf53 = true := by decide +kernel
set_option maxHeartbeats 4000000 in
theorem c_J9_max_7cf53 (l : Launch) (G : zG)  (a b : Int) (ha : -2147483648 ≤ a ∧ a ≤ 2147483647) (hb9 : -2147483648 ≤ b ∧ b ≤ 2147483647) : MR l yJ9_max_7cf53 cJ9_max_7cf53 2 (some .int) 0 0 G [.int (zI (a)), .int (zI (b))] ((fun _ => True)) (.int (zI (max a b))) := by
  refine mr_ofF hf_J9_max_7cf53 (Nat.le_of_ble_eq_true rfl) ?_
  intro p e s m below meth c ls hB hP hl
  obtain ⟨hx, hb, hml, hr, hlk, hown, hts, hG⟩ := hB
  have hK := hG.1
  have hS : va_S (fun _ => False) s.heap s.heap [] := va_S.rf
  have hA : ∀ q : Nat, (fun _ : Nat => False) q → G.2.2 ≤ q := fun _ h => h.elim
  have hl : lv_has ls 2 [(0, .int (zI (a))), (1, .int (zI (b)))] := hl
  refine lv_iload_n hx hb dJ9_max_7cf53_0 rfl (lv_at hl 0 rfl) ?_
  refine lv_iload_n hx hb dJ9_max_7cf53_1 rfl (lv_at hl 1 rfl) ?_
  refine z_icmp_lt (a := a) (b := b) (tgt := 9) hx hb dJ9_max_7cf53_2 (by decide) (by omega) (by omega) (fun h_2 => ?_) (fun h_2 => ?_)
  · skip
    refine lv_iload_n hx hb dJ9_max_7cf53_9 rfl (lv_at hl 1 rfl) ?_
    exact e_R (r' := b) hx hb hr hlk (n_i _) (by first | rfl | omega) dJ9_max_7cf53_10
  · skip
    refine lv_iload_n hx hb dJ9_max_7cf53_5 rfl (lv_at hl 0 rfl) ?_
    refine lv_goto (tgt := 10) hx hb dJ9_max_7cf53_6 (by decide) ?_
    exact e_R (r' := a) hx hb hr hlk (n_i _) (by first | rfl | omega) dJ9_max_7cf53_10
set_option maxHeartbeats 4000000 in
theorem c_J9_min_7cf53 (l : Launch) (G : zG)  (a b : Int) (ha : -2147483648 ≤ a ∧ a ≤ 2147483647) (hb9 : -2147483648 ≤ b ∧ b ≤ 2147483647) : MR l yJ9_min_7cf53 cJ9_min_7cf53 2 (some .int) 0 0 G [.int (zI (a)), .int (zI (b))] ((fun _ => True)) (.int (zI (min a b))) := by
  refine mr_ofF hf_J9_min_7cf53 (Nat.le_of_ble_eq_true rfl) ?_
  intro p e s m below meth c ls hB hP hl
  obtain ⟨hx, hb, hml, hr, hlk, hown, hts, hG⟩ := hB
  have hK := hG.1
  have hS : va_S (fun _ => False) s.heap s.heap [] := va_S.rf
  have hA : ∀ q : Nat, (fun _ : Nat => False) q → G.2.2 ≤ q := fun _ h => h.elim
  have hl : lv_has ls 2 [(0, .int (zI (a))), (1, .int (zI (b)))] := hl
  refine lv_iload_n hx hb dJ9_min_7cf53_0 rfl (lv_at hl 0 rfl) ?_
  refine lv_iload_n hx hb dJ9_min_7cf53_1 rfl (lv_at hl 1 rfl) ?_
  refine z_icmp_gt (a := a) (b := b) (tgt := 9) hx hb dJ9_min_7cf53_2 (by decide) (by omega) (by omega) (fun h_2 => ?_) (fun h_2 => ?_)
  · skip
    refine lv_iload_n hx hb dJ9_min_7cf53_9 rfl (lv_at hl 1 rfl) ?_
    exact e_R (r' := b) hx hb hr hlk (n_i _) (by first | rfl | omega) dJ9_min_7cf53_10
  · skip
    refine lv_iload_n hx hb dJ9_min_7cf53_5 rfl (lv_at hl 0 rfl) ?_
    refine lv_goto (tgt := 10) hx hb dJ9_min_7cf53_6 (by decide) ?_
    exact e_R (r' := a) hx hb hr hlk (n_i _) (by first | rfl | omega) dJ9_min_7cf53_10
set_option maxHeartbeats 4000000 in
theorem c_X1_isNote (l : Launch) (G : zG) (ad : Nat → Nat) (T P S A : Nat → Int → Int) (F : Nat → Int) (i : Int) (hi : 0 ≤ i ∧ i < 200) (h4 : -2147483648 ≤ T 4 i ∧ T 4 i ≤ 2147483647) : MR l yX1_isNote cX1_isNote 2 (some .boolean) 0 0 G [.ref (ad 0), .int (zI (i))] (VP G ad T P S A F) (.int (zI (bI (¬ T 4 i = -1)))) := by
  refine mr_of hp_X1_isNote (Nat.le_of_ble_eq_true rfl) ?_
  intro p e s m below meth c ls hB hP hl
  obtain ⟨hx, hb, hml, hr, hlk, hown, hts, hG⟩ := hB
  have hK := hG.1
  have hS : va_S (fun _ => False) s.heap s.heap [] := va_S.rf
  have hA : ∀ q : Nat, (fun _ : Nat => False) q → G.2.2 ≤ q := fun _ h => h.elim
  have hl : lv_has ls 2 [(0, .ref (ad 0)), (1, .int (zI (i)))] := hl
  refine lv_aload_n hx hb dX1_isNote_0 rfl (lv_at hl 0 rfl) ?_
  refine zv_get hx hb hK hts hown hP 0 (by decide) q_fl_RX1_11 (v := .ref (ad 1)) rfl dX1_isNote_1 ?_
  refine z_iconst hx hb dX1_isNote_4 ?_
  refine zv_aT hx hb hK hP (4) (by decide) (i := 4) rfl dX1_isNote_5 ?_
  refine lv_iload_n hx hb dX1_isNote_6 rfl (lv_at hl 1 rfl) ?_
  refine zv_lT hx hb hK hP (4) (by decide) (i := i) (by omega) dX1_isNote_7 ?_
  refine z_iconst hx hb dX1_isNote_8 ?_
  refine z_icmp_eq (a := T 4 (i)) (b := -1) (tgt := 16) hx hb dX1_isNote_9 (by decide) (by omega) (by omega) (fun h_9 => ?_) (fun h_9 => ?_)
  · skip
    refine z_iconst hx hb dX1_isNote_16 ?_
    exact e_R (r' := 0) hx hb hr hlk (n_z (by first | exact bI_01 _ | (left; rfl) | (right; rfl) | omega)) (bI_f (by omega)) dX1_isNote_17
  · skip
    refine z_iconst hx hb dX1_isNote_12 ?_
    refine lv_goto (tgt := 17) hx hb dX1_isNote_13 (by decide) ?_
    exact e_R (r' := 1) hx hb hr hlk (n_z (by first | exact bI_01 _ | (left; rfl) | (right; rfl) | omega)) (bI_t (by omega)) dX1_isNote_17
set_option maxHeartbeats 4000000 in
theorem c_X1_isTied (l : Launch) (G : zG) (ad : Nat → Nat) (T P S A : Nat → Int → Int) (F : Nat → Int) (i : Int) (hi : 0 ≤ i ∧ i < 200) (h5 : -2147483648 ≤ T 5 i ∧ T 5 i ≤ 2147483647) : MR l yX1_isTied cX1_isTied 2 (some .boolean) 0 0 G [.ref (ad 0), .int (zI (i))] (VP G ad T P S A F) (.int (zI (bI (T 5 i = 1)))) := by
  refine mr_of hp_X1_isTied (Nat.le_of_ble_eq_true rfl) ?_
  intro p e s m below meth c ls hB hP hl
  obtain ⟨hx, hb, hml, hr, hlk, hown, hts, hG⟩ := hB
  have hK := hG.1
  have hS : va_S (fun _ => False) s.heap s.heap [] := va_S.rf
  have hA : ∀ q : Nat, (fun _ : Nat => False) q → G.2.2 ≤ q := fun _ h => h.elim
  have hl : lv_has ls 2 [(0, .ref (ad 0)), (1, .int (zI (i)))] := hl
  refine lv_aload_n hx hb dX1_isTied_0 rfl (lv_at hl 0 rfl) ?_
  refine zv_get hx hb hK hts hown hP 0 (by decide) q_fl_RX1_11 (v := .ref (ad 1)) rfl dX1_isTied_1 ?_
  refine z_iconst hx hb dX1_isTied_4 ?_
  refine zv_aT hx hb hK hP (5) (by decide) (i := 5) rfl dX1_isTied_5 ?_
  refine lv_iload_n hx hb dX1_isTied_6 rfl (lv_at hl 1 rfl) ?_
  refine zv_lT hx hb hK hP (5) (by decide) (i := i) (by omega) dX1_isTied_7 ?_
  refine z_iconst hx hb dX1_isTied_8 ?_
  refine z_icmp_ne (a := T 5 (i)) (b := 1) (tgt := 16) hx hb dX1_isTied_9 (by decide) (by omega) (by omega) (fun h_9 => ?_) (fun h_9 => ?_)
  · skip
    refine z_iconst hx hb dX1_isTied_16 ?_
    exact e_R (r' := 0) hx hb hr hlk (n_z (by first | exact bI_01 _ | (left; rfl) | (right; rfl) | omega)) (bI_f (by omega)) dX1_isTied_17
  · skip
    refine z_iconst hx hb dX1_isTied_12 ?_
    refine lv_goto (tgt := 17) hx hb dX1_isTied_13 (by decide) ?_
    exact e_R (r' := 1) hx hb hr hlk (n_z (by first | exact bI_01 _ | (left; rfl) | (right; rfl) | omega)) (bI_t (by omega)) dX1_isTied_17
set_option maxHeartbeats 4000000 in
theorem c_X1_placeOf (l : Launch) (G : zG) (ad : Nat → Nat) (T P S A : Nat → Int → Int) (F : Nat → Int) (i : Int) (hi : 0 ≤ i ∧ i < 200) : MR l yX1_placeOf cX1_placeOf 2 (some .int) 0 0 G [.ref (ad 0), .int (zI (i))] (VP G ad T P S A F) (.int (zI (7 * P 2 i + P 0 i))) := by
  refine mr_of hp_X1_placeOf (Nat.le_of_ble_eq_true rfl) ?_
  intro p e s m below meth c ls hB hP hl
  obtain ⟨hx, hb, hml, hr, hlk, hown, hts, hG⟩ := hB
  have hK := hG.1
  have hS : va_S (fun _ => False) s.heap s.heap [] := va_S.rf
  have hA : ∀ q : Nat, (fun _ : Nat => False) q → G.2.2 ≤ q := fun _ h => h.elim
  have hl : lv_has ls 2 [(0, .ref (ad 0)), (1, .int (zI (i)))] := hl
  refine z_bipush hx hb dX1_placeOf_0 (by decide) ?_
  refine lv_aload_n hx hb dX1_placeOf_2 rfl (lv_at hl 0 rfl) ?_
  refine zv_get hx hb hK hts hown hP 1 (by decide) q_fl_RX1_16 (v := .ref (ad 11)) rfl dX1_placeOf_3 ?_
  refine z_iconst hx hb dX1_placeOf_6 ?_
  refine zv_aP hx hb hK hP (2) (by decide) (i := 2) rfl dX1_placeOf_7 ?_
  refine lv_iload_n hx hb dX1_placeOf_8 rfl (lv_at hl 1 rfl) ?_
  refine zv_lP hx hb hK hP (2) (by decide) (i := i) (by omega) dX1_placeOf_9 ?_
  refine z_imul (x := 7) (y := P 2 (i)) hx hb dX1_placeOf_10 ?_
  refine lv_aload_n hx hb dX1_placeOf_11 rfl (lv_at hl 0 rfl) ?_
  refine zv_get hx hb hK hts hown hP 1 (by decide) q_fl_RX1_16 (v := .ref (ad 11)) rfl dX1_placeOf_12 ?_
  refine z_iconst hx hb dX1_placeOf_15 ?_
  refine zv_aP hx hb hK hP (0) (by decide) (i := 0) rfl dX1_placeOf_16 ?_
  refine lv_iload_n hx hb dX1_placeOf_17 rfl (lv_at hl 1 rfl) ?_
  refine zv_lP hx hb hK hP (0) (by decide) (i := i) (by omega) dX1_placeOf_18 ?_
  refine z_iadd (x := (7) * (P 2 (i))) (y := P 0 (i)) hx hb dX1_placeOf_19 ?_
  exact e_R (r' := ((7) * (P 2 (i))) + (P 0 (i))) hx hb hr hlk (n_i _) (by first | rfl | omega) dX1_placeOf_20
set_option maxHeartbeats 4000000 in
theorem c_X1_isShortNote (l : Launch) (G : zG) (ad : Nat → Nat) (T P S A : Nat → Int → Int) (F : Nat → Int) (i : Int) (hi : 0 ≤ i ∧ i < 200) (h4 : -2147483648 ≤ T 4 i ∧ T 4 i ≤ 2147483647) (h2 : -2147483648 ≤ T 2 i ∧ T 2 i ≤ 2147483647) : MR l yX1_isShortNote cX1_isShortNote 2 (some .boolean) 1 21 G [.ref (ad 0), .int (zI (i))] (VP G ad T P S A F) (.int (zI (bI (¬ T 4 i = -1 ∧ 8 ≤ T 2 i)))) := by
  refine mr_of hp_X1_isShortNote (Nat.le_of_ble_eq_true rfl) ?_
  intro p e s m below meth c ls hB hP hl
  obtain ⟨hx, hb, hml, hr, hlk, hown, hts, hG⟩ := hB
  have hK := hG.1
  have hS : va_S (fun _ => False) s.heap s.heap [] := va_S.rf
  have hA : ∀ q : Nat, (fun _ : Nat => False) q → G.2.2 ≤ q := fun _ h => h.elim
  have hl : lv_has ls 2 [(0, .ref (ad 0)), (1, .int (zI (i)))] := hl
  refine lv_aload_n hx hb dX1_isShortNote_0 rfl (lv_at hl 0 rfl) ?_
  refine lv_iload_n hx hb dX1_isShortNote_1 rfl (lv_at hl 1 rfl) ?_
  refine k_R (c_V (As := [.int (zI (i))]) (rest := []) ⟨hx, hb, hml, hown, hts⟩ hG hS hA (c_X1_isNote l G ad T P S A F i (by omega) (by omega)) ⟨q_ml_RX1_76, q_im_X1_isNote, q_sel_X1_isNote, q_ini_RX1, q_code_X1_isNote⟩ hv_X1_isNote (VP.rec hK hP) hP ⟨by decide, by decide⟩ ⟨Nat.zero_le _, Nat.zero_le _⟩ rfl hl.1 rfl (by decide) dX1_isShortNote_2) ?_
  refine z_bif_eq (q := ¬ T 4 i = -1) (tgt := 25) hx hb dX1_isShortNote_5 (by decide) (fun h_5 => ?_) (fun h_5 => ?_)
  · skip
    refine z_iconst hx hb dX1_isShortNote_25 ?_
    exact e_R (r' := 0) hx hb hr hlk (n_z (by first | exact bI_01 _ | (left; rfl) | (right; rfl) | omega)) (bI_f (by omega)) dX1_isShortNote_26
  · skip
    refine lv_aload_n hx hb dX1_isShortNote_8 rfl (lv_at hl 0 rfl) ?_
    refine zv_get hx hb hK hts hown hP 0 (by decide) q_fl_RX1_11 (v := .ref (ad 1)) rfl dX1_isShortNote_9 ?_
    refine z_iconst hx hb dX1_isShortNote_12 ?_
    refine zv_aT hx hb hK hP (2) (by decide) (i := 2) rfl dX1_isShortNote_13 ?_
    refine lv_iload_n hx hb dX1_isShortNote_14 rfl (lv_at hl 1 rfl) ?_
    refine zv_lT hx hb hK hP (2) (by decide) (i := i) (by omega) dX1_isShortNote_15 ?_
    refine z_bipush hx hb dX1_isShortNote_16 (by decide) ?_
    refine z_icmp_lt (a := T 2 (i)) (b := 8) (tgt := 25) hx hb dX1_isShortNote_18 (by decide) (by omega) (by omega) (fun h_18 => ?_) (fun h_18 => ?_)
    · skip
      refine z_iconst hx hb dX1_isShortNote_25 ?_
      exact e_R (r' := 0) hx hb hr hlk (n_z (by first | exact bI_01 _ | (left; rfl) | (right; rfl) | omega)) (bI_f (by omega)) dX1_isShortNote_26
    · skip
      refine z_iconst hx hb dX1_isShortNote_21 ?_
      refine lv_goto (tgt := 26) hx hb dX1_isShortNote_22 (by decide) ?_
      exact e_R (r' := 1) hx hb hr hlk (n_z (by first | exact bI_01 _ | (left; rfl) | (right; rfl) | omega)) (bI_t (by omega)) dX1_isShortNote_26
end
