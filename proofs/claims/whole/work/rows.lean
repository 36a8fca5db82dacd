section
-- ===== PART A: goes FIRST, ahead of the names: the tables' words, and 'selects' of the private methods out of them =====
/-- a private method of a class that the tables say can be made, by its rows of tables_1 -/
def lw_okq (q : MethodName × Nat) : Prop := (q.1.cls ≠ "java/lang/invoke/MethodHandle" ∧ q.1.cls ≠ "java/lang/invoke/VarHandle") ∧ Cond.instantiable q.1.cls q.2 ∈ tables_1 ∧ Cond.privateMethod q.1 ∈ tables_1 ∧ Cond.instanceMethod q.1 ∈ tables_1
theorem lw_p0 : lw_okq (⟨"OnboardingWorks", "joinerAt", "(I)LOnboardingWorks$Joiner;"⟩, 7) := ⟨⟨by decide +kernel, by decide +kernel⟩, List.mem_of_getElem? (i := 32) (by decide +kernel), List.mem_of_getElem? (i := 238) (by decide +kernel), List.mem_of_getElem? (i := 239) (by decide +kernel)⟩
theorem lw_p1 : lw_okq (⟨"java/lang/Throwable", "fillInStackTrace", "(I)Ljava/lang/Throwable;"⟩, 6) := ⟨⟨by decide +kernel, by decide +kernel⟩, List.mem_of_getElem? (i := 280) (by decide +kernel), List.mem_of_getElem? (i := 278) (by decide +kernel), List.mem_of_getElem? (i := 279) (by decide +kernel)⟩
theorem lw_p2 : lw_okq (⟨"OnboardingWorks$Forecast", "beginOf", "(LOnboardingWorks$Joiner;I)I"⟩, 7) := ⟨⟨by decide +kernel, by decide +kernel⟩, List.mem_of_getElem? (i := 134) (by decide +kernel), List.mem_of_getElem? (i := 333) (by decide +kernel), List.mem_of_getElem? (i := 334) (by decide +kernel)⟩
theorem lw_p3 : lw_okq (⟨"OnboardingWorks$Forecast", "withSupply", "(II)I"⟩, 7) := ⟨⟨by decide +kernel, by decide +kernel⟩, List.mem_of_getElem? (i := 134) (by decide +kernel), List.mem_of_getElem? (i := 347) (by decide +kernel), List.mem_of_getElem? (i := 348) (by decide +kernel)⟩
theorem lw_p4 : lw_okq (⟨"OnboardingWorks", "countLeft", "()I"⟩, 7) := ⟨⟨by decide +kernel, by decide +kernel⟩, List.mem_of_getElem? (i := 32) (by decide +kernel), List.mem_of_getElem? (i := 399) (by decide +kernel), List.mem_of_getElem? (i := 400) (by decide +kernel)⟩
theorem lw_p5 : lw_okq (⟨"OnboardingWorks", "countStepsIn", "(I)I"⟩, 7) := ⟨⟨by decide +kernel, by decide +kernel⟩, List.mem_of_getElem? (i := 32) (by decide +kernel), List.mem_of_getElem? (i := 403) (by decide +kernel), List.mem_of_getElem? (i := 404) (by decide +kernel)⟩
theorem lw_p6 : lw_okq (⟨"OnboardingWorks", "countRights", "()I"⟩, 7) := ⟨⟨by decide +kernel, by decide +kernel⟩, List.mem_of_getElem? (i := 32) (by decide +kernel), List.mem_of_getElem? (i := 413) (by decide +kernel), List.mem_of_getElem? (i := 414) (by decide +kernel)⟩
theorem lw_p7 : lw_okq (⟨"OnboardingWorks", "countWaitingFor", "(I)I"⟩, 7) := ⟨⟨by decide +kernel, by decide +kernel⟩, List.mem_of_getElem? (i := 32) (by decide +kernel), List.mem_of_getElem? (i := 437) (by decide +kernel), List.mem_of_getElem? (i := 438) (by decide +kernel)⟩
theorem lw_p8 : lw_okq (⟨"OnboardingWorks", "isReady", "(LOnboardingWorks$Joiner;I)Z"⟩, 7) := ⟨⟨by decide +kernel, by decide +kernel⟩, List.mem_of_getElem? (i := 32) (by decide +kernel), List.mem_of_getElem? (i := 441) (by decide +kernel), List.mem_of_getElem? (i := 442) (by decide +kernel)⟩
theorem lw_p9 : lw_okq (⟨"OnboardingWorks", "digestWith", "(JLOnboardingWorks$Joiner;)J"⟩, 7) := ⟨⟨by decide +kernel, by decide +kernel⟩, List.mem_of_getElem? (i := 32) (by decide +kernel), List.mem_of_getElem? (i := 460) (by decide +kernel), List.mem_of_getElem? (i := 461) (by decide +kernel)⟩
theorem lw_p10 : lw_okq (⟨"OnboardingWorks", "foreseenOfJoiner", "(LOnboardingWorks$Joiner;I)I"⟩, 7) := ⟨⟨by decide +kernel, by decide +kernel⟩, List.mem_of_getElem? (i := 32) (by decide +kernel), List.mem_of_getElem? (i := 464) (by decide +kernel), List.mem_of_getElem? (i := 465) (by decide +kernel)⟩
theorem lw_p11 : lw_okq (⟨"OnboardingWorks", "nextStep", "(LOnboardingWorks$Joiner;)I"⟩, 7) := ⟨⟨by decide +kernel, by decide +kernel⟩, List.mem_of_getElem? (i := 32) (by decide +kernel), List.mem_of_getElem? (i := 468) (by decide +kernel), List.mem_of_getElem? (i := 469) (by decide +kernel)⟩
theorem lw_p12 : lw_okq (⟨"OnboardingWorks", "foreseenOfStep", "(LOnboardingWorks$Joiner;II)I"⟩, 7) := ⟨⟨by decide +kernel, by decide +kernel⟩, List.mem_of_getElem? (i := 32) (by decide +kernel), List.mem_of_getElem? (i := 478) (by decide +kernel), List.mem_of_getElem? (i := 479) (by decide +kernel)⟩
theorem lw_p13 : lw_okq (⟨"OnboardingWorks", "countWaitingOn", "(LOnboardingWorks$Joiner;I)I"⟩, 7) := ⟨⟨by decide +kernel, by decide +kernel⟩, List.mem_of_getElem? (i := 32) (by decide +kernel), List.mem_of_getElem? (i := 483) (by decide +kernel), List.mem_of_getElem? (i := 484) (by decide +kernel)⟩
theorem lw_p14 : lw_okq (⟨"OnboardingWorks", "isAhead", "(I)Z"⟩, 7) := ⟨⟨by decide +kernel, by decide +kernel⟩, List.mem_of_getElem? (i := 32) (by decide +kernel), List.mem_of_getElem? (i := 566) (by decide +kernel), List.mem_of_getElem? (i := 567) (by decide +kernel)⟩
theorem lw_p15 : lw_okq (⟨"OnboardingWorks", "checkDelay", "(II)V"⟩, 7) := ⟨⟨by decide +kernel, by decide +kernel⟩, List.mem_of_getElem? (i := 32) (by decide +kernel), List.mem_of_getElem? (i := 583) (by decide +kernel), List.mem_of_getElem? (i := 584) (by decide +kernel)⟩
def lw_privs_1 : List (MethodName × Nat) := [(⟨"OnboardingWorks", "joinerAt", "(I)LOnboardingWorks$Joiner;"⟩, 7), (⟨"java/lang/Throwable", "fillInStackTrace", "(I)Ljava/lang/Throwable;"⟩, 6), (⟨"OnboardingWorks$Forecast", "beginOf", "(LOnboardingWorks$Joiner;I)I"⟩, 7), (⟨"OnboardingWorks$Forecast", "withSupply", "(II)I"⟩, 7), (⟨"OnboardingWorks", "countLeft", "()I"⟩, 7), (⟨"OnboardingWorks", "countStepsIn", "(I)I"⟩, 7), (⟨"OnboardingWorks", "countRights", "()I"⟩, 7), (⟨"OnboardingWorks", "countWaitingFor", "(I)I"⟩, 7), (⟨"OnboardingWorks", "isReady", "(LOnboardingWorks$Joiner;I)Z"⟩, 7), (⟨"OnboardingWorks", "digestWith", "(JLOnboardingWorks$Joiner;)J"⟩, 7), (⟨"OnboardingWorks", "foreseenOfJoiner", "(LOnboardingWorks$Joiner;I)I"⟩, 7), (⟨"OnboardingWorks", "nextStep", "(LOnboardingWorks$Joiner;)I"⟩, 7), (⟨"OnboardingWorks", "foreseenOfStep", "(LOnboardingWorks$Joiner;II)I"⟩, 7), (⟨"OnboardingWorks", "countWaitingOn", "(LOnboardingWorks$Joiner;I)I"⟩, 7), (⟨"OnboardingWorks", "isAhead", "(I)Z"⟩, 7), (⟨"OnboardingWorks", "checkDelay", "(II)V"⟩, 7)]
theorem lw_r1 : ∀ q ∈ lw_privs_1, lw_okq q := List.forall_mem_cons.mpr ⟨lw_p0, List.forall_mem_cons.mpr ⟨lw_p1, List.forall_mem_cons.mpr ⟨lw_p2, List.forall_mem_cons.mpr ⟨lw_p3, List.forall_mem_cons.mpr ⟨lw_p4, List.forall_mem_cons.mpr ⟨lw_p5, List.forall_mem_cons.mpr ⟨lw_p6, List.forall_mem_cons.mpr ⟨lw_p7, List.forall_mem_cons.mpr ⟨lw_p8, List.forall_mem_cons.mpr ⟨lw_p9, List.forall_mem_cons.mpr ⟨lw_p10, List.forall_mem_cons.mpr ⟨lw_p11, List.forall_mem_cons.mpr ⟨lw_p12, List.forall_mem_cons.mpr ⟨lw_p13, List.forall_mem_cons.mpr ⟨lw_p14, List.forall_mem_cons.mpr ⟨lw_p15, fun _ h => absurd h List.not_mem_nil⟩⟩⟩⟩⟩⟩⟩⟩⟩⟩⟩⟩⟩⟩⟩⟩
theorem lw_p16 : lw_okq (⟨"OnboardingWorks", "bookAll", "()V"⟩, 7) := ⟨⟨by decide +kernel, by decide +kernel⟩, List.mem_of_getElem? (i := 32) (by decide +kernel), List.mem_of_getElem? (i := 608) (by decide +kernel), List.mem_of_getElem? (i := 609) (by decide +kernel)⟩
theorem lw_p17 : lw_okq (⟨"OnboardingWorks", "bookFor", "(LOnboardingWorks$Joiner;)V"⟩, 7) := ⟨⟨by decide +kernel, by decide +kernel⟩, List.mem_of_getElem? (i := 32) (by decide +kernel), List.mem_of_getElem? (i := 613) (by decide +kernel), List.mem_of_getElem? (i := 614) (by decide +kernel)⟩
theorem lw_p18 : lw_okq (⟨"OnboardingWorks", "beginSteps", "(LOnboardingWorks$Joiner;)V"⟩, 7) := ⟨⟨by decide +kernel, by decide +kernel⟩, List.mem_of_getElem? (i := 32) (by decide +kernel), List.mem_of_getElem? (i := 669) (by decide +kernel), List.mem_of_getElem? (i := 670) (by decide +kernel)⟩
theorem lw_p19 : lw_okq (⟨"OnboardingWorks", "canBegin", "(LOnboardingWorks$Joiner;I)Z"⟩, 7) := ⟨⟨by decide +kernel, by decide +kernel⟩, List.mem_of_getElem? (i := 32) (by decide +kernel), List.mem_of_getElem? (i := 673) (by decide +kernel), List.mem_of_getElem? (i := 674) (by decide +kernel)⟩
theorem lw_p20 : lw_okq (⟨"OnboardingWorks", "loseSessions", "(LOnboardingWorks$Joiner;)V"⟩, 7) := ⟨⟨by decide +kernel, by decide +kernel⟩, List.mem_of_getElem? (i := 32) (by decide +kernel), List.mem_of_getElem? (i := 684) (by decide +kernel), List.mem_of_getElem? (i := 685) (by decide +kernel)⟩
theorem lw_p21 : lw_okq (⟨"OnboardingWorks", "takeBackStep", "(LOnboardingWorks$Joiner;)V"⟩, 7) := ⟨⟨by decide +kernel, by decide +kernel⟩, List.mem_of_getElem? (i := 32) (by decide +kernel), List.mem_of_getElem? (i := 688) (by decide +kernel), List.mem_of_getElem? (i := 689) (by decide +kernel)⟩
theorem lw_p22 : lw_okq (⟨"OnboardingWorksModel", "start", "(ZI)Z"⟩, 9) := ⟨⟨by decide +kernel, by decide +kernel⟩, List.mem_of_getElem? (i := 746) (by decide +kernel), List.mem_of_getElem? (i := 817) (by decide +kernel), List.mem_of_getElem? (i := 818) (by decide +kernel)⟩
theorem lw_p23 : lw_okq (⟨"OnboardingWorksModel", "refuse", "(ZI)Z"⟩, 9) := ⟨⟨by decide +kernel, by decide +kernel⟩, List.mem_of_getElem? (i := 746) (by decide +kernel), List.mem_of_getElem? (i := 821) (by decide +kernel), List.mem_of_getElem? (i := 822) (by decide +kernel)⟩
theorem lw_p24 : lw_okq (⟨"OnboardingWorksModel", "canBegin", "(LOnboardingWorksModel$Joiner;I)Z"⟩, 9) := ⟨⟨by decide +kernel, by decide +kernel⟩, List.mem_of_getElem? (i := 746) (by decide +kernel), List.mem_of_getElem? (i := 888) (by decide +kernel), List.mem_of_getElem? (i := 889) (by decide +kernel)⟩
theorem lw_p25 : lw_okq (⟨"OnboardingWorksModel", "isReady", "(LOnboardingWorksModel$Joiner;I)Z"⟩, 9) := ⟨⟨by decide +kernel, by decide +kernel⟩, List.mem_of_getElem? (i := 746) (by decide +kernel), List.mem_of_getElem? (i := 907) (by decide +kernel), List.mem_of_getElem? (i := 908) (by decide +kernel)⟩
theorem lw_p26 : lw_okq (⟨"OnboardingWorksModel", "isToday", "(LOnboardingWorksModel$Joiner;I)Z"⟩, 9) := ⟨⟨by decide +kernel, by decide +kernel⟩, List.mem_of_getElem? (i := 746) (by decide +kernel), List.mem_of_getElem? (i := 920) (by decide +kernel), List.mem_of_getElem? (i := 921) (by decide +kernel)⟩
theorem lw_p27 : lw_okq (⟨"OnboardingWorksModel", "begin", "(LOnboardingWorksModel$Joiner;I)V"⟩, 9) := ⟨⟨by decide +kernel, by decide +kernel⟩, List.mem_of_getElem? (i := 746) (by decide +kernel), List.mem_of_getElem? (i := 925) (by decide +kernel), List.mem_of_getElem? (i := 926) (by decide +kernel)⟩
theorem lw_p28 : lw_okq (⟨"OnboardingWorksModel", "length", "(LOnboardingWorksModel$Joiner;I)I"⟩, 9) := ⟨⟨by decide +kernel, by decide +kernel⟩, List.mem_of_getElem? (i := 746) (by decide +kernel), List.mem_of_getElem? (i := 929) (by decide +kernel), List.mem_of_getElem? (i := 930) (by decide +kernel)⟩
theorem lw_p29 : lw_okq (⟨"OnboardingWorksModel", "fresh", "(LOnboardingWorksModel$Joiner;I)I"⟩, 9) := ⟨⟨by decide +kernel, by decide +kernel⟩, List.mem_of_getElem? (i := 746) (by decide +kernel), List.mem_of_getElem? (i := 933) (by decide +kernel), List.mem_of_getElem? (i := 934) (by decide +kernel)⟩
theorem lw_p30 : lw_okq (⟨"OnboardingWorksModel", "bookAll", "()V"⟩, 9) := ⟨⟨by decide +kernel, by decide +kernel⟩, List.mem_of_getElem? (i := 746) (by decide +kernel), List.mem_of_getElem? (i := 938) (by decide +kernel), List.mem_of_getElem? (i := 939) (by decide +kernel)⟩
theorem lw_p31 : lw_okq (⟨"OnboardingWorksModel", "sessionFor", "(LOnboardingWorksModel$Joiner;I)I"⟩, 9) := ⟨⟨by decide +kernel, by decide +kernel⟩, List.mem_of_getElem? (i := 746) (by decide +kernel), List.mem_of_getElem? (i := 942) (by decide +kernel), List.mem_of_getElem? (i := 943) (by decide +kernel)⟩
def lw_privs_2 : List (MethodName × Nat) := [(⟨"OnboardingWorks", "bookAll", "()V"⟩, 7), (⟨"OnboardingWorks", "bookFor", "(LOnboardingWorks$Joiner;)V"⟩, 7), (⟨"OnboardingWorks", "beginSteps", "(LOnboardingWorks$Joiner;)V"⟩, 7), (⟨"OnboardingWorks", "canBegin", "(LOnboardingWorks$Joiner;I)Z"⟩, 7), (⟨"OnboardingWorks", "loseSessions", "(LOnboardingWorks$Joiner;)V"⟩, 7), (⟨"OnboardingWorks", "takeBackStep", "(LOnboardingWorks$Joiner;)V"⟩, 7), (⟨"OnboardingWorksModel", "start", "(ZI)Z"⟩, 9), (⟨"OnboardingWorksModel", "refuse", "(ZI)Z"⟩, 9), (⟨"OnboardingWorksModel", "canBegin", "(LOnboardingWorksModel$Joiner;I)Z"⟩, 9), (⟨"OnboardingWorksModel", "isReady", "(LOnboardingWorksModel$Joiner;I)Z"⟩, 9), (⟨"OnboardingWorksModel", "isToday", "(LOnboardingWorksModel$Joiner;I)Z"⟩, 9), (⟨"OnboardingWorksModel", "begin", "(LOnboardingWorksModel$Joiner;I)V"⟩, 9), (⟨"OnboardingWorksModel", "length", "(LOnboardingWorksModel$Joiner;I)I"⟩, 9), (⟨"OnboardingWorksModel", "fresh", "(LOnboardingWorksModel$Joiner;I)I"⟩, 9), (⟨"OnboardingWorksModel", "bookAll", "()V"⟩, 9), (⟨"OnboardingWorksModel", "sessionFor", "(LOnboardingWorksModel$Joiner;I)I"⟩, 9)]
theorem lw_r2 : ∀ q ∈ lw_privs_2, lw_okq q := List.forall_mem_cons.mpr ⟨lw_p16, List.forall_mem_cons.mpr ⟨lw_p17, List.forall_mem_cons.mpr ⟨lw_p18, List.forall_mem_cons.mpr ⟨lw_p19, List.forall_mem_cons.mpr ⟨lw_p20, List.forall_mem_cons.mpr ⟨lw_p21, List.forall_mem_cons.mpr ⟨lw_p22, List.forall_mem_cons.mpr ⟨lw_p23, List.forall_mem_cons.mpr ⟨lw_p24, List.forall_mem_cons.mpr ⟨lw_p25, List.forall_mem_cons.mpr ⟨lw_p26, List.forall_mem_cons.mpr ⟨lw_p27, List.forall_mem_cons.mpr ⟨lw_p28, List.forall_mem_cons.mpr ⟨lw_p29, List.forall_mem_cons.mpr ⟨lw_p30, List.forall_mem_cons.mpr ⟨lw_p31, fun _ h => absurd h List.not_mem_nil⟩⟩⟩⟩⟩⟩⟩⟩⟩⟩⟩⟩⟩⟩⟩⟩
theorem lw_p32 : lw_okq (⟨"OnboardingWorksModel", "expected", "(LOnboardingWorksModel$Joiner;I)I"⟩, 9) := ⟨⟨by decide +kernel, by decide +kernel⟩, List.mem_of_getElem? (i := 746) (by decide +kernel), List.mem_of_getElem? (i := 946) (by decide +kernel), List.mem_of_getElem? (i := 947) (by decide +kernel)⟩
theorem lw_p33 : lw_okq (⟨"OnboardingWorksModel", "end", "(LOnboardingWorksModel$Joiner;I)I"⟩, 9) := ⟨⟨by decide +kernel, by decide +kernel⟩, List.mem_of_getElem? (i := 746) (by decide +kernel), List.mem_of_getElem? (i := 952) (by decide +kernel), List.mem_of_getElem? (i := 953) (by decide +kernel)⟩
theorem lw_p34 : lw_okq (⟨"OnboardingWorksModel", "comes", "(I)I"⟩, 9) := ⟨⟨by decide +kernel, by decide +kernel⟩, List.mem_of_getElem? (i := 746) (by decide +kernel), List.mem_of_getElem? (i := 956) (by decide +kernel), List.mem_of_getElem? (i := 957) (by decide +kernel)⟩
theorem lw_p35 : lw_okq (⟨"OnboardingWorksModel", "seatsTaken", "(I)I"⟩, 9) := ⟨⟨by decide +kernel, by decide +kernel⟩, List.mem_of_getElem? (i := 746) (by decide +kernel), List.mem_of_getElem? (i := 960) (by decide +kernel), List.mem_of_getElem? (i := 961) (by decide +kernel)⟩
theorem lw_p36 : lw_okq (⟨"OnboardingWorksModel", "takeBack", "(LOnboardingWorksModel$Joiner;)V"⟩, 9) := ⟨⟨by decide +kernel, by decide +kernel⟩, List.mem_of_getElem? (i := 746) (by decide +kernel), List.mem_of_getElem? (i := 964) (by decide +kernel), List.mem_of_getElem? (i := 965) (by decide +kernel)⟩
theorem lw_p37 : lw_okq (⟨"OnboardingWorksModel", "isNoSet", "(I)Z"⟩, 9) := ⟨⟨by decide +kernel, by decide +kernel⟩, List.mem_of_getElem? (i := 746) (by decide +kernel), List.mem_of_getElem? (i := 979) (by decide +kernel), List.mem_of_getElem? (i := 980) (by decide +kernel)⟩
theorem lw_p38 : lw_okq (⟨"java/util/ArrayList", "add", "(Ljava/lang/Object;[Ljava/lang/Object;I)V"⟩, 3) := ⟨⟨by decide +kernel, by decide +kernel⟩, List.mem_of_getElem? (i := 752) (by decide +kernel), List.mem_of_getElem? (i := 1009) (by decide +kernel), List.mem_of_getElem? (i := 1010) (by decide +kernel)⟩
theorem lw_p39 : lw_okq (⟨"java/util/ArrayList", "grow", "()[Ljava/lang/Object;"⟩, 3) := ⟨⟨by decide +kernel, by decide +kernel⟩, List.mem_of_getElem? (i := 752) (by decide +kernel), List.mem_of_getElem? (i := 1013) (by decide +kernel), List.mem_of_getElem? (i := 1014) (by decide +kernel)⟩
theorem lw_p40 : lw_okq (⟨"java/util/ArrayList", "grow", "(I)[Ljava/lang/Object;"⟩, 3) := ⟨⟨by decide +kernel, by decide +kernel⟩, List.mem_of_getElem? (i := 752) (by decide +kernel), List.mem_of_getElem? (i := 1017) (by decide +kernel), List.mem_of_getElem? (i := 1018) (by decide +kernel)⟩
theorem lw_p41 : lw_okq (⟨"OnboardingWorksModel", "isNoDay", "(I)Z"⟩, 9) := ⟨⟨by decide +kernel, by decide +kernel⟩, List.mem_of_getElem? (i := 746) (by decide +kernel), List.mem_of_getElem? (i := 1107) (by decide +kernel), List.mem_of_getElem? (i := 1108) (by decide +kernel)⟩
theorem lw_p42 : lw_okq (⟨"OnboardingWorksModel", "isNoDelay", "(II)Z"⟩, 9) := ⟨⟨by decide +kernel, by decide +kernel⟩, List.mem_of_getElem? (i := 746) (by decide +kernel), List.mem_of_getElem? (i := 1136) (by decide +kernel), List.mem_of_getElem? (i := 1137) (by decide +kernel)⟩
theorem lw_p43 : lw_okq (⟨"OnboardingWorksModel", "ofSessionNow", "(II)I"⟩, 9) := ⟨⟨by decide +kernel, by decide +kernel⟩, List.mem_of_getElem? (i := 746) (by decide +kernel), List.mem_of_getElem? (i := 1166) (by decide +kernel), List.mem_of_getElem? (i := 1167) (by decide +kernel)⟩
theorem lw_p44 : lw_okq (⟨"OnboardingWorksModel", "ofItemNow", "(II)I"⟩, 9) := ⟨⟨by decide +kernel, by decide +kernel⟩, List.mem_of_getElem? (i := 746) (by decide +kernel), List.mem_of_getElem? (i := 1174) (by decide +kernel), List.mem_of_getElem? (i := 1175) (by decide +kernel)⟩
theorem lw_p45 : lw_okq (⟨"OnboardingWorksModel", "isNoJoiner", "(I)Z"⟩, 9) := ⟨⟨by decide +kernel, by decide +kernel⟩, List.mem_of_getElem? (i := 746) (by decide +kernel), List.mem_of_getElem? (i := 1223) (by decide +kernel), List.mem_of_getElem? (i := 1224) (by decide +kernel)⟩
theorem lw_p46 : lw_okq (⟨"OnboardingWorksModel", "isNo", "(I)Z"⟩, 9) := ⟨⟨by decide +kernel, by decide +kernel⟩, List.mem_of_getElem? (i := 746) (by decide +kernel), List.mem_of_getElem? (i := 1227) (by decide +kernel), List.mem_of_getElem? (i := 1228) (by decide +kernel)⟩
theorem lw_p47 : lw_okq (⟨"OnboardingWorksModel", "isNoStep", "(II)Z"⟩, 9) := ⟨⟨by decide +kernel, by decide +kernel⟩, List.mem_of_getElem? (i := 746) (by decide +kernel), List.mem_of_getElem? (i := 1239) (by decide +kernel), List.mem_of_getElem? (i := 1240) (by decide +kernel)⟩
def lw_privs_3 : List (MethodName × Nat) := [(⟨"OnboardingWorksModel", "expected", "(LOnboardingWorksModel$Joiner;I)I"⟩, 9), (⟨"OnboardingWorksModel", "end", "(LOnboardingWorksModel$Joiner;I)I"⟩, 9), (⟨"OnboardingWorksModel", "comes", "(I)I"⟩, 9), (⟨"OnboardingWorksModel", "seatsTaken", "(I)I"⟩, 9), (⟨"OnboardingWorksModel", "takeBack", "(LOnboardingWorksModel$Joiner;)V"⟩, 9), (⟨"OnboardingWorksModel", "isNoSet", "(I)Z"⟩, 9), (⟨"java/util/ArrayList", "add", "(Ljava/lang/Object;[Ljava/lang/Object;I)V"⟩, 3), (⟨"java/util/ArrayList", "grow", "()[Ljava/lang/Object;"⟩, 3), (⟨"java/util/ArrayList", "grow", "(I)[Ljava/lang/Object;"⟩, 3), (⟨"OnboardingWorksModel", "isNoDay", "(I)Z"⟩, 9), (⟨"OnboardingWorksModel", "isNoDelay", "(II)Z"⟩, 9), (⟨"OnboardingWorksModel", "ofSessionNow", "(II)I"⟩, 9), (⟨"OnboardingWorksModel", "ofItemNow", "(II)I"⟩, 9), (⟨"OnboardingWorksModel", "isNoJoiner", "(I)Z"⟩, 9), (⟨"OnboardingWorksModel", "isNo", "(I)Z"⟩, 9), (⟨"OnboardingWorksModel", "isNoStep", "(II)Z"⟩, 9)]
theorem lw_r3 : ∀ q ∈ lw_privs_3, lw_okq q := List.forall_mem_cons.mpr ⟨lw_p32, List.forall_mem_cons.mpr ⟨lw_p33, List.forall_mem_cons.mpr ⟨lw_p34, List.forall_mem_cons.mpr ⟨lw_p35, List.forall_mem_cons.mpr ⟨lw_p36, List.forall_mem_cons.mpr ⟨lw_p37, List.forall_mem_cons.mpr ⟨lw_p38, List.forall_mem_cons.mpr ⟨lw_p39, List.forall_mem_cons.mpr ⟨lw_p40, List.forall_mem_cons.mpr ⟨lw_p41, List.forall_mem_cons.mpr ⟨lw_p42, List.forall_mem_cons.mpr ⟨lw_p43, List.forall_mem_cons.mpr ⟨lw_p44, List.forall_mem_cons.mpr ⟨lw_p45, List.forall_mem_cons.mpr ⟨lw_p46, List.forall_mem_cons.mpr ⟨lw_p47, fun _ h => absurd h List.not_mem_nil⟩⟩⟩⟩⟩⟩⟩⟩⟩⟩⟩⟩⟩⟩⟩⟩
theorem lw_p48 : lw_okq (⟨"OnboardingWorksModel", "ofStepNow", "(LOnboardingWorksModel$Joiner;II)I"⟩, 9) := ⟨⟨by decide +kernel, by decide +kernel⟩, List.mem_of_getElem? (i := 746) (by decide +kernel), List.mem_of_getElem? (i := 1244) (by decide +kernel), List.mem_of_getElem? (i := 1245) (by decide +kernel)⟩
theorem lw_p49 : lw_okq (⟨"OnboardingWorksModel", "ofJoinerNow", "(LOnboardingWorksModel$Joiner;I)I"⟩, 9) := ⟨⟨by decide +kernel, by decide +kernel⟩, List.mem_of_getElem? (i := 746) (by decide +kernel), List.mem_of_getElem? (i := 1252) (by decide +kernel), List.mem_of_getElem? (i := 1253) (by decide +kernel)⟩
theorem lw_p50 : lw_okq (⟨"OnboardingWorksModel", "rightsOf", "(LOnboardingWorksModel$Joiner;)I"⟩, 9) := ⟨⟨by decide +kernel, by decide +kernel⟩, List.mem_of_getElem? (i := 746) (by decide +kernel), List.mem_of_getElem? (i := 1256) (by decide +kernel), List.mem_of_getElem? (i := 1257) (by decide +kernel)⟩
theorem lw_p51 : lw_okq (⟨"OnboardingWorksModel", "endOf", "(LOnboardingWorksModel$Joiner;)I"⟩, 9) := ⟨⟨by decide +kernel, by decide +kernel⟩, List.mem_of_getElem? (i := 746) (by decide +kernel), List.mem_of_getElem? (i := 1266) (by decide +kernel), List.mem_of_getElem? (i := 1267) (by decide +kernel)⟩
theorem lw_p52 : lw_okq (⟨"OnboardingWorksModel", "end", "(LOnboardingWorksModel$Joiner;J)I"⟩, 9) := ⟨⟨by decide +kernel, by decide +kernel⟩, List.mem_of_getElem? (i := 746) (by decide +kernel), List.mem_of_getElem? (i := 1270) (by decide +kernel), List.mem_of_getElem? (i := 1271) (by decide +kernel)⟩
theorem lw_p53 : lw_okq (⟨"OnboardingWorksModel", "count", "(I)I"⟩, 9) := ⟨⟨by decide +kernel, by decide +kernel⟩, List.mem_of_getElem? (i := 746) (by decide +kernel), List.mem_of_getElem? (i := 1278) (by decide +kernel), List.mem_of_getElem? (i := 1279) (by decide +kernel)⟩
theorem lw_p54 : lw_okq (⟨"OnboardingWorksModel", "rightOnNow", "(LOnboardingWorksModel$Joiner;I)I"⟩, 9) := ⟨⟨by decide +kernel, by decide +kernel⟩, List.mem_of_getElem? (i := 746) (by decide +kernel), List.mem_of_getElem? (i := 1290) (by decide +kernel), List.mem_of_getElem? (i := 1291) (by decide +kernel)⟩
theorem lw_p55 : lw_okq (⟨"OnboardingWorksModel", "nextNow", "(LOnboardingWorksModel$Joiner;)I"⟩, 9) := ⟨⟨by decide +kernel, by decide +kernel⟩, List.mem_of_getElem? (i := 746) (by decide +kernel), List.mem_of_getElem? (i := 1302) (by decide +kernel), List.mem_of_getElem? (i := 1303) (by decide +kernel)⟩
theorem lw_p56 : lw_okq (⟨"OnboardingWorksModel", "waitForNow", "(LOnboardingWorksModel$Joiner;I)I"⟩, 9) := ⟨⟨by decide +kernel, by decide +kernel⟩, List.mem_of_getElem? (i := 746) (by decide +kernel), List.mem_of_getElem? (i := 1310) (by decide +kernel), List.mem_of_getElem? (i := 1311) (by decide +kernel)⟩
def lw_privs_4 : List (MethodName × Nat) := [(⟨"OnboardingWorksModel", "ofStepNow", "(LOnboardingWorksModel$Joiner;II)I"⟩, 9), (⟨"OnboardingWorksModel", "ofJoinerNow", "(LOnboardingWorksModel$Joiner;I)I"⟩, 9), (⟨"OnboardingWorksModel", "rightsOf", "(LOnboardingWorksModel$Joiner;)I"⟩, 9), (⟨"OnboardingWorksModel", "endOf", "(LOnboardingWorksModel$Joiner;)I"⟩, 9), (⟨"OnboardingWorksModel", "end", "(LOnboardingWorksModel$Joiner;J)I"⟩, 9), (⟨"OnboardingWorksModel", "count", "(I)I"⟩, 9), (⟨"OnboardingWorksModel", "rightOnNow", "(LOnboardingWorksModel$Joiner;I)I"⟩, 9), (⟨"OnboardingWorksModel", "nextNow", "(LOnboardingWorksModel$Joiner;)I"⟩, 9), (⟨"OnboardingWorksModel", "waitForNow", "(LOnboardingWorksModel$Joiner;I)I"⟩, 9)]
theorem lw_r4 : ∀ q ∈ lw_privs_4, lw_okq q := List.forall_mem_cons.mpr ⟨lw_p48, List.forall_mem_cons.mpr ⟨lw_p49, List.forall_mem_cons.mpr ⟨lw_p50, List.forall_mem_cons.mpr ⟨lw_p51, List.forall_mem_cons.mpr ⟨lw_p52, List.forall_mem_cons.mpr ⟨lw_p53, List.forall_mem_cons.mpr ⟨lw_p54, List.forall_mem_cons.mpr ⟨lw_p55, List.forall_mem_cons.mpr ⟨lw_p56, fun _ h => absurd h List.not_mem_nil⟩⟩⟩⟩⟩⟩⟩⟩⟩
def lw_privs : List (MethodName × Nat) := lw_privs_1 ++ (lw_privs_2 ++ (lw_privs_3 ++ (lw_privs_4)))
def lw_tbl : List Cond := k2_sels lw_privs ++ tables_1
theorem lw_privs_ok : ∀ q ∈ lw_privs, lw_okq q := by
  show ∀ q ∈ lw_privs_1 ++ (lw_privs_2 ++ (lw_privs_3 ++ (lw_privs_4))), lw_okq q
  exact List.forall_mem_append.mpr ⟨lw_r1, List.forall_mem_append.mpr ⟨lw_r2, List.forall_mem_append.mpr ⟨lw_r3, lw_r4⟩⟩⟩
/-- the streams that the claim lets the run draw from -/
abbrev lw_cs : List Choice := [Jvm.Choice.named "NaN.bits"]
theorem lw_bits : nanBits ∈ lw_cs := by first | decide | exact List.mem_cons_self | simp [lw_cs, nanBits]
end
section
/-! ===== BEGIN words of one list among another's, by their places ===== -/
theorem goodIn_r {big : List Cond} (ws : List Cond) (ps : List Nat) (hp : ws = ps.filterMap (fun i => big[i]?)) (h : ws.all goodWord = true) : GoodIn big ws := by
  intro w hw
  have h1 := List.all_eq_true.mp h w hw
  rw [hp] at hw
  obtain ⟨i, -, hi⟩ := List.mem_filterMap.mp hw
  have hm : w ∈ big := by first | exact List.mem_of_getElem? hi | exact List.getElem?_mem hi
  exact ⟨hm, good_of_word h1⟩
theorem goodIn_app {big a b : List Cond} (ha : GoodIn big a) (hb : GoodIn big b) : GoodIn big (a ++ b) := fun w h => (List.mem_append.mp h).elim (ha w) (hb w)
theorem goodIn_ca {big a b : List Cond} {c : Cond} (ha : GoodIn big (c :: a)) (hb : GoodIn big b) : GoodIn big (c :: (a ++ b)) := fun w h => (List.mem_cons.mp h).elim (fun e => ha w (List.mem_cons.mpr (Or.inl e))) (fun h => (List.mem_append.mp h).elim (fun h => ha w (List.mem_cons.mpr (Or.inr h))) (hb w))
theorem goodIn_sub {big ws : List Cond} (hm : ∀ w ∈ ws, w ∈ big) (h : ws.all goodWord = true) : GoodIn big ws := fun w hw => ⟨hm w hw, good_of_word (List.all_eq_true.mp h w hw)⟩
/-! ===== END ===== -/

/-! ===== BEGIN exceptions that leave a method, and their catching by the caller (launches without stack traces) ===== -/
section VXA
/-! The laws vx_back, vx_callV, vx_callS, vx_callSW, vx_throw0, vx_throwS follow proofs of the library, with one case more: JvmDerived/Free/Laws.lean (Back.of_free), Shelf42/LK1.lean (callV, callS), Shelf/KitTraced.lean (throwNew0V, throwNewS). -/
/-- where a method has thrown q: the class by its name, the cell, what was written, the world -/
def vx_T (XC : String → State → State → Prop) (st : State) (q : Addr) (t : State) (mc ms : Nat) (free : Addr → Prop) : Prop :=
  ∃ (E : String) (ce : Cell) (L : List Loc), XC E st t ∧ t.heap[q]? = some ce ∧ ce.vm = .none ∧ st.vm.findClass E = some ce.cls ∧ st.WarmedH t.vm ∧ st.sameButNew ({ t with vm := st.vm } : State) L mc ms ∧ ∀ z ∈ L, free z.base
def vx_Q (Qc : Array Value → State → Outcome → State → Prop) (XC : String → State → State → Prop) (mc ms : Nat) (free : Addr → Prop) : Array Value → State → Outcome → State → Prop := fun a st o t =>
  (Qc a st o t ∧ ∃ L, FrameEnd st o t L mc ms ∧ ∀ q ∈ L, free q.base) ∨ ∃ q, o = .threw q ∧ vx_T XC st q t mc ms free
/-- a callee that returns or throws -/
def vx_Met (l : Launch) (y : MethodName) (ws : List Cond) (rm : Room) (Pc : Array Value → State → Prop) (Qc : Array Value → State → Outcome → State → Prop) (XC : String → State → State → Prop) (mc ms : Nat) (free : Addr → Prop) : Prop :=
  MetFree l y (headSpec ws rm) Pc (fun _ _ _ _ _ => True) (vx_Q Qc XC mc ms free)
def vx_Post (XC : String → State → State → Prop) (mc ms : Nat) (free : Addr → Prop) : Pt → Array Value → Addr → Pt → Prop := fun A a q B =>
  ∃ (g : JFrame) (mk : MethodId) (t : State) (L : List Loc) (E : String) (ce : Cell), B.U.heap = t.heap ∧ B.U.vm = t.vm ∧ XC E (A.U.calling g mk a) t ∧ t.heap[q]? = some ce ∧ ce.vm = .none ∧ A.U.vm.findClass E = some ce.cls ∧ B.locs = A.locs ++ L ∧ (∀ z ∈ L, free z.base) ∧ B.cells = A.cells + mc ∧ B.slots = A.slots + ms
def vx_Back (l : Launch) (R : Room) (p : Program) (e : Env) (below : List Frame) (s : State) (sargs : Array Value) (y : MethodName) (len W9 : Nat)
    (Pre : Pt → Array Value → Prop) (Post : Pt → Array Value → Option Value → Pt → Prop) (PostX : Pt → Array Value → Addr → Pt → Prop) : Prop :=
  ∀ (m : MethodId) (meth : Method) (c : Code) (A : Pt) (g : JFrame) (ig : Instr) (mk : MethodId) (a : Array Value),
    Stand p l e R s m sargs below meth c A.U A.locs A.cells A.slots → g.method = m → g.locals.size = c.maxLocals → decode c.code g.pc = .ok (ig, len) →
    2 * g.monitorRoom + (g.stack.map fun v => v.category).sum ≤ W9 → A.U.methodNamed? y = some mk → Pre A a →
    (∃ (v : Option Value) (B : Pt), Stand p l e R s m sargs below meth c B.U B.locs B.cells B.slots ∧ Post A a v B ∧
      Steps p.tables e below (doInvoke e (A.U.setTop g) [] mk a).1 (B.U.setTop { g with pc := g.pc + len, stack := v.toList ++ g.stack })) ∨
    (∃ (q : Addr) (B : Pt), Stand p l e R s m sargs below meth c B.U B.locs B.cells B.slots ∧ PostX A a q B ∧
      Steps p.tables e below (doInvoke e (A.U.setTop g) [] mk a).1 ((B.U.setTop g).pushFrame (.throwing q)))
section Payer
variable {l : Launch} {R : Room} {p : Program} {e : Env} {below : List Frame} {s : State} {sargs : Array Value} {y : MethodName} {len W9 : Nat}
theorem vx_back {ws : List Cond} {rm : Room} {Pc : Array Value → State → Prop} {Qc : Array Value → State → Outcome → State → Prop} {XC : String → State → State → Prop} {mc ms : Nat} {free : Addr → Prop} {bytes : ByteArray} {maxL : Nat} {ret : Option FieldType}
    (hM : vx_Met l y ws rm Pc Qc XC mc ms free) (hblind : FrameBlind Pc) (hrc : rm.cells = mc) (hrs : rm.slots = ms)
    (hframes : rm.frames + 1 ≤ R.frames) (hlocals : W9 + (maxL + 11) + rm.locals ≤ R.locals)
    (hws : ∀ w ∈ ws, ∀ a' U, s.WarmedH U.vm → w.before a' U = true) (hcode : Cond.code y bytes maxL ret ∈ ws) (hinit : ∀ a' U, s.WarmedH U.vm → (Cond.initialized y.cls).before a' U = true) :
    vx_Back l R p e below s sargs y len W9 (PreOf R mc ms Pc) (PostOf Qc mc ms free) (vx_Post XC mc ms free) := by
  intro m meth c A g ig mk a X hg hsize hdg hW hn hp
  have h1 : (headSpec ws rm).pre.before a A.U = true := atoms_intro fun w hw => hws w hw _ _ X.warmed
  have h2 : (Cond.code y bytes maxL ret).before a A.U = true := hws _ hcode _ _ X.warmed
  have h3 : (Cond.initialized y.cls).before a A.U = true := hinit _ _ X.warmed
  have h4 : A.cells + (headSpec ws rm).room.cells ≤ R.cells := by rw [show (headSpec ws rm).room.cells = mc from hrc]; exact hp.1
  have h5 : A.slots + (headSpec ws rm).room.slots ≤ R.slots := by rw [show (headSpec ws rm).room.slots = ms from hrs]; exact hp.2.1
  have hPc : Pc a (A.U.calling g mk a) := hblind _ _ _ _ hp.2.2
  obtain ⟨U, Ls, c0, s0⟩ := A
  dsimp only [Pt.U, Pt.locs, Pt.cells, Pt.slots] at h1 h2 h3 h4 h5 X hn hPc ⊢
  obtain ⟨methY, cY, hmY, hcY, -, hlY, -, -, -, -⟩ := Cond.code_spec hn h2
  obtain ⟨kY, hkY, -⟩ := className_of_methodNamed hn
  have hinitY : kY.init = .initialized := Cond.initialized_spec (findClass_of_methodNamed hn) hkY h3
  have h : At U g.method c below := by rw [hg]; exact X.here
  have hlocals9 : W9 + (maxL + 11) + (headSpec ws rm).room.locals ≤ R.locals := hlocals
  have happ : (headSpec ws rm).appliesLoose y e.platform (U.calling g mk a) = true :=
    Spec.appliesLoose_calling (g := g) h hdg hn hkY hinitY
      (X.room_calling (g := g) (R' := (headSpec ws rm).room) hsize hmY hcY hframes (by rw [hlY]; omega) h4 h5) h1
  obtain ⟨mid, hmid⟩ := h.above
  have hfr : (U.setTop g).frames = (.java g :: mid) ++ below := by rw [State.frames_setTop' g h.top, hmid]; rfl
  obtain ⟨o, s₂, hsteps, -, hend, hq⟩ := Steps.callFree hM p X.admits X.cas X.clock (acts := []) hfr happ hPc trivial
  have hq' : vx_Q Qc XC mc ms free a (U.calling g mk a) o s₂ := hq
  rw [State.frames_setTop' g h.top] at hend
  obtain ⟨g₀, hg0⟩ := Option.isSome_iff_exists.mp h.top
  obtain ⟨r, hr⟩ := State.topJava?_eq_some.mp hg0
  have hr' : (({ U with heap := s₂.heap, slotsUsed := s₂.slotsUsed } : State).setVm s₂.vm).frames = .java g₀ :: r := hr
  rcases hq' with ⟨hqc, L, hfe, hL⟩ | ⟨q, rfl, E, ce, L, hx, hce, hcv, hcl, hW₂, hsm, hL⟩
  · obtain ⟨⟨v, rfl⟩, hW₂, e2, q2, q3, q4, q5, q6⟩ := id hfe
    have e3 : s₂ = ({ (U.calling g mk a).setFrames s₂.frames with heap := s₂.heap, slotsUsed := s₂.slotsUsed } : State).setVm s₂.vm := by
      have : s₂ = ({ s₂ with vm := (U.calling g mk a).vm } : State).setVm s₂.vm := rfl
      rw [e2] at this
      exact this
    obtain ⟨c₂, i₂, len₂, hc₂, hd₂, hf₂⟩ := hend
    have hW' : U.WarmedH s₂.vm := hW₂
    have hcc : c₂ = c := by
      have h1 : s₂.code? g.method = U.code? g.method := by
        rw [State.code?_eq, State.code?_eq, hW'.alike.method?]
      exact Option.some.inj (hc₂.symm.trans (h1.trans h.code))
    subst hcc
    have hlen : len₂ = len := by rw [hdg] at hd₂; cases hd₂; rfl
    subst hlen
    have hs₂ : s₂ = (({ U with heap := s₂.heap, slotsUsed := s₂.slotsUsed } : State).setVm s₂.vm).setTop { g with pc := g.pc + len₂, stack := v.toList ++ g.stack } := by
      refine e3.trans ?_
      rw [hf₂, State.calling_eq h.top, State.setFrames_setFrames, State.setTop_of_frames _ hr', hr]
      rfl
    have hsame : U.sameButNew ({ U with heap := s₂.heap, slotsUsed := s₂.slotsUsed } : State) L mc ms := by
      refine ⟨?_, q2, q3, q4, q5, q6⟩
      obtain ⟨t, ht, -⟩ := State.frames_cons hr
      show ({ U with heap := s₂.heap, slotsUsed := s₂.slotsUsed } : State) = { U.setFrames U.frames with heap := s₂.heap, slotsUsed := s₂.slotsUsed }
      rw [State.setFrames_self ht]
    subst hg
    refine Or.inl ⟨v, ⟨(({ U with heap := s₂.heap, slotsUsed := s₂.slotsUsed } : State).setVm s₂.vm), Ls ++ L, c0 + mc, s0 + ms⟩,
      ⟨X.admits, X.cas, X.clock, X.frames, X.room, X.hears, X.method, X.code, (X.here.setHeapUsed s₂.heap s₂.slotsUsed).setVm hW'.alike, X.tail, State.WarmedH.trans X.warmed hW', X.limits, X.bytes, X.same.trans (hsame.setVm s.vm)⟩,
      ⟨g, mk, s₂, L, rfl, rfl, hqc, rfl, hL, rfl, rfl⟩, ?_⟩
    show Steps p.tables e below _ ((({ U with heap := s₂.heap, slotsUsed := s₂.slotsUsed } : State).setVm s₂.vm).setTop { g with pc := g.pc + len₂, stack := v.toList ++ g.stack })
    rw [← hs₂]
    exact hsteps
  · obtain ⟨e2, q2, q3, q4, q5, q6⟩ := id hsm
    have e3 : s₂ = ({ (U.calling g mk a).setFrames s₂.frames with heap := s₂.heap, slotsUsed := s₂.slotsUsed } : State).setVm s₂.vm := by
      have : s₂ = ({ s₂ with vm := (U.calling g mk a).vm } : State).setVm s₂.vm := rfl
      rw [e2] at this
      exact this
    have hf₂ : s₂.frames = .throwing q :: .java g :: U.frames.tail := hend
    have hW' : U.WarmedH s₂.vm := hW₂
    have hs₂ : s₂ = ((({ U with heap := s₂.heap, slotsUsed := s₂.slotsUsed } : State).setVm s₂.vm).setTop g).pushFrame (.throwing q) := by
      refine e3.trans ?_
      rw [hf₂, State.calling_eq h.top, State.setFrames_setFrames, State.pushFrame, State.frames_setTop _ hr', State.setTop_of_frames _ hr', State.setFrames_setFrames, hr]
      rfl
    have hsame : U.sameButNew ({ U with heap := s₂.heap, slotsUsed := s₂.slotsUsed } : State) L mc ms := by
      refine ⟨?_, q2, q3, q4, q5, q6⟩
      obtain ⟨t, ht, -⟩ := State.frames_cons hr
      show ({ U with heap := s₂.heap, slotsUsed := s₂.slotsUsed } : State) = { U.setFrames U.frames with heap := s₂.heap, slotsUsed := s₂.slotsUsed }
      rw [State.setFrames_self ht]
    subst hg
    refine Or.inr ⟨q, ⟨(({ U with heap := s₂.heap, slotsUsed := s₂.slotsUsed } : State).setVm s₂.vm), Ls ++ L, c0 + mc, s0 + ms⟩,
      ⟨X.admits, X.cas, X.clock, X.frames, X.room, X.hears, X.method, X.code, (X.here.setHeapUsed s₂.heap s₂.slotsUsed).setVm hW'.alike, X.tail, State.WarmedH.trans X.warmed hW', X.limits, X.bytes, X.same.trans (hsame.setVm s.vm)⟩,
      ⟨g, mk, s₂, L, E, ce, rfl, rfl, hx, hce, hcv, hcl, rfl, hL, rfl, rfl⟩, ?_⟩
    show Steps p.tables e below _ (((({ U with heap := s₂.heap, slotsUsed := s₂.slotsUsed } : State).setVm s₂.vm).setTop g).pushFrame (.throwing q))
    rw [← hs₂]
    exact hsteps
end Payer
section Calls
variable {p : Program} {l : Launch} {e : Env} {R : Room} {s : State} {m : MethodId} {args : Array Value} {below : List Frame} {meth : Method} {c : Code} {T : State} {locs : List Loc} {cells slots : Nat}
theorem vx_callV (X : Stand p l e R s m args below meth c T locs cells slots) (hexec : p.tables.exec = Jvm.exec) {own C : String} {index : Nat} {y : MethodName} {bytes : ByteArray} {maxL : Nat} {ret : Option FieldType}
    (hown : s.vm.findClass own = some m.cls) (hlink : (Cond.methodLink own index y).before args s = true) (hinst : (Cond.instanceMethod y).before args s = true) (hsel : (Cond.selects C y y).before args s = true)
    (hcode : (Cond.code y bytes maxL ret).before args s = true) (hy : y.cls ≠ "java/lang/invoke/MethodHandle" ∧ y.cls ≠ "java/lang/invoke/VarHandle")
    {W9 : Nat} {Pre : Pt → Array Value → Prop} {Post : Pt → Array Value → Option Value → Pt → Prop} {PostX : Pt → Array Value → Addr → Pt → Prop} (hK : vx_Back l R p e below s args y 3 W9 Pre Post PostX)
    {b : Addr} {cellB : Cell} (hcell : T.heap[b]? = some cellB) (hobj : cellB.vm.isStatics = false) (hcls : s.vm.findClass C = some cellB.cls)
    {g : JFrame} (hg : g.method = m) (hsize : g.locals.size = c.maxLocals) {argsL rest : List Value} (hlen : ∀ sig, parseMethodDescriptor y.desc = some sig → argsL.length = sig.parameters.length)
    (hstack : g.stack = argsL.reverse ++ .ref b :: rest) (hW : 2 * g.monitorRoom + (rest.map fun v => v.category).sum ≤ W9) (hdg : decode c.code g.pc = .ok (.invokevirtual index, 3))
    (hpre : ∀ vm₁, s.WarmedH vm₁ → Pre ⟨T.setVm vm₁, locs, cells, slots⟩ (Value.ref b :: argsL).toArray) :
    (∃ (v : Option Value) (vm₁ : Vm) (B : Pt), s.WarmedH vm₁ ∧ Stand p l e R s m args below meth c B.U B.locs B.cells B.slots ∧ Post ⟨T.setVm vm₁, locs, cells, slots⟩ (Value.ref b :: argsL).toArray v B ∧
      ∀ target, Steps p.tables e below (B.U.setTop { g with pc := g.pc + 3, stack := v.toList ++ rest }) target → Steps p.tables e below (T.setTop g) target) ∨
    (∃ (q : Addr) (vm₁ : Vm) (B : Pt), s.WarmedH vm₁ ∧ Stand p l e R s m args below meth c B.U B.locs B.cells B.slots ∧ PostX ⟨T.setVm vm₁, locs, cells, slots⟩ (Value.ref b :: argsL).toArray q B ∧
      Steps p.tables e below (T.setTop g) ((B.U.setTop { g with stack := rest }).pushFrame (.throwing q))) := by
  obtain ⟨mk, methM, hnamed, hmethM, hstM, habM⟩ := Cond.instanceMethod_spec hinst
  obtain ⟨methM', cM, hmethM', -, -, -, -, -, -, hsigM⟩ := Cond.code_spec hnamed hcode
  cases hmethM.symm.trans hmethM'
  obtain ⟨c2, r2, m2, q1, q2, q3, q4, kP, hkP, hkPi⟩ := Cond.selects_spec hsel
  cases hcls.symm.trans q1
  cases (State.methodFound?_of_named hnamed hy).symm.trans q2
  cases hnamed.symm.trans q3
  have hselP : selectMethod e.platform s.vm cellB.cls mk = .method mk := by rw [Launch.admits_selectMethod X.admits]; exact q4
  obtain ⟨vm₁, X₁, hstep₁⟩ := X.invokevirtual hexec hown hlink hnamed hmethM hstM hkP hkPi hy (a := b) (cell := cellB) hcell
    (fun z h => by rw [h] at hobj; cases hobj) hselP hmethM habM hkP hkPi (g := g) hg (argsL := argsL) (rest := rest) (hlen _ hsigM) hstack hdg
  rcases hK m meth c ⟨T.setVm vm₁, locs, cells, slots⟩ { g with stack := rest } (.invokevirtual index) mk (Value.ref b :: argsL).toArray X₁ hg hsize hdg hW (X₁.named hnamed) (hpre vm₁ X₁.warmed) with ⟨v, B, X', hpost, hsteps⟩ | ⟨q, B, X', hpost, hsteps⟩
  · exact Or.inl ⟨v, vm₁, B, X₁.warmed, X', hpost, fun target h => hstep₁ _ fun acts => by rw [doInvoke_state]; exact hsteps.trans h⟩
  · exact Or.inr ⟨q, vm₁, B, X₁.warmed, X', hpost, hstep₁ _ fun acts => by rw [doInvoke_state]; exact hsteps⟩
theorem vx_callS (X : Stand p l e R s m args below meth c T locs cells slots) (hexec : p.tables.exec = Jvm.exec) {own : String} {index : Nat} {y : MethodName} {bytes : ByteArray} {maxL : Nat} {ret : Option FieldType}
    (hown : s.vm.findClass own = some m.cls) (hlink : (Cond.methodLink own index y).before args s = true) (hstat : (Cond.static y).before args s = true) (hinit : (Cond.initialized y.cls).before args s = true)
    (hcode : (Cond.code y bytes maxL ret).before args s = true) (hy : y.cls ≠ "java/lang/invoke/MethodHandle" ∧ y.cls ≠ "java/lang/invoke/VarHandle")
    {W9 : Nat} {Pre : Pt → Array Value → Prop} {Post : Pt → Array Value → Option Value → Pt → Prop} {PostX : Pt → Array Value → Addr → Pt → Prop} (hK : vx_Back l R p e below s args y 3 W9 Pre Post PostX)
    {g : JFrame} (hg : g.method = m) (hsize : g.locals.size = c.maxLocals) {argsL rest : List Value} (hlen : ∀ sig, parseMethodDescriptor y.desc = some sig → argsL.length = sig.parameters.length)
    (hstack : g.stack = argsL.reverse ++ rest) (hW : 2 * g.monitorRoom + (rest.map fun v => v.category).sum ≤ W9) (hdg : decode c.code g.pc = .ok (.invokestatic index, 3))
    (hpre : ∀ vm₁, s.WarmedH vm₁ → Pre ⟨T.setVm vm₁, locs, cells, slots⟩ argsL.toArray) :
    (∃ (v : Option Value) (vm₁ : Vm) (B : Pt), s.WarmedH vm₁ ∧ Stand p l e R s m args below meth c B.U B.locs B.cells B.slots ∧ Post ⟨T.setVm vm₁, locs, cells, slots⟩ argsL.toArray v B ∧
      ∀ target, Steps p.tables e below (B.U.setTop { g with pc := g.pc + 3, stack := v.toList ++ rest }) target → Steps p.tables e below (T.setTop g) target) ∨
    (∃ (q : Addr) (vm₁ : Vm) (B : Pt), s.WarmedH vm₁ ∧ Stand p l e R s m args below meth c B.U B.locs B.cells B.slots ∧ PostX ⟨T.setVm vm₁, locs, cells, slots⟩ argsL.toArray q B ∧
      Steps p.tables e below (T.setTop g) ((B.U.setTop { g with stack := rest }).pushFrame (.throwing q))) := by
  obtain ⟨mk, hnamed⟩ := Cond.code_named hcode
  obtain ⟨methM, cM, hmethM, -, -, -, -, -, -, hsigM⟩ := Cond.code_spec hnamed hcode
  have hstatic : methM.isStatic = true := Cond.static_spec hnamed hmethM hstat
  obtain ⟨kP, hkP, -⟩ := className_of_methodNamed hnamed
  have hinitP : kP.init = .initialized := Cond.initialized_spec (findClass_of_methodNamed hnamed) hkP hinit
  obtain ⟨vm₁, X₁, hstep₁⟩ := X.invokestatic hexec hown hlink hnamed hmethM hstatic hkP hinitP hy (g := g) hg (argsL := argsL) (rest := rest) (hlen _ hsigM) hstack hdg
  rcases hK m meth c ⟨T.setVm vm₁, locs, cells, slots⟩ { g with stack := rest } (.invokestatic index) mk argsL.toArray X₁ hg hsize hdg hW (X₁.named hnamed) (hpre vm₁ X₁.warmed) with ⟨v, B, X', hpost, hsteps⟩ | ⟨q, B, X', hpost, hsteps⟩
  · exact Or.inl ⟨v, vm₁, B, X₁.warmed, X', hpost, fun target h => hstep₁ _ fun acts => by rw [doInvoke_state]; exact hsteps.trans h⟩
  · exact Or.inr ⟨q, vm₁, B, X₁.warmed, X', hpost, hstep₁ _ fun acts => by rw [doInvoke_state]; exact hsteps⟩
end Calls
theorem vx_cls {s : State} {T : State} {vm₁ : Vm} {E : String} {k : ClassId} (hW : s.WarmedH vm₁) (h : (T.setVm vm₁).vm.findClass E = some k) : s.vm.findClass E = some k := by
  have h1 : vm₁.findClass E = some k := h
  rw [hW.alike.findClass] at h1
  exact h1
/-- the method's frame g, with q thrown over it -/
def vx_W (p : Program) (l : Launch) (e : Env) (R : Room) (s : State) (m : MethodId) (args : Array Value) (below : List Frame) (meth : Method) (c : Code) (H : Heap) (locs : List Loc) (cells slots : Nat) (Q : State → Prop) (g : JFrame) (q : Addr) : Prop :=
  ∀ T : State, T.heap = H → Stand p l e R s m args below meth c T locs cells slots → ∃ t, Steps p.tables e below ((T.setTop g).pushFrame (.throwing q)) t ∧ Q t
def vx_Run (p : Program) (l : Launch) (e : Env) (R : Room) (s : State) (m : MethodId) (args : Array Value) (below : List Frame) (meth : Method) (c : Code) (H : Heap) (locs : List Loc) (cells slots mc ms : Nat) (g : JFrame) (rest : List Value) (Qa : State → Outcome → State → Prop) (XC : String → State → State → Prop) (free : Addr → Prop) : Prop :=
  ∀ T : State, T.heap = H → Stand p l e R s m args below meth c T locs cells slots →
    (∃ (v : Option Value) (st₀ t T' : State) (L : List Loc), st₀.heap = H ∧ Stand p l e R s m args below meth c T' (locs ++ L) (cells + mc) (slots + ms) ∧ (∀ q ∈ L, free q.base) ∧ T'.heap = t.heap ∧ T'.vm = t.vm ∧ Qa st₀ (.returned v) t ∧
      Goes p e below T g T' { g with pc := g.pc + 3, stack := v.toList ++ rest }) ∨
    (∃ (q : Addr) (st₀ t T' : State) (L : List Loc) (E : String) (ce : Cell), st₀.heap = H ∧ Stand p l e R s m args below meth c T' (locs ++ L) (cells + mc) (slots + ms) ∧ (∀ z ∈ L, free z.base) ∧ T'.heap = t.heap ∧ T'.vm = t.vm ∧ XC E st₀ t ∧ t.heap[q]? = some ce ∧ ce.vm = .none ∧ s.vm.findClass E = some ce.cls ∧
      Steps p.tables e below (T.setTop g) ((T'.setTop { g with stack := rest }).pushFrame (.throwing q)))
def vx_X {S : Type} (px : S → Prop) (B : String → S → State → Prop) (A : Nat → Prop) : String → State → State → Prop := fun E st t => ∃ u : S, px u ∧ B E u t ∧ va_F A st t
section Runs
variable {p : Program} {l : Launch} {e : Env} {R : Room} {s : State} {m : MethodId} {args : Array Value} {below : List Frame} {meth : Method} {c : Code} {H : Heap} {locs : List Loc} {cells slots : Nat}
variable {y : MethodName} {bytes cc : ByteArray} {maxL nL mc ms n index : Nat} {ret : Option FieldType} {ws : List Cond} {rm : Room} {Pc : Array Value → State → Prop} {Qc : Array Value → State → Outcome → State → Prop} {XC : String → State → State → Prop} {free : Addr → Prop} {Ts : List Cond} {own C : String} {b : Addr} {As rest : List Value} {g : JFrame}
theorem vx_callBack (cb : CallB R s args own index y bytes maxL ret ws rm mc ms n) (hM : vx_Met l y ws rm Pc Qc XC mc ms free) (hbl : FrameBlind Pc) : vx_Back l R p e below s args y 3 8 (PreOf R mc ms Pc) (PostOf Qc mc ms free) (vx_Post XC mc ms free) := by
  obtain ⟨hrc, hrs, hfr, hlo, hws, hcw, -, hini, -⟩ := cb
  exact vx_back (bytes := bytes) (maxL := maxL) (ret := ret) hM hbl hrc hrs hfr hlo hws hcw (fun a' U hW => word_at hW (Or.inl (by first | rfl | simp [Cond.onTables, Cond.keeps, Cond.steady])) hini)
theorem vx_runV (S : CallFix p m c cc nL s args Ts own) (hM : vx_Met l y ws rm Pc Qc XC mc ms free) (cw : CallW R s args own C index y bytes maxL ret ws rm mc ms n) (hp : PreV s H C b Pc As)
    (hg : g.method = m) (hn : As.length = n) (hsize : g.locals.size = nL) (hstack : g.stack = As.reverse ++ .ref b :: rest) (hW : 2 * g.monitorRoom + (rest.map fun v => v.category).sum ≤ 8) (hdg : decode cc g.pc = .ok (.invokevirtual index, 3)) (hf : cells + mc ≤ R.cells ∧ slots + ms ≤ R.slots) :
    vx_Run p l e R s m args below meth c H locs cells slots mc ms g rest (Qc (Value.ref b :: As).toArray) XC free := by
  have hK : vx_Back l R p e below s args y 3 8 (PreOf R mc ms Pc) (PostOf Qc mc ms free) (vx_Post XC mc ms free) := vx_callBack cw.1 hM hp.1
  obtain ⟨⟨-, -, -, -, -, -, hcode, -, hy, hlen, hl⟩, hin, hse⟩ := cw
  obtain ⟨hx, hb, hml, ho, -⟩ := S
  obtain ⟨-, ⟨cellB, hcB, hoB, hclB⟩, hPc⟩ := hp
  intro T hT X
  rcases vx_callV X hx (C := C) (bytes := bytes) (maxL := maxL) (ret := ret) ho hl hin hse hcode hy hK (by rw [hT]; exact hcB) hoB hclB hg (hsize.trans hml.symm) (argsL := As) (rest := rest) (fun sig h => hn.trans (hlen sig h)) hstack hW (by rw [hb]; exact hdg)
    (fun vm₁ hW₁ => ⟨hf.1, hf.2, hPc (T.setVm vm₁) hT hW₁⟩) with ⟨v, vm₁, ⟨U', l2, c2, s2⟩, hW₁, X', ⟨g', mk, t, L, e1, e2, hq, h1, hL, h2, h3⟩, st⟩ | ⟨q, vm₁, ⟨U', l2, c2, s2⟩, hW₁, X', ⟨g', mk, t, L, E, ce, e1, e2, hq, hce, hcv, hcl, h1, hL, h2, h3⟩, st⟩
  · dsimp only [Pt.U, Pt.locs, Pt.cells, Pt.slots] at X' e1 e2 h1 h2 h3 st
    subst h1; subst h2; subst h3
    exact Or.inl ⟨v, (T.setVm vm₁).calling g' mk (Value.ref b :: As).toArray, t, U', L, hT, X', hL, e1, e2, hq, st⟩
  · dsimp only [Pt.U, Pt.locs, Pt.cells, Pt.slots] at X' e1 e2 h1 h2 h3 st hcl
    subst h1; subst h2; subst h3
    exact Or.inr ⟨q, (T.setVm vm₁).calling g' mk (Value.ref b :: As).toArray, t, U', L, E, ce, hT, X', hL, e1, e2, hq, hce, hcv, vx_cls hW₁ hcl, st⟩
theorem vx_runS (S : CallFix p m c cc nL s args Ts own) (hM : vx_Met l y ws rm Pc Qc XC mc ms free) (cw : CallB R s args own index y bytes maxL ret ws rm mc ms n ∧ (Cond.static y).before args s = true) (hp : PreS s H Pc As)
    (hg : g.method = m) (hn : As.length = n) (hsize : g.locals.size = nL) (hstack : g.stack = As.reverse ++ rest) (hW : 2 * g.monitorRoom + (rest.map fun v => v.category).sum ≤ 8) (hdg : decode cc g.pc = .ok (.invokestatic index, 3)) (hf : cells + mc ≤ R.cells ∧ slots + ms ≤ R.slots) :
    vx_Run p l e R s m args below meth c H locs cells slots mc ms g rest (Qc As.toArray) XC free := by
  have hK : vx_Back l R p e below s args y 3 8 (PreOf R mc ms Pc) (PostOf Qc mc ms free) (vx_Post XC mc ms free) := vx_callBack cw.1 hM hp.1
  obtain ⟨⟨-, -, -, -, -, -, hcode, hini, hy, hlen, hl⟩, hstt⟩ := cw
  obtain ⟨hx, hb, hml, ho, -⟩ := S
  intro T hT X
  rcases vx_callS X hx (bytes := bytes) (maxL := maxL) (ret := ret) ho hl hstt hini hcode hy hK hg (hsize.trans hml.symm) (argsL := As) (rest := rest) (fun sig h => hn.trans (hlen sig h)) hstack hW (by rw [hb]; exact hdg)
    (fun vm₁ hW₁ => ⟨hf.1, hf.2, hp.2 (T.setVm vm₁) hT hW₁⟩) with ⟨v, vm₁, ⟨U', l2, c2, s2⟩, hW₁, X', ⟨g', mk, t, L, e1, e2, hq, h1, hL, h2, h3⟩, st⟩ | ⟨q, vm₁, ⟨U', l2, c2, s2⟩, hW₁, X', ⟨g', mk, t, L, E, ce, e1, e2, hq, hce, hcv, hcl, h1, hL, h2, h3⟩, st⟩
  · dsimp only [Pt.U, Pt.locs, Pt.cells, Pt.slots] at X' e1 e2 h1 h2 h3 st
    subst h1; subst h2; subst h3
    exact Or.inl ⟨v, (T.setVm vm₁).calling g' mk As.toArray, t, U', L, hT, X', hL, e1, e2, hq, st⟩
  · dsimp only [Pt.U, Pt.locs, Pt.cells, Pt.slots] at X' e1 e2 h1 h2 h3 st hcl
    subst h1; subst h2; subst h3
    exact Or.inr ⟨q, (T.setVm vm₁).calling g' mk As.toArray, t, U', L, E, ce, hT, X', hL, e1, e2, hq, hce, hcv, vx_cls hW₁ hcl, st⟩
end Runs
section Rows
variable {p : Program} {l : Launch} {e : Env} {R : Room} {s : State} {m : MethodId} {args : Array Value} {below : List Frame} {meth : Method} {c : Code} {H : Heap} {locs : List Loc} {cells slots : Nat} {Q : State → Prop}
variable {mc ms : Nat} {free : Addr → Prop} {A0 A1 : Nat → Prop} {H0 : Heap} {a : Array Value} {pc : Nat} {ls : Array Slot} {st0 rest : List Value}
theorem vx_keep {st₀ t T' : State} {L : List Loc} (h0 : st₀.heap = H) (e1 : T'.heap = t.heap) (hS : va_S A0 H0 H locs) (hA : ∀ q, q < H.size → A1 q → A0 q) (hf : ∀ q, free q → A0 q) (hL : ∀ q ∈ L, free q.base) (hF : va_F A1 st₀ t) :
    H.size ≤ T'.heap.size ∧ (∀ q : Nat, q < H.size → ¬ A1 q → T'.heap[q]? = H[q]?) ∧ va_S A0 H0 T'.heap (locs ++ L) := by
  obtain ⟨hz, hk⟩ := hF
  rw [h0] at hz hk
  exact ⟨by rw [e1]; exact hz, fun q h1 h2 => by rw [e1]; exact hk q h1 h2,
    ⟨Nat.le_trans hS.1 (by rw [e1]; exact hz), fun q h1 h2 => by rw [e1, hk q (Nat.lt_of_lt_of_le h1 hS.1) (fun z => h2 (hA q (Nat.lt_of_lt_of_le h1 hS.1) z))]; exact hS.2.1 q h1 h2, fun q hq => by
      rcases List.mem_append.mp hq with h | h
      · exact hS.2.2 q h
      · exact hf _ (hL q h)⟩⟩
theorem vx_calli {S SX : Type} {post : Int32 → S → Prop} {px : SX → Prop} {B : S → State → Prop} {BX : String → SX → State → Prop} {AX : Nat → Prop} (hr : vx_Run p l e R s m args below meth c H locs cells slots mc ms (F0 m pc ls st0) rest (va_Qi post B A1 a) (vx_X px BX AX) free) (hS : va_S A0 H0 H locs) (hA : ∀ q, q < H.size → A1 q → A0 q) (hf : ∀ q, free q → A0 q) (hAX : ∀ q, q < H.size → AX q → A0 q)
    (kx : ∀ (E : String) (ce : Cell) (q9 : Addr) (u : SX) (t : State) (H1 : Heap) (locs1 : List Loc), t.heap = H1 → s.vm.Alike t.vm → px u → BX E u t → H.size ≤ H1.size → (∀ q : Nat, q < H.size → ¬ AX q → H1[q]? = H[q]?) → va_S A0 H0 H1 locs1 → H1[q9]? = some ce → ce.vm = .none → s.vm.findClass E = some ce.cls → vx_W p l e R s m args below meth c H1 locs1 (cells + mc) (slots + ms) Q (F0 m pc ls rest) q9)
    (kk : ∀ (r : Int32) (u : S) (t : State) (H1 : Heap) (locs1 : List Loc), t.heap = H1 → s.vm.Alike t.vm → post r u → B u t → H.size ≤ H1.size → (∀ q : Nat, q < H.size → ¬ A1 q → H1[q]? = H[q]?) → va_S A0 H0 H1 locs1 → W p l e R s m args below meth c H1 locs1 (cells + mc) (slots + ms) Q (F0 m (pc + 3) ls (.int r :: rest))) : W p l e R s m args below meth c H locs cells slots Q (F0 m pc ls st0) := by
  intro T hT X
  rcases hr T hT X with ⟨v, st₀, t, T', L, h0, X', hL, e1, e2, ⟨⟨r, u, hv, hp, hb⟩, hF⟩, st⟩ | ⟨q, st₀, t, T', L, E, ce, h0, X', hL, e1, e2, ⟨u, hp, hb, hF⟩, hce, hcv, hcl, st⟩
  · cases hv
    obtain ⟨k1, k2, k3⟩ := vx_keep h0 e1 hS hA hf hL hF
    obtain ⟨t2, a1, b1⟩ := kk r u t T'.heap (locs ++ L) e1.symm (by rw [← e2]; exact X'.warmed.alike) hp hb k1 k2 k3 T' rfl X'
    exact ⟨t2, st t2 a1, b1⟩
  · obtain ⟨k1, k2, k3⟩ := vx_keep h0 e1 hS hAX hf hL hF
    obtain ⟨t2, a1, b1⟩ := kx E ce q u t T'.heap (locs ++ L) e1.symm (by rw [← e2]; exact X'.warmed.alike) hp hb k1 k2 k3 (by rw [e1]; exact hce) hcv hcl T' rfl X'
    exact ⟨t2, st.trans a1, b1⟩
theorem vx_calll {S SX : Type} {post : Int64 → S → Prop} {px : SX → Prop} {B : S → State → Prop} {BX : String → SX → State → Prop} {AX : Nat → Prop} (hr : vx_Run p l e R s m args below meth c H locs cells slots mc ms (F0 m pc ls st0) rest (va_Ql post B A1 a) (vx_X px BX AX) free) (hS : va_S A0 H0 H locs) (hA : ∀ q, q < H.size → A1 q → A0 q) (hf : ∀ q, free q → A0 q) (hAX : ∀ q, q < H.size → AX q → A0 q)
    (kx : ∀ (E : String) (ce : Cell) (q9 : Addr) (u : SX) (t : State) (H1 : Heap) (locs1 : List Loc), t.heap = H1 → s.vm.Alike t.vm → px u → BX E u t → H.size ≤ H1.size → (∀ q : Nat, q < H.size → ¬ AX q → H1[q]? = H[q]?) → va_S A0 H0 H1 locs1 → H1[q9]? = some ce → ce.vm = .none → s.vm.findClass E = some ce.cls → vx_W p l e R s m args below meth c H1 locs1 (cells + mc) (slots + ms) Q (F0 m pc ls rest) q9)
    (kk : ∀ (r : Int64) (u : S) (t : State) (H1 : Heap) (locs1 : List Loc), t.heap = H1 → s.vm.Alike t.vm → post r u → B u t → H.size ≤ H1.size → (∀ q : Nat, q < H.size → ¬ A1 q → H1[q]? = H[q]?) → va_S A0 H0 H1 locs1 → W p l e R s m args below meth c H1 locs1 (cells + mc) (slots + ms) Q (F0 m (pc + 3) ls (.long r :: rest))) : W p l e R s m args below meth c H locs cells slots Q (F0 m pc ls st0) := by
  intro T hT X
  rcases hr T hT X with ⟨v, st₀, t, T', L, h0, X', hL, e1, e2, ⟨⟨r, u, hv, hp, hb⟩, hF⟩, st⟩ | ⟨q, st₀, t, T', L, E, ce, h0, X', hL, e1, e2, ⟨u, hp, hb, hF⟩, hce, hcv, hcl, st⟩
  · cases hv
    obtain ⟨k1, k2, k3⟩ := vx_keep h0 e1 hS hA hf hL hF
    obtain ⟨t2, a1, b1⟩ := kk r u t T'.heap (locs ++ L) e1.symm (by rw [← e2]; exact X'.warmed.alike) hp hb k1 k2 k3 T' rfl X'
    exact ⟨t2, st t2 a1, b1⟩
  · obtain ⟨k1, k2, k3⟩ := vx_keep h0 e1 hS hAX hf hL hF
    obtain ⟨t2, a1, b1⟩ := kx E ce q u t T'.heap (locs ++ L) e1.symm (by rw [← e2]; exact X'.warmed.alike) hp hb k1 k2 k3 (by rw [e1]; exact hce) hcv hcl T' rfl X'
    exact ⟨t2, st.trans a1, b1⟩
theorem vx_callf {S SX : Type} {post : UInt32 → S → Prop} {px : SX → Prop} {B : S → State → Prop} {BX : String → SX → State → Prop} {AX : Nat → Prop} (hr : vx_Run p l e R s m args below meth c H locs cells slots mc ms (F0 m pc ls st0) rest (va_Qf post B A1 a) (vx_X px BX AX) free) (hS : va_S A0 H0 H locs) (hA : ∀ q, q < H.size → A1 q → A0 q) (hf : ∀ q, free q → A0 q) (hAX : ∀ q, q < H.size → AX q → A0 q)
    (kx : ∀ (E : String) (ce : Cell) (q9 : Addr) (u : SX) (t : State) (H1 : Heap) (locs1 : List Loc), t.heap = H1 → s.vm.Alike t.vm → px u → BX E u t → H.size ≤ H1.size → (∀ q : Nat, q < H.size → ¬ AX q → H1[q]? = H[q]?) → va_S A0 H0 H1 locs1 → H1[q9]? = some ce → ce.vm = .none → s.vm.findClass E = some ce.cls → vx_W p l e R s m args below meth c H1 locs1 (cells + mc) (slots + ms) Q (F0 m pc ls rest) q9)
    (kk : ∀ (r : UInt32) (u : S) (t : State) (H1 : Heap) (locs1 : List Loc), t.heap = H1 → s.vm.Alike t.vm → post r u → B u t → H.size ≤ H1.size → (∀ q : Nat, q < H.size → ¬ A1 q → H1[q]? = H[q]?) → va_S A0 H0 H1 locs1 → W p l e R s m args below meth c H1 locs1 (cells + mc) (slots + ms) Q (F0 m (pc + 3) ls (.float r :: rest))) : W p l e R s m args below meth c H locs cells slots Q (F0 m pc ls st0) := by
  intro T hT X
  rcases hr T hT X with ⟨v, st₀, t, T', L, h0, X', hL, e1, e2, ⟨⟨r, u, hv, hp, hb⟩, hF⟩, st⟩ | ⟨q, st₀, t, T', L, E, ce, h0, X', hL, e1, e2, ⟨u, hp, hb, hF⟩, hce, hcv, hcl, st⟩
  · cases hv
    obtain ⟨k1, k2, k3⟩ := vx_keep h0 e1 hS hA hf hL hF
    obtain ⟨t2, a1, b1⟩ := kk r u t T'.heap (locs ++ L) e1.symm (by rw [← e2]; exact X'.warmed.alike) hp hb k1 k2 k3 T' rfl X'
    exact ⟨t2, st t2 a1, b1⟩
  · obtain ⟨k1, k2, k3⟩ := vx_keep h0 e1 hS hAX hf hL hF
    obtain ⟨t2, a1, b1⟩ := kx E ce q u t T'.heap (locs ++ L) e1.symm (by rw [← e2]; exact X'.warmed.alike) hp hb k1 k2 k3 (by rw [e1]; exact hce) hcv hcl T' rfl X'
    exact ⟨t2, st.trans a1, b1⟩
theorem vx_calld {S SX : Type} {post : UInt64 → S → Prop} {px : SX → Prop} {B : S → State → Prop} {BX : String → SX → State → Prop} {AX : Nat → Prop} (hr : vx_Run p l e R s m args below meth c H locs cells slots mc ms (F0 m pc ls st0) rest (va_Qd post B A1 a) (vx_X px BX AX) free) (hS : va_S A0 H0 H locs) (hA : ∀ q, q < H.size → A1 q → A0 q) (hf : ∀ q, free q → A0 q) (hAX : ∀ q, q < H.size → AX q → A0 q)
    (kx : ∀ (E : String) (ce : Cell) (q9 : Addr) (u : SX) (t : State) (H1 : Heap) (locs1 : List Loc), t.heap = H1 → s.vm.Alike t.vm → px u → BX E u t → H.size ≤ H1.size → (∀ q : Nat, q < H.size → ¬ AX q → H1[q]? = H[q]?) → va_S A0 H0 H1 locs1 → H1[q9]? = some ce → ce.vm = .none → s.vm.findClass E = some ce.cls → vx_W p l e R s m args below meth c H1 locs1 (cells + mc) (slots + ms) Q (F0 m pc ls rest) q9)
    (kk : ∀ (r : UInt64) (u : S) (t : State) (H1 : Heap) (locs1 : List Loc), t.heap = H1 → s.vm.Alike t.vm → post r u → B u t → H.size ≤ H1.size → (∀ q : Nat, q < H.size → ¬ A1 q → H1[q]? = H[q]?) → va_S A0 H0 H1 locs1 → W p l e R s m args below meth c H1 locs1 (cells + mc) (slots + ms) Q (F0 m (pc + 3) ls (.double r :: rest))) : W p l e R s m args below meth c H locs cells slots Q (F0 m pc ls st0) := by
  intro T hT X
  rcases hr T hT X with ⟨v, st₀, t, T', L, h0, X', hL, e1, e2, ⟨⟨r, u, hv, hp, hb⟩, hF⟩, st⟩ | ⟨q, st₀, t, T', L, E, ce, h0, X', hL, e1, e2, ⟨u, hp, hb, hF⟩, hce, hcv, hcl, st⟩
  · cases hv
    obtain ⟨k1, k2, k3⟩ := vx_keep h0 e1 hS hA hf hL hF
    obtain ⟨t2, a1, b1⟩ := kk r u t T'.heap (locs ++ L) e1.symm (by rw [← e2]; exact X'.warmed.alike) hp hb k1 k2 k3 T' rfl X'
    exact ⟨t2, st t2 a1, b1⟩
  · obtain ⟨k1, k2, k3⟩ := vx_keep h0 e1 hS hAX hf hL hF
    obtain ⟨t2, a1, b1⟩ := kx E ce q u t T'.heap (locs ++ L) e1.symm (by rw [← e2]; exact X'.warmed.alike) hp hb k1 k2 k3 (by rw [e1]; exact hce) hcv hcl T' rfl X'
    exact ⟨t2, st.trans a1, b1⟩
theorem vx_callv {S SX : Type} {post : S → Prop} {px : SX → Prop} {B : S → State → Prop} {BX : String → SX → State → Prop} {AX : Nat → Prop} (hr : vx_Run p l e R s m args below meth c H locs cells slots mc ms (F0 m pc ls st0) rest (va_Qv post B A1 a) (vx_X px BX AX) free) (hS : va_S A0 H0 H locs) (hA : ∀ q, q < H.size → A1 q → A0 q) (hf : ∀ q, free q → A0 q) (hAX : ∀ q, q < H.size → AX q → A0 q)
    (kx : ∀ (E : String) (ce : Cell) (q9 : Addr) (u : SX) (t : State) (H1 : Heap) (locs1 : List Loc), t.heap = H1 → s.vm.Alike t.vm → px u → BX E u t → H.size ≤ H1.size → (∀ q : Nat, q < H.size → ¬ AX q → H1[q]? = H[q]?) → va_S A0 H0 H1 locs1 → H1[q9]? = some ce → ce.vm = .none → s.vm.findClass E = some ce.cls → vx_W p l e R s m args below meth c H1 locs1 (cells + mc) (slots + ms) Q (F0 m pc ls rest) q9)
    (kk : ∀ (u : S) (t : State) (H1 : Heap) (locs1 : List Loc), t.heap = H1 → s.vm.Alike t.vm → post u → B u t → H.size ≤ H1.size → (∀ q : Nat, q < H.size → ¬ A1 q → H1[q]? = H[q]?) → va_S A0 H0 H1 locs1 → W p l e R s m args below meth c H1 locs1 (cells + mc) (slots + ms) Q (F0 m (pc + 3) ls (rest))) : W p l e R s m args below meth c H locs cells slots Q (F0 m pc ls st0) := by
  intro T hT X
  rcases hr T hT X with ⟨v, st₀, t, T', L, h0, X', hL, e1, e2, ⟨⟨u, hv, hp, hb⟩, hF⟩, st⟩ | ⟨q, st₀, t, T', L, E, ce, h0, X', hL, e1, e2, ⟨u, hp, hb, hF⟩, hce, hcv, hcl, st⟩
  · cases hv
    obtain ⟨k1, k2, k3⟩ := vx_keep h0 e1 hS hA hf hL hF
    obtain ⟨t2, a1, b1⟩ := kk u t T'.heap (locs ++ L) e1.symm (by rw [← e2]; exact X'.warmed.alike) hp hb k1 k2 k3 T' rfl X'
    exact ⟨t2, st t2 a1, b1⟩
  · obtain ⟨k1, k2, k3⟩ := vx_keep h0 e1 hS hAX hf hL hF
    obtain ⟨t2, a1, b1⟩ := kx E ce q u t T'.heap (locs ++ L) e1.symm (by rw [← e2]; exact X'.warmed.alike) hp hb k1 k2 k3 (by rw [e1]; exact hce) hcv hcl T' rfl X'
    exact ⟨t2, st.trans a1, b1⟩
/-- caught by the row x of this method's table; the rows ahead don't take it -/
theorem vx_catch {own name : String} {E : String} {ce : Cell} {q : Addr} (hown : s.vm.findClass own = some m.cls) (pre : List ExceptionTableEntry) (x : ExceptionTableEntry) (suf : List ExceptionTableEntry) (hsplit : c.exceptionTable.toList = pre ++ x :: suf)
    (hpass : ∀ z ∈ pre, covers z pc = false ∨ (z.catchType ≠ 0 ∧ ∃ nm : String, (Cond.classLink own z.catchType nm).before args s = true ∧ va_Nc E nm s)) (hx : covers x pc = true) (h0 : x.catchType ≠ 0)
    (hlink : (Cond.classLink own x.catchType name).before args s = true) (hcast : (Cond.castable E name).before args s = true) (hcell : H[q]? = some ce) (hv : ce.vm = .none) (hcl : s.vm.findClass E = some ce.cls)
    (kk : W p l e R s m args below meth c H locs cells slots Q (F0 m x.handlerPc ls [.ref q])) : vx_W p l e R s m args below meth c H locs cells slots Q (F0 m pc ls rest) q := by
  intro T hT X
  have hpl : e.platform.magicAccessors = ({} : Platform).magicAccessors := by rw [X.admits.platform]
  obtain ⟨c3, c4, hc3, hc4, hasg⟩ := Cond.castable_spec hcast
  cases Option.some.inj (hc3.symm.trans hcl)
  obtain ⟨c5, hc5, hcl5⟩ := Cond.classLink_spec hown hlink e.platform hpl
  cases Option.some.inj (hc4.symm.trans hc5)
  obtain ⟨vm', X', st⟩ := X.thenCaughtThrough q (g := F0 m pc ls rest) rfl (Steps.refl _) (by rw [hT]; exact hcell) (by rw [hv]; rfl) (by obtain ⟨k9, h9, -⟩ := Vm.findClass_spec hcl; exact ⟨k9, h9⟩) pre x suf hsplit
    (fun z hz => by
      rcases hpass z hz with h | ⟨hz0, nm, hl1, hn1⟩
      · exact Or.inl h
      · obtain ⟨c6, hc6, hcl6⟩ := Cond.classLink_spec hown hl1 e.platform hpl
        obtain ⟨a8, b8, h1, h2, h3⟩ := hn1
        cases Option.some.inj (h1.symm.trans hcl)
        cases Option.some.inj (h2.symm.trans hc6)
        exact Or.inr ⟨hz0, _, hcl6, h3⟩) hx (Or.inr ⟨h0, c4, hcl5, hasg⟩)
  obtain ⟨t, a1, b1⟩ := kk (T.setVm vm') hT X'
  exact ⟨t, st.trans a1, b1⟩
end Rows
section Ends
variable {p : Program} {l : Launch} {e : Env} {R : Room} {s : State} {m : MethodId} {args : Array Value} {below : List Frame} {meth : Method} {c : Code} {H : Heap} {locs : List Loc} {cells slots : Nat} {Q : State → Prop}
variable {mc ms : Nat} {free : Addr → Prop} {A0 A1 : Nat → Prop} {H0 : Heap} {a : Array Value} {ls : Array Slot} {st0 rest : List Value}
variable {Qc : Array Value → State → Outcome → State → Prop} {XC : String → State → State → Prop}
/-- what a body that may throw owes at its end -/
def vx_MQ (below : List Frame) (Qc : Array Value → State → Outcome → State → Prop) (XC : String → State → State → Prop) (a : Array Value) (s : State) (mc ms : Nat) (free : Addr → Prop) : State → Prop := fun t =>
  ∃ o, t.status = .running ∧ Ended t below o ∧ vx_Q Qc XC mc ms free a s o t
theorem vx_ret {g : JFrame} {mc ms : Nat} (k : W p l e R s m args below meth c H locs cells slots (MQ below Qc args s mc ms free) g) : W p l e R s m args below meth c H locs cells slots (vx_MQ below Qc XC args s mc ms free) g := by
  intro T hT X
  obtain ⟨t, a1, o, b1, b2, b3, b4⟩ := k T hT X
  exact ⟨t, a1, o, b1, b2, Or.inl ⟨b3, b4⟩⟩
/-- not caught here: it goes on to the caller -/
theorem vx_widen {g : JFrame} {q : Addr} {k n : Nat} (h1 : cells ≤ k) (h2 : slots ≤ n) (kk : vx_W p l e R s m args below meth c H locs k n Q g q) : vx_W p l e R s m args below meth c H locs cells slots Q g q := fun T hT X => kk T hT (stand_widen X h1 h2)
theorem vx_out {pc : Nat} {E : String} {ce : Cell} {q : Addr} {mc ms : Nat} (hout : ∀ x ∈ c.exceptionTable.toList, covers x pc = false) (hlocks : meth.locks = false) (hcell : H[q]? = some ce) (hv : ce.vm = .none) (hcl : s.vm.findClass E = some ce.cls)
    (hx : ∀ t : State, t.heap = H → s.vm.Alike t.vm → XC E s t) (hf : ∀ z ∈ locs, free z.base) (hc : cells ≤ mc) (hs : slots ≤ ms) :
    vx_W p l e R s m args below meth c H locs cells slots (vx_MQ below Qc XC args s mc ms free) (F0 m pc ls rest) q := by
  intro T hT X
  obtain ⟨st1, hrun, hend, hW, hsm⟩ := X.leaveThrown q (g := F0 m pc ls rest) rfl rfl rfl hout hlocks
  have hcell9 : (T.setFrames (.throwing q :: below)).heap[q]? = some ce := by
    show T.heap[q]? = some ce
    rw [hT]; exact hcell
  exact ⟨_, st1, .threw q, hrun, hend, Or.inr ⟨q, rfl, E, ce, locs, hx _ hT hW.alike, hcell9, hv, hcl, hW, hsm.mono hc hs, hf⟩⟩
theorem vx_frame {U : State} {k n : Nat} (h : s.sameButNew ({ U with vm := s.vm } : State) locs k n) : s.heap.size ≤ U.heap.size ∧ ∀ q : Nat, q < s.heap.size → (∀ z ∈ locs, z.base ≠ q) → U.heap[q]? = s.heap[q]? := by
  obtain ⟨-, h2, -, -, -, h6⟩ := h
  refine ⟨h2, fun q hq hz => ?_⟩
  obtain ⟨c9, e1, e2, e3, e4⟩ := h6 q _ (Array.getElem?_eq_getElem hq)
  have hs : c9.slots = (s.heap[q]).slots := Array.ext_getElem? fun i => e4 i fun hm => hz _ hm rfl
  have h9 : c9 = s.heap[q] := by
    rw [hs] at e2
    exact e2
  have e5 : U.heap[q]? = some c9 := e1
  rw [e5, h9, Array.getElem?_eq_getElem hq]
/-- the words of a throw but the four that speak of the heap -/
def vx_no (w : Cond) : Bool := decide (w ≠ .isRef (.static Bundle.tN "UNASSIGNED_STACK" Bundle.steD)) && decide (w ≠ .isRef (.static Bundle.tN "SUPPRESSED_SENTINEL" Bundle.listD)) && decide (w ≠ .laysStatic Bundle.tN "UNASSIGNED_STACK" Bundle.steD) && decide (w ≠ .laysStatic Bundle.tN "SUPPRESSED_SENTINEL" Bundle.listD)
def vx_at0 (own : String) (ic : Nat) (X : String) (names : List String) : List Cond := (Bundle.ownAtoms0 own ic X names).filter vx_no
def vx_atS (own : String) (ic : Nat) (X : String) (names : List String) : List Cond := (Bundle.ownAtoms own ic X names).filter vx_no
/-- a word that the tables alone decide, or a good one -/
def vx_ot (w : Cond) : Bool := w.onTables || goodWord w
theorem vx_ot_at {args a' : Array Value} {s U : State} {w : Cond} (hW : s.WarmedH U.vm) (hvm : s.vm = U.vm) (hg : vx_ot w = true) (h : w.before args s = true) : w.before a' U = true := by
  simp only [vx_ot, Bool.or_eq_true] at hg
  rcases hg with hg | hg
  · exact va_tabs hg hvm h
  · exact word_at hW (good_of_word hg) h
/-- a list's words: the good ones out of the method's own list, the others by premises of their own -/
theorem vx_hat {args : Array Value} {s : State} {L B : List Cond} (h1 : ∀ w ∈ L.filter goodWord, w.before args s = true) (h2 : ∀ w ∈ L.filter (fun w => !goodWord w), w ∈ B) (h3 : ∀ w ∈ B, w.before args s = true) : ∀ w ∈ L, w.before args s = true := by
  intro w hw
  by_cases g : goodWord w = true
  · exact h1 w (List.mem_filter.mpr ⟨hw, g⟩)
  · refine h3 w (h2 w (List.mem_filter.mpr ⟨hw, ?_⟩))
    show (!goodWord w) = true
    cases hgw : goodWord w
    · rfl
    · exact absurd hgw g
theorem vx_c {args : Array Value} {s : State} {w : Cond} {B : List Cond} (h : w.before args s = true) (t : ∀ w ∈ B, w.before args s = true) : ∀ w' ∈ w :: B, w'.before args s = true := fun w' h' => (List.mem_cons.mp h').elim (fun e => by rw [e]; exact h) (t w')
theorem vx_n {args : Array Value} {s : State} : ∀ w ∈ ([] : List Cond), w.before args s = true := fun _ h => nomatch h
theorem vx_own {args : Array Value} {s : State} {L : List Cond} (h1 : ∀ w ∈ L.filter vx_no, w.before args s = true)
    (hU : (Cond.isRef (.static Bundle.tN "UNASSIGNED_STACK" Bundle.steD)).before args s = true) (hN : (Cond.isRef (.static Bundle.tN "SUPPRESSED_SENTINEL" Bundle.listD)).before args s = true)
    (lU : (Cond.laysStatic Bundle.tN "UNASSIGNED_STACK" Bundle.steD).before args s = true) (lN : (Cond.laysStatic Bundle.tN "SUPPRESSED_SENTINEL" Bundle.listD).before args s = true) : ∀ w ∈ L, w.before args s = true := by
  intro w hw
  by_cases e1 : w = .isRef (.static Bundle.tN "UNASSIGNED_STACK" Bundle.steD)
  · rw [e1]; exact hU
  · by_cases e2 : w = .isRef (.static Bundle.tN "SUPPRESSED_SENTINEL" Bundle.listD)
    · rw [e2]; exact hN
    · by_cases e3 : w = .laysStatic Bundle.tN "UNASSIGNED_STACK" Bundle.steD
      · rw [e3]; exact lU
      · by_cases e4 : w = .laysStatic Bundle.tN "SUPPRESSED_SENTINEL" Bundle.listD
        · rw [e4]; exact lN
        · exact h1 w (List.mem_filter.mpr ⟨hw, by unfold vx_no; rw [decide_eq_true e1, decide_eq_true e2, decide_eq_true e3, decide_eq_true e4]; rfl⟩)
/-- where a static field lies, its class's statics cell in H -/
def vx_L (C n d : String) (A : Nat → Prop) (U : State) (H : Heap) : Prop := ∃ (c : ClassId) (k : Class) (i : Nat) (f : Field) (a : Nat) (cell : Cell), U.vm.findClass C = some c ∧ U.fieldFound? C n d = some (c, k, i, f) ∧ f.isStatic = true ∧ k.statics = some a ∧ H[a]? = some cell ∧ cell.vm.isStatics = true ∧ cell.cls = c ∧ f.slot < cell.slots.size ∧ k.staticTypes[f.slot]? = some f.type ∧ ¬ A a
theorem vx_L.moved {C n d : String} {A : Nat → Prop} {u U : State} {H : Heap} (hvm : u.vm.Alike U.vm) (h : vx_L C n d A u H) : vx_L C n d A U H := by
  obtain ⟨c, k, i, f, a, cell, h1, h2, h3, h4, h5, h6, h7, h8, h9, h10⟩ := h
  obtain ⟨k', hi', he⟩ := State.fieldFound?_setVm hvm h2
  exact ⟨c, k', i, f, a, cell, by rw [hvm.findClass]; exact h1, hi', h3, by rw [he]; exact h4, h5, h6, h7, h8, by rw [he]; exact h9, h10⟩
theorem vx_L.kept {C n d : String} {A : Nat → Prop} {U : State} {H H1 : Heap} (h : vx_L C n d A U H) (hq : ∀ a : Nat, a < H.size → ¬ A a → H1[a]? = H[a]?) : vx_L C n d A U H1 := by
  obtain ⟨c, k, i, f, a, cell, h1, h2, h3, h4, h5, h6, h7, h8, h9, h10⟩ := h
  exact ⟨c, k, i, f, a, cell, h1, h2, h3, h4, by rw [hq a (Array.getElem?_eq_some_iff.mp h5).1 h10]; exact h5, h6, h7, h8, h9, h10⟩
theorem vx_L.narrow {C n d : String} {A B : Nat → Prop} {U : State} {H : Heap} (h : vx_L C n d A U H) (hAB : ∀ q, B q → A q) : vx_L C n d B U H := by
  obtain ⟨c, k, i, f, a, cell, h1, h2, h3, h4, h5, h6, h7, h8, h9, h10⟩ := h
  exact ⟨c, k, i, f, a, cell, h1, h2, h3, h4, h5, h6, h7, h8, h9, fun z => h10 (hAB _ z)⟩
theorem vx_L.word {C n d : String} {A : Nat → Prop} {s : State} {args : Array Value} (h : vx_L C n d A s s.heap) : (Cond.laysStatic C n d).before args s = true := by
  obtain ⟨c, k, i, f, a, cell, h1, h2, h3, h4, h5, h6, h7, h8, h9, -⟩ := h
  show (Cond.laysStatic C n d).holds args s none s [] = true
  exact Cond.laysStatic_of h1 h2 h3 h4 h5 h6 h7 h8 h9
/-- .. and what it holds: null or some reference -/
def vx_Zq (C n d : String) (A : Nat → Prop) (U : State) (H : Heap) : Prop := va_Zq C n d A U H ∧ vx_L C n d A U H
theorem vx_Zq.moved {C n d : String} {A : Nat → Prop} {u U : State} {H : Heap} (hvm : u.vm.Alike U.vm) (h : vx_Zq C n d A u H) : vx_Zq C n d A U H := ⟨va_Zq.moved hvm h.1, vx_L.moved hvm h.2⟩
theorem vx_Zq.kept {C n d : String} {A : Nat → Prop} {U : State} {H H1 : Heap} (h : vx_Zq C n d A U H) (hq : ∀ a : Nat, a < H.size → ¬ A a → H1[a]? = H[a]?) : vx_Zq C n d A U H1 := ⟨va_Zq.kept h.1 hq, vx_L.kept h.2 hq⟩
theorem vx_Zq.narrow {C n d : String} {A B : Nat → Prop} {U : State} {H : Heap} (h : vx_Zq C n d A U H) (hAB : ∀ q, B q → A q) : vx_Zq C n d B U H := ⟨va_Zq.narrow h.1 hAB, vx_L.narrow h.2 hAB⟩
theorem vx_Zqof {args : Array Value} {s : State} {C n d : String} {A : Nat → Prop} (hl : (Cond.laysStatic C n d).before args s = true) (hini : (Cond.initialized C).before args s = true) (h : (Cond.isRef (.static C n d)).before args s = true) (hA : ∀ a : Nat, a < s.heap.size → ¬ A a) : vx_Zq C n d A s s.heap := by
  refine ⟨va_Zqof hl hini h hA, ?_⟩
  obtain ⟨c, k, i, f, a, cell, h1, h2, h3, h4, h5, h6, h7, h8, h9⟩ := Cond.laysStatic_spec hl
  exact ⟨c, k, i, f, a, cell, h1, h2, h3, h4, h5, h6, h7, h8, h9, hA a (Array.getElem?_eq_some_iff.mp h5).1⟩
theorem vx_isRef {C n d : String} {v : Value} {A : Nat → Prop} {s : State} {args : Array Value} (h : va_Z C n d v A s s.heap) (hv : v.isRef = true) : (Cond.isRef (.static C n d)).before args s = true := by
  obtain ⟨cf, kf, fi, f, a, cell, h1, h2, h3, h4, h5, h6, h7, -⟩ := h
  have he : (Term.static C n d).eval args s none [] s = some v := by
    simp [Term.eval, State.fieldNamed?, h1, h2, h4, h5, h6, h7]
  simp only [Cond.before, Cond.holds, Cond.value, he]
  cases v <;> simp_all [Value.isRef]
theorem vx_isRefq {C n d : String} {A : Nat → Prop} {s : State} {args : Array Value} (h : va_Zq C n d A s s.heap) : (Cond.isRef (.static C n d)).before args s = true := by
  rcases h with h | ⟨t, h⟩
  · exact vx_isRef h rfl
  · exact vx_isRef h rfl
/-- the same frame, seen from here: as if the method were called anew in this heap -/
theorem vx_rebase {T : State} (X : Stand p l e R s m args below meth c T locs cells slots) {R' : Room} (hf : R'.frames ≤ R.frames) (hl : R'.locals ≤ R.locals) (hc : cells + R'.cells ≤ R.cells) (hs : slots + R'.slots ≤ R.slots) :
    Stand p l e R' ((T.setVm s.vm).setFrames (.invoking m args :: below)) m args below meth c T [] 0 0 := by
  have htop : (T.setVm s.vm).topJava?.isSome := X.here.top
  have hF : ((T.setVm s.vm).setFrames (.invoking m args :: below)).frames = .invoking m args :: below := State.frames_setFrames _ (State.cur_lt_of_top htop)
  obtain ⟨g₀, hg0⟩ := Option.isSome_iff_exists.mp htop
  obtain ⟨r, hr⟩ := State.topJava?_eq_some.mp hg0
  have hl9 : e.platform.stackLimits (T.setVm s.vm).me = e.platform.stackLimits s.me := X.limits
  have hb9 : (T.setVm s.vm).me.stackBytes = s.me.stackBytes := X.bytes
  refine ⟨X.admits, X.cas, X.clock, hF, ?_, X.hears, X.method, X.code, X.here, X.tail, X.warmed, ?_, ?_, ?_⟩
  · have h := X.room
    have hU : ((T.setVm s.vm).setFrames (.invoking m args :: below)).localsInUse = s.localsInUse := by
      rw [State.localsInUse_invoking hF (meth := meth) (c := c) X.method X.code, State.localsInUse_invoking X.frames X.method X.code]
    simp only [State.hasRoom, Bool.and_eq_true, decide_eq_true_eq] at h ⊢
    obtain ⟨⟨⟨⟨h1, h2, h3, h4, h5, h6⟩, h7⟩, h8⟩, h9⟩ := h
    rw [X.frames, List.length_cons] at h2 h3
    have q1 := X.heapSize
    have q2 := X.used
    simp only [hF, hU, List.length_cons, State.stackLimits_setFrames, State.stackBytes_setFrames, hl9, hb9]
    refine ⟨⟨⟨⟨by omega, by omega, by omega, by omega, by omega, h6⟩, ?_⟩, ?_⟩, X.book⟩
    · show T.heap.size + R'.cells ≤ e.platform.maxCells
      omega
    · show T.slotsUsed + R'.slots ≤ e.platform.maxSlots
      omega
  · rw [State.stackLimits_setFrames]; rfl
  · rw [State.stackBytes_setFrames]; rfl
  · refine ⟨?_, Nat.le_refl _, Nat.le_refl _, ?_, ?_, fun a c9 h9 => ⟨c9, h9, rfl, rfl, fun _ _ => rfl⟩⟩
    · obtain ⟨t, ht, -⟩ := State.frames_cons hr
      show T.setVm s.vm = { ((T.setVm s.vm).setFrames (.invoking m args :: below)).setFrames (T.setVm s.vm).frames with heap := T.heap, slotsUsed := T.slotsUsed }
      rw [State.setFrames_setFrames, State.setFrames_self ht]
      rfl
    · show T.slotsUsed = T.slotsUsed + ((T.heap.toList.drop T.heap.size).map (·.slots.size)).sum
      rw [List.drop_eq_nil_of_le (Nat.le_of_eq Array.length_toList)]
      rfl
    · show ((T.heap.toList.drop T.heap.size).map (·.slots.size)).sum ≤ 0
      rw [List.drop_eq_nil_of_le (Nat.le_of_eq Array.length_toList)]
      exact Nat.le_refl _
/-- 'throw new E()': new; dup; invokespecial; athrow -/
theorem vx_throw0 {cc : ByteArray} {pc : Nat} (hexec : p.tables.exec = Jvm.exec) (hb : c.code = cc) (hl : l.stackTraces = false) {own cls : String} {names : List String} {ik ic mc ms : Nat} {A : Nat → Prop}
    (hown : s.vm.findClass own = some m.cls) (hcls : Bundle.fit cls = true) (hnames : ∀ n ∈ names, Bundle.fit n = true)
    (hk : (Cond.classLink own ik cls).before args s = true) (hini : (Cond.initialized cls).before args s = true) (hat : ∀ w ∈ vx_at0 own ic cls names, w.before args s = true)
    (hgood : ∀ w ∈ Cond.classLink own ik cls :: Cond.initialized cls :: vx_at0 own ic cls names, vx_ot w = true)
    (hU : vx_Zq Bundle.tN "UNASSIGNED_STACK" Bundle.steD A s s.heap) (hN : vx_Zq Bundle.tN "SUPPRESSED_SENTINEL" Bundle.listD A s s.heap) (hS : va_S A s.heap H locs) (hsize : ls.size = c.maxLocals)
    (d0 : decode cc pc = .ok (.new ik, 3)) (d3 : decode cc (pc + 3) = .ok (.dup, 1)) (d4 : decode cc (pc + 4) = .ok (.invokespecial ic, 3)) (d7 : decode cc (pc + 7) = .ok (.athrow, 1))
    (hout : ∀ x ∈ c.exceptionTable.toList, covers x (pc + 7) = false)
    (hRframes : names.length + 3 < R.frames) (hRlocals : (rest.map fun v => v.category).sum + (13 * (names.length + 1) + 42) ≤ R.locals) (hRcells : cells + 1 ≤ R.cells) (hRslots : slots + 6 ≤ R.slots) (hlocks : meth.locks = false)
    (hx : ∀ t : State, s.vm.Alike t.vm → H.size ≤ t.heap.size → (∀ q : Nat, q < H.size → t.heap[q]? = H[q]?) → XC cls s t)
    (hf : ∀ z ∈ locs, free z.base) (hc : cells + 1 ≤ mc) (hs : slots + 6 ≤ ms) :
    W p l e R s m args below meth c H locs cells slots (vx_MQ below Qc XC args s mc ms free) (F0 m pc ls rest) := by
  intro T hT X
  have htr : e.platform.stackTraces = false := (show e.platform.stackTraces = l.stackTraces by rw [X.admits.platform]).trans hl
  have Y := vx_rebase X (R' := { frames := R.frames, locals := R.locals, cells := 1, slots := 6 }) (Nat.le_refl _) (Nat.le_refl _) hRcells hRslots
  obtain ⟨s', hA⟩ : ∃ z, z = (T.setVm s.vm).setFrames (.invoking m args :: below) := ⟨_, rfl⟩
  rw [← hA] at Y
  have hvm : s'.vm = s.vm := by rw [hA]; rfl
  have hhp : s'.heap = H := by rw [hA]; exact hT
  have hW0 : s.WarmedH s'.vm := by rw [hvm]; exact State.WarmedH.refl s
  have hat' : ∀ w ∈ vx_at0 own ic cls names, w.before args s' = true := fun w hw => vx_ot_at hW0 hvm.symm (hgood w (List.mem_cons_of_mem _ (List.mem_cons_of_mem _ hw))) (hat w hw)
  have hk' : (Cond.classLink own ik cls).before args s' = true := vx_ot_at hW0 hvm.symm (hgood _ List.mem_cons_self) hk
  have hini' : (Cond.initialized cls).before args s' = true := vx_ot_at hW0 hvm.symm (hgood _ (List.mem_cons_of_mem _ List.mem_cons_self)) hini
  have hU' : vx_Zq Bundle.tN "UNASSIGNED_STACK" Bundle.steD A s' s'.heap := by rw [hhp]; exact vx_Zq.moved hW0.alike (hU.kept hS.2.1)
  have hN' : vx_Zq Bundle.tN "SUPPRESSED_SENTINEL" Bundle.listD A s' s'.heap := by rw [hhp]; exact vx_Zq.moved hW0.alike (hN.kept hS.2.1)
  have h : ∀ w ∈ Bundle.ownAtoms0 own ic cls names, w.before args s' = true := vx_own hat' (vx_isRefq hU'.1) (vx_isRefq hN'.1) hU'.2.word hN'.2.word
  have hown' : s'.vm.findClass own = some m.cls := by rw [hvm]; exact hown
  have hins : (Cond.instantiable cls 6).before args s' = true := h _ (by simp [Bundle.ownAtoms0])
  obtain ⟨vm₁, cX, kX, hfX, hkX, -, -, X₁, st1⟩ := Y.newCold hexec (own := own) (C := cls) (index := ik) (n := 6) hown' hk' hins hini'
    (g := F0 m pc ls rest) rfl (by rw [hb]; exact d0) (Nat.le_refl _) (Nat.le_refl _)
  generalize hT1 : (T.setVm vm₁).pushCell { cls := cX, slots := kX.instanceTypes.map defaultValue, vm := .none } = T1 at X₁ st1
  have hcat : (Value.ref T.heap.size).category = 1 := rfl
  have hcellA : T1.heap[T.heap.size]? = some (freshCell cX kX) := by rw [← hT1]; exact State.heap_pushCell_size _ _
  have d3' : decode c.code (pc + 3) = .ok (.dup, 1) := by rw [hb]; exact d3
  obtain ⟨U, hsteps, hrun, hend, hW, hsame, ce, hce, hO⟩ := X₁.ctorThrow0 hexec htr (own := own) (cls := cls) (names := names) (ic := ic) hown' hcls hnames h (fun x hx => nomatch hx) hfX hkX hcellA (by rw [hhp, hT]; exact Nat.le_refl _)
    (g := { method := m, pc := pc + 4, locals := ls, stack := .ref T.heap.size :: .ref T.heap.size :: rest, locked := none }) rfl hsize rfl rfl (rest := rest) rfl
    (by rw [hb]; exact d4) (by rw [hb]; exact d7) hout hRframes (by simp only [List.map_cons, List.sum_cons, hcat]; omega) hlocks
  obtain ⟨f1, f2⟩ := vx_frame hsame
  rw [hhp] at f1 f2
  have hWs : s.WarmedH U.vm := State.WarmedH.trans hW0 hW
  have hcl : s.vm.findClass cls = some ce.cls := by
    have h9 := hO.cls
    rw [hvm] at h9
    exact h9
  have hall : s.sameButNew ({ U with vm := s.vm } : State) locs mc ms := by
    subst hA
    obtain ⟨e1, e2⟩ := hsame
    rw [State.setFrames_setFrames] at e1
    have h2 : (T.setVm s.vm).sameButNew ({ U with vm := s.vm } : State) [] (0 + 1) (0 + 6) := ⟨e1, e2⟩
    have h3 := X.same.trans h2
    rw [List.append_nil] at h3
    exact h3.mono hc hs
  refine ⟨U, ?_, .threw T.heap.size, hrun, hend, Or.inr ⟨T.heap.size, rfl, cls, ce, locs, hx U hWs.alike f1 (fun q hq => f2 q hq (fun z hz => nomatch hz)), hce, hO.vm, hcl, hWs, hall, hf⟩⟩
  refine st1 _ ?_
  show Steps p.tables e below (T1.setTop { method := m, pc := pc + 3, locals := ls, stack := .ref T.heap.size :: rest, locked := none }) _
  jvm_step X₁.here [X₁.here.top, hexec, d3', Value.category]
  exact hsteps
/-- 'throw new E("text")': new; dup; ldc; invokespecial; athrow -/
theorem vx_throwS {cc : ByteArray} {pc : Nat} (hexec : p.tables.exec = Jvm.exec) (hb : c.code = cc) (hl : l.stackTraces = false) {own cls text : String} {names : List String} {ik is ic mc ms sa : Nat} {A : Nat → Prop}
    (hown : s.vm.findClass own = some m.cls) (hcls : Bundle.fit cls = true) (hnames : ∀ n ∈ names, Bundle.fit n = true)
    (hk : (Cond.classLink own ik cls).before args s = true) (hini : (Cond.initialized cls).before args s = true) (hstr : vk_R own is text sa s) (hat : ∀ w ∈ vx_atS own ic cls names, w.before args s = true)
    (hgood : ∀ w ∈ Cond.classLink own ik cls :: Cond.initialized cls :: vx_atS own ic cls names, vx_ot w = true)
    (hU : vx_Zq Bundle.tN "UNASSIGNED_STACK" Bundle.steD A s s.heap) (hN : vx_Zq Bundle.tN "SUPPRESSED_SENTINEL" Bundle.listD A s s.heap) (hS : va_S A s.heap H locs) (hsize : ls.size = c.maxLocals)
    (d0 : decode cc pc = .ok (.new ik, 3)) (d3 : decode cc (pc + 3) = .ok (.dup, 1)) (d4 : decode cc (pc + 4) = .ok (.ldc is, 2)) (d6 : decode cc (pc + 6) = .ok (.invokespecial ic, 3)) (d9 : decode cc (pc + 9) = .ok (.athrow, 1))
    (hout : ∀ x ∈ c.exceptionTable.toList, covers x (pc + 9) = false)
    (hRframes : names.length + 3 < R.frames) (hRlocals : (rest.map fun v => v.category).sum + (13 * (names.length + 1) + 43) ≤ R.locals) (hRcells : cells + 1 ≤ R.cells) (hRslots : slots + 6 ≤ R.slots) (hlocks : meth.locks = false)
    (hx : ∀ t : State, s.vm.Alike t.vm → H.size ≤ t.heap.size → (∀ q : Nat, q < H.size → t.heap[q]? = H[q]?) → XC cls s t)
    (hf : ∀ z ∈ locs, free z.base) (hc : cells + 1 ≤ mc) (hs : slots + 6 ≤ ms) :
    W p l e R s m args below meth c H locs cells slots (vx_MQ below Qc XC args s mc ms free) (F0 m pc ls rest) := by
  intro T hT X
  have htr : e.platform.stackTraces = false := (show e.platform.stackTraces = l.stackTraces by rw [X.admits.platform]).trans hl
  have Y := vx_rebase X (R' := { frames := R.frames, locals := R.locals, cells := 1, slots := 6 }) (Nat.le_refl _) (Nat.le_refl _) hRcells hRslots
  obtain ⟨s', hA⟩ : ∃ z, z = (T.setVm s.vm).setFrames (.invoking m args :: below) := ⟨_, rfl⟩
  rw [← hA] at Y
  have hvm : s'.vm = s.vm := by rw [hA]; rfl
  have hhp : s'.heap = H := by rw [hA]; exact hT
  have hW0 : s.WarmedH s'.vm := by rw [hvm]; exact State.WarmedH.refl s
  have hat' : ∀ w ∈ vx_atS own ic cls names, w.before args s' = true := fun w hw => vx_ot_at hW0 hvm.symm (hgood w (List.mem_cons_of_mem _ (List.mem_cons_of_mem _ hw))) (hat w hw)
  have hk' : (Cond.classLink own ik cls).before args s' = true := vx_ot_at hW0 hvm.symm (hgood _ List.mem_cons_self) hk
  have hini' : (Cond.initialized cls).before args s' = true := vx_ot_at hW0 hvm.symm (hgood _ (List.mem_cons_of_mem _ List.mem_cons_self)) hini
  have hU' : vx_Zq Bundle.tN "UNASSIGNED_STACK" Bundle.steD A s' s'.heap := by rw [hhp]; exact vx_Zq.moved hW0.alike (hU.kept hS.2.1)
  have hN' : vx_Zq Bundle.tN "SUPPRESSED_SENTINEL" Bundle.listD A s' s'.heap := by rw [hhp]; exact vx_Zq.moved hW0.alike (hN.kept hS.2.1)
  have h : ∀ w ∈ Bundle.ownAtoms own ic cls names, w.before args s' = true := vx_own hat' (vx_isRefq hU'.1) (vx_isRefq hN'.1) hU'.2.word hN'.2.word
  have hown' : s'.vm.findClass own = some m.cls := by rw [hvm]; exact hown
  have hins : (Cond.instantiable cls 6).before args s' = true := h _ (by simp [Bundle.ownAtoms])
  obtain ⟨vm₁, cX, kX, hfX, hkX, -, -, X₁, st1⟩ := Y.newCold hexec (own := own) (C := cls) (index := ik) (n := 6) hown' hk' hins hini'
    (g := F0 m pc ls rest) rfl (by rw [hb]; exact d0) (Nat.le_refl _) (Nat.le_refl _)
  generalize hT1 : (T.setVm vm₁).pushCell { cls := cX, slots := kX.instanceTypes.map defaultValue, vm := .none } = T1 at X₁ st1
  have hcat : (Value.ref T.heap.size).category = 1 := rfl
  have hcellA : T1.heap[T.heap.size]? = some (freshCell cX kX) := by rw [← hT1]; exact State.heap_pushCell_size _ _
  have d3' : decode c.code (pc + 3) = .ok (.dup, 1) := by rw [hb]; exact d3
  have d4' : decode c.code (pc + 4) = .ok (.ldc is, 2) := by rw [hb]; exact d4
  have hstr' : vk_R own is text sa s' := vk_R.warm hW0 hstr
  obtain ⟨U, hsteps, hrun, hend, hW, hsame, ce, hce, hO⟩ := X₁.ctorThrowS hexec htr (own := own) (cls := cls) (names := names) (ic := ic) hown' hcls hnames h (fun x hx => nomatch hx) hfX hkX hcellA (by rw [hhp, hT]; exact Nat.le_refl _) (msg := .ref sa) rfl
    (g := { method := m, pc := pc + 6, locals := ls, stack := .ref sa :: .ref T.heap.size :: .ref T.heap.size :: rest, locked := none }) rfl hsize rfl rfl (rest := rest) rfl
    (by rw [hb]; exact d6) (by rw [hb]; exact d9) hout hRframes (by simp only [List.map_cons, List.sum_cons, hcat]; omega) hlocks
  obtain ⟨f1, f2⟩ := vx_frame hsame
  rw [hhp] at f1 f2
  have hWs : s.WarmedH U.vm := State.WarmedH.trans hW0 hW
  have hcl : s.vm.findClass cls = some ce.cls := by
    have h9 := hO.cls
    rw [hvm] at h9
    exact h9
  have hall : s.sameButNew ({ U with vm := s.vm } : State) locs mc ms := by
    subst hA
    obtain ⟨e1, e2⟩ := hsame
    rw [State.setFrames_setFrames] at e1
    have h2 : (T.setVm s.vm).sameButNew ({ U with vm := s.vm } : State) [] (0 + 1) (0 + 6) := ⟨e1, e2⟩
    have h3 := X.same.trans h2
    rw [List.append_nil] at h3
    exact h3.mono hc hs
  refine ⟨U, ?_, .threw T.heap.size, hrun, hend, Or.inr ⟨T.heap.size, rfl, cls, ce, locs, hx U hWs.alike f1 (fun q hq => f2 q hq (fun z hz => nomatch hz)), hce, hO.vm, hcl, hWs, hall, hf⟩⟩
  refine st1 _ ?_
  show Steps p.tables e below (T1.setTop { method := m, pc := pc + 3, locals := ls, stack := .ref T.heap.size :: rest, locked := none }) _
  jvm_step X₁.here [X₁.here.top, hexec, d3', Value.category]
  exact X₁.ldcString hexec (own := own) (text := text) (index := is) (a := sa) hown' hstr'.1 hstr'.2
    (g := { method := m, pc := pc + 4, locals := ls, stack := .ref T.heap.size :: .ref T.heap.size :: rest, locked := none }) rfl d4' _ hsteps
/-- 'throw new E("text")', the text by a wide index -/
theorem vx_throwSW {cc : ByteArray} {pc : Nat} (hexec : p.tables.exec = Jvm.exec) (hb : c.code = cc) (hl : l.stackTraces = false) {own cls text : String} {names : List String} {ik is ic mc ms sa : Nat} {A : Nat → Prop}
    (hown : s.vm.findClass own = some m.cls) (hcls : Bundle.fit cls = true) (hnames : ∀ n ∈ names, Bundle.fit n = true)
    (hk : (Cond.classLink own ik cls).before args s = true) (hini : (Cond.initialized cls).before args s = true) (hstr : vk_R own is text sa s) (hat : ∀ w ∈ vx_atS own ic cls names, w.before args s = true)
    (hgood : ∀ w ∈ Cond.classLink own ik cls :: Cond.initialized cls :: vx_atS own ic cls names, vx_ot w = true)
    (hU : vx_Zq Bundle.tN "UNASSIGNED_STACK" Bundle.steD A s s.heap) (hN : vx_Zq Bundle.tN "SUPPRESSED_SENTINEL" Bundle.listD A s s.heap) (hS : va_S A s.heap H locs) (hsize : ls.size = c.maxLocals)
    (d0 : decode cc pc = .ok (.new ik, 3)) (d3 : decode cc (pc + 3) = .ok (.dup, 1)) (d4 : decode cc (pc + 4) = .ok (.ldc_w is, 3)) (d7 : decode cc (pc + 7) = .ok (.invokespecial ic, 3)) (d10 : decode cc (pc + 10) = .ok (.athrow, 1))
    (hout : ∀ x ∈ c.exceptionTable.toList, covers x (pc + 10) = false)
    (hRframes : names.length + 3 < R.frames) (hRlocals : (rest.map fun v => v.category).sum + (13 * (names.length + 1) + 43) ≤ R.locals) (hRcells : cells + 1 ≤ R.cells) (hRslots : slots + 6 ≤ R.slots) (hlocks : meth.locks = false)
    (hx : ∀ t : State, s.vm.Alike t.vm → H.size ≤ t.heap.size → (∀ q : Nat, q < H.size → t.heap[q]? = H[q]?) → XC cls s t)
    (hf : ∀ z ∈ locs, free z.base) (hc : cells + 1 ≤ mc) (hs : slots + 6 ≤ ms) :
    W p l e R s m args below meth c H locs cells slots (vx_MQ below Qc XC args s mc ms free) (F0 m pc ls rest) := by
  intro T hT X
  have htr : e.platform.stackTraces = false := (show e.platform.stackTraces = l.stackTraces by rw [X.admits.platform]).trans hl
  have Y := vx_rebase X (R' := { frames := R.frames, locals := R.locals, cells := 1, slots := 6 }) (Nat.le_refl _) (Nat.le_refl _) hRcells hRslots
  obtain ⟨s', hA⟩ : ∃ z, z = (T.setVm s.vm).setFrames (.invoking m args :: below) := ⟨_, rfl⟩
  rw [← hA] at Y
  have hvm : s'.vm = s.vm := by rw [hA]; rfl
  have hhp : s'.heap = H := by rw [hA]; exact hT
  have hW0 : s.WarmedH s'.vm := by rw [hvm]; exact State.WarmedH.refl s
  have hat' : ∀ w ∈ vx_atS own ic cls names, w.before args s' = true := fun w hw => vx_ot_at hW0 hvm.symm (hgood w (List.mem_cons_of_mem _ (List.mem_cons_of_mem _ hw))) (hat w hw)
  have hk' : (Cond.classLink own ik cls).before args s' = true := vx_ot_at hW0 hvm.symm (hgood _ List.mem_cons_self) hk
  have hini' : (Cond.initialized cls).before args s' = true := vx_ot_at hW0 hvm.symm (hgood _ (List.mem_cons_of_mem _ List.mem_cons_self)) hini
  have hU' : vx_Zq Bundle.tN "UNASSIGNED_STACK" Bundle.steD A s' s'.heap := by rw [hhp]; exact vx_Zq.moved hW0.alike (hU.kept hS.2.1)
  have hN' : vx_Zq Bundle.tN "SUPPRESSED_SENTINEL" Bundle.listD A s' s'.heap := by rw [hhp]; exact vx_Zq.moved hW0.alike (hN.kept hS.2.1)
  have h : ∀ w ∈ Bundle.ownAtoms own ic cls names, w.before args s' = true := vx_own hat' (vx_isRefq hU'.1) (vx_isRefq hN'.1) hU'.2.word hN'.2.word
  have hown' : s'.vm.findClass own = some m.cls := by rw [hvm]; exact hown
  have hins : (Cond.instantiable cls 6).before args s' = true := h _ (by simp [Bundle.ownAtoms])
  obtain ⟨vm₁, cX, kX, hfX, hkX, -, -, X₁, st1⟩ := Y.newCold hexec (own := own) (C := cls) (index := ik) (n := 6) hown' hk' hins hini'
    (g := F0 m pc ls rest) rfl (by rw [hb]; exact d0) (Nat.le_refl _) (Nat.le_refl _)
  generalize hT1 : (T.setVm vm₁).pushCell { cls := cX, slots := kX.instanceTypes.map defaultValue, vm := .none } = T1 at X₁ st1
  have hcat : (Value.ref T.heap.size).category = 1 := rfl
  have hcellA : T1.heap[T.heap.size]? = some (freshCell cX kX) := by rw [← hT1]; exact State.heap_pushCell_size _ _
  have d3' : decode c.code (pc + 3) = .ok (.dup, 1) := by rw [hb]; exact d3
  have d4' : decode c.code (pc + 4) = .ok (.ldc_w is, 3) := by rw [hb]; exact d4
  have hstr' : vk_R own is text sa s' := vk_R.warm hW0 hstr
  obtain ⟨U, hsteps, hrun, hend, hW, hsame, ce, hce, hO⟩ := X₁.ctorThrowS hexec htr (own := own) (cls := cls) (names := names) (ic := ic) hown' hcls hnames h (fun x hx => nomatch hx) hfX hkX hcellA (by rw [hhp, hT]; exact Nat.le_refl _) (msg := .ref sa) rfl
    (g := { method := m, pc := pc + 7, locals := ls, stack := .ref sa :: .ref T.heap.size :: .ref T.heap.size :: rest, locked := none }) rfl hsize rfl rfl (rest := rest) rfl
    (by rw [hb]; exact d7) (by rw [hb]; exact d10) hout hRframes (by simp only [List.map_cons, List.sum_cons, hcat]; omega) hlocks
  obtain ⟨f1, f2⟩ := vx_frame hsame
  rw [hhp] at f1 f2
  have hWs : s.WarmedH U.vm := State.WarmedH.trans hW0 hW
  have hcl : s.vm.findClass cls = some ce.cls := by
    have h9 := hO.cls
    rw [hvm] at h9
    exact h9
  have hall : s.sameButNew ({ U with vm := s.vm } : State) locs mc ms := by
    subst hA
    obtain ⟨e1, e2⟩ := hsame
    rw [State.setFrames_setFrames] at e1
    have h2 : (T.setVm s.vm).sameButNew ({ U with vm := s.vm } : State) [] (0 + 1) (0 + 6) := ⟨e1, e2⟩
    have h3 := X.same.trans h2
    rw [List.append_nil] at h3
    exact h3.mono hc hs
  refine ⟨U, ?_, .threw T.heap.size, hrun, hend, Or.inr ⟨T.heap.size, rfl, cls, ce, locs, hx U hWs.alike f1 (fun q hq => f2 q hq (fun z hz => nomatch hz)), hce, hO.vm, hcl, hWs, hall, hf⟩⟩
  refine st1 _ ?_
  show Steps p.tables e below (T1.setTop { method := m, pc := pc + 3, locals := ls, stack := .ref T.heap.size :: rest, locked := none }) _
  jvm_step X₁.here [X₁.here.top, hexec, d3', Value.category]
  exact X₁.ldcStringW hexec (own := own) (text := text) (index := is) (a := sa) hown' hstr'.1 hstr'.2
    (g := { method := m, pc := pc + 4, locals := ls, stack := .ref T.heap.size :: .ref T.heap.size :: rest, locked := none }) rfl d4' _ hsteps
end Ends
section Bodies
variable {l : Launch}
theorem vx_ofW {y : MethodName} {ws ws' : List Cond} {rm : Room} {Pc : Array Value → State → Prop} {Qc : Array Value → State → Outcome → State → Prop} {XC : String → State → State → Prop} {mc ms : Nat} {free : Addr → Prop} {cc : ByteArray} {maxL : Nat} {ret : Option FieldType}
    (hy : plainName y.cls = true) (hw : ws = Cond.code y cc maxL ret :: ws')
    (body : ∀ p e s m args below meth c s₁, BodyLoose p l y (headSpec ws rm) cc maxL ret e s m args below meth c s₁ → c.maxLocals = maxL → (∀ x ∈ c.exceptionTable.toList, False) → Pc args s →
      W p l e (headSpec ws rm).room s m args below meth c s.heap [] 0 0 (vx_MQ below Qc XC args s mc ms free) (entryFrame m args maxL)) : vx_Met l y ws rm Pc Qc XC mc ms free := by
  refine MetFree.of_bodyS (code := cc) (maxLocals := maxL) (ret := ret) hy ?_ ?_
  · intro args s m h hn
    obtain ⟨meth, c, h1, h2, h3, h4, h5, h6, -, -⟩ := Cond.code_spec hn (atoms_spec (ws := ws) h _ (by rw [hw]; exact List.mem_cons_self))
    exact ⟨meth, c, h1, h2, h3, h4, h5, h6⟩
  · intro p e s m args below meth c s₁ B hml hP _
    have hh0 : s₁.heap = s.heap := by rw [B.state]; rfl
    have ht : ∀ x ∈ c.exceptionTable.toList, False := by
      obtain ⟨meth9, c9, h1, h2, -, -, -, -, h7, -⟩ := Cond.code_spec B.named (atoms_spec (ws := ws) B.pre _ (by rw [hw]; exact List.mem_cons_self))
      cases Option.some.inj (h1.symm.trans B.method)
      cases Option.some.inj (h2.symm.trans (Stand.of_body B).code)
      intro x hx
      rw [Array.isEmpty_iff.mp h7] at hx
      cases hx
    obtain ⟨t, a1, o, b1, b2, b3⟩ := body p e s m args below meth c s₁ B hml ht hP s₁ hh0 (Stand.of_body B)
    exact ⟨t, o, a1, b1, b2, b3⟩
/-- the table of a body with handlers -/
theorem vx_table {p : Program} {x y : MethodName} {S : Spec} {cc bytes : ByteArray} {maxL maxL' : Nat} {ret ret' : Option FieldType} {e : Env} {s s₁ : State} {m : MethodId} {args : Array Value} {below : List Frame} {meth : Method} {c : Code} {hh : List (Nat × Nat × Nat × Nat)}
    (B : BodyLoose p l y S cc maxL ret e s m args below meth c s₁) (h : (Cond.codeWith y bytes maxL' ret' hh).before args s = true) : c.exceptionTable.toList = tableOf hh := by
  obtain ⟨m9, meth9, c9, hn9, h1, h2, -, -, h6, -⟩ := Cond.codeWith_spec h
  cases Option.some.inj (hn9.symm.trans B.named)
  cases Option.some.inj (h1.symm.trans B.method)
  cases Option.some.inj (h2.symm.trans (Stand.of_body B).code)
  rw [← h6, table_eq]
end Bodies
end VXA
/-! ===== END ===== -/
/-! ===== BEGIN a static call of a method with an exception table ===== -/
section VXS
variable {p : Program} {l : Launch} {e : Env} {R : Room} {s : State} {m : MethodId} {args : Array Value} {below : List Frame} {meth : Method} {c : Code} {T : State} {H : Heap} {locs : List Loc} {cells slots : Nat}
abbrev vx_CSW (R : Room) (s : State) (args : Array Value) (own : String) (index : Nat) (y : MethodName) (bytes : ByteArray) (maxL : Nat) (ret : Option FieldType) (hh : List (Nat × Nat × Nat × Nat)) (ws : List Cond) (rm : Room) (mc ms n : Nat) : Prop :=
  (rm.cells = mc ∧ rm.slots = ms ∧ rm.frames + 1 ≤ R.frames ∧ 8 + (maxL + 11) + rm.locals ≤ R.locals ∧ (∀ w ∈ ws, ∀ (a' : Array Value) (U : State), s.WarmedH U.vm → w.before a' U = true) ∧ Cond.codeWith y bytes maxL ret hh ∈ ws) ∧
  (Cond.codeWith y bytes maxL ret hh).before args s = true ∧ (Cond.initialized y.cls).before args s = true ∧ (y.cls ≠ "java/lang/invoke/MethodHandle" ∧ y.cls ≠ "java/lang/invoke/VarHandle") ∧
  (∀ sig, parseMethodDescriptor y.desc = some sig → n = sig.parameters.length) ∧ (Cond.methodLink own index y).before args s = true ∧ (Cond.static y).before args s = true
theorem vx_cwSW {own : String} {index maxL mc ms : Nat} {y : MethodName} {bytes : ByteArray} {ret : Option FieldType} {hh : List (Nat × Nat × Nat × Nat)} {Ts ws ws' : List Cond} {rm : Room} (n : Nat) (ht : ∀ w ∈ Ts, w.before args s = true) (hT : GoodIn Ts (va_wsS own index y ws)) (hw : ws = Cond.codeWith y bytes maxL ret hh :: ws') (hrc : rm.cells = mc) (hrs : rm.slots = ms)
    (hd : y.cls ≠ "java/lang/invoke/MethodHandle" ∧ y.cls ≠ "java/lang/invoke/VarHandle" ∧ (parseMethodDescriptor y.desc).map (fun d => d.parameters.length) = some n) (hR : rm.frames + 1 ≤ R.frames ∧ 8 + (maxL + 11) + rm.locals ≤ R.locals) :
    vx_CSW R s args own index y bytes maxL ret hh ws rm mc ms n := by
  have ok : ∀ w ∈ va_wsS own index y ws, w.before args s = true := fun w h => ht w (hT w h).1
  have hG : GoodIn Ts ws := fun w h => hT w (by unfold va_wsS; exact List.mem_append_right _ h)
  have hc : Cond.codeWith y bytes maxL ret hh ∈ ws := by rw [hw]; exact List.mem_cons_self
  refine ⟨⟨hrc, hrs, hR.1, hR.2, pay_in ht hG, hc⟩, ht _ (hG _ hc).1, ok _ (by simp [va_wsS]), ⟨hd.1, hd.2.1⟩, fun sig h => ?_, ok _ (by simp [va_wsS]), ok _ (by simp [va_wsS])⟩
  have h2 := hd.2.2
  rw [h] at h2
  exact (Option.some.inj h2).symm
theorem vx_callSW (X : Stand p l e R s m args below meth c T locs cells slots) (hexec : p.tables.exec = Jvm.exec) {own : String} {index : Nat} {y : MethodName} {bytes : ByteArray} {maxL : Nat} {ret : Option FieldType} {hh : List (Nat × Nat × Nat × Nat)}
    (hown : s.vm.findClass own = some m.cls) (hlink : (Cond.methodLink own index y).before args s = true) (hstat : (Cond.static y).before args s = true) (hinit : (Cond.initialized y.cls).before args s = true)
    (hcode : (Cond.codeWith y bytes maxL ret hh).before args s = true) (hy : y.cls ≠ "java/lang/invoke/MethodHandle" ∧ y.cls ≠ "java/lang/invoke/VarHandle")
    {W9 : Nat} {Pre : Pt → Array Value → Prop} {Post : Pt → Array Value → Option Value → Pt → Prop} (hK : Back l R p e below s args y 3 W9 Pre Post)
    {g : JFrame} (hg : g.method = m) (hsize : g.locals.size = c.maxLocals) {argsL rest : List Value} (hlen : ∀ sig, parseMethodDescriptor y.desc = some sig → argsL.length = sig.parameters.length)
    (hstack : g.stack = argsL.reverse ++ rest) (hW : 2 * g.monitorRoom + (rest.map fun v => v.category).sum ≤ W9) (hdg : decode c.code g.pc = .ok (.invokestatic index, 3))
    (hpre : ∀ vm₁, s.WarmedH vm₁ → Pre ⟨T.setVm vm₁, locs, cells, slots⟩ argsL.toArray) :
    ∃ (v : Option Value) (vm₁ : Vm) (B : Pt), s.WarmedH vm₁ ∧ Stand p l e R s m args below meth c B.U B.locs B.cells B.slots ∧ Post ⟨T.setVm vm₁, locs, cells, slots⟩ argsL.toArray v B ∧
      ∀ target, Steps p.tables e below (B.U.setTop { g with pc := g.pc + 3, stack := v.toList ++ rest }) target → Steps p.tables e below (T.setTop g) target := by
  obtain ⟨mk, methM, cM, hnamed, hmethM, -, -, -, -, -, -, hsigM⟩ := Cond.codeWith_spec hcode
  have hstatic : methM.isStatic = true := Cond.static_spec hnamed hmethM hstat
  obtain ⟨kP, hkP, -⟩ := className_of_methodNamed hnamed
  have hinitP : kP.init = .initialized := Cond.initialized_spec (findClass_of_methodNamed hnamed) hkP hinit
  obtain ⟨vm₁, X₁, hstep₁⟩ := X.invokestatic hexec hown hlink hnamed hmethM hstatic hkP hinitP hy (g := g) hg (argsL := argsL) (rest := rest) (hlen _ hsigM) hstack hdg
  obtain ⟨v, B, X', hpost, hsteps⟩ := hK m meth c ⟨T.setVm vm₁, locs, cells, slots⟩ { g with stack := rest } (.invokestatic index) mk argsL.toArray X₁ hg hsize hdg hW (X₁.named hnamed) (hpre vm₁ X₁.warmed)
  exact ⟨v, vm₁, B, X₁.warmed, X', hpost, fun target h => hstep₁ _ fun acts => by rw [doInvoke_state]; exact hsteps.trans h⟩
theorem vx_runSW {y : MethodName} {bytes cc : ByteArray} {maxL nL mc ms n index : Nat} {ret : Option FieldType} {hh : List (Nat × Nat × Nat × Nat)} {ws : List Cond} {rm : Room} {Pc : Array Value → State → Prop} {Qc : Array Value → State → Outcome → State → Prop} {free : Addr → Prop} {Ts : List Cond} {own : String} {As rest : List Value} {g : JFrame}
    (S : CallFix p m c cc nL s args Ts own) (hM : Met l y ws rm Pc Qc mc ms free) (cw : vx_CSW R s args own index y bytes maxL ret hh ws rm mc ms n) (hp : PreS s H Pc As)
    (hg : g.method = m) (hn : As.length = n) (hsize : g.locals.size = nL) (hstack : g.stack = As.reverse ++ rest) (hW : 2 * g.monitorRoom + (rest.map fun v => v.category).sum ≤ 8) (hdg : decode cc g.pc = .ok (.invokestatic index, 3)) (hf : cells + mc ≤ R.cells ∧ slots + ms ≤ R.slots) :
    va_Run p l e R s m args below meth c H locs cells slots mc ms g rest (Qc As.toArray) (free) := by
  obtain ⟨⟨hrc, hrs, hfr, hlo, hws, hcw⟩, hcode, hini, hy, hlen, hl, hstt⟩ := cw
  have hK : Back l R p e below s args y 3 8 (PreOf R mc ms Pc) (PostOf Qc mc ms free) := va_backW (hh := hh) (bytes := bytes) (maxL := maxL) (ret := ret) hM hp.1 hrc hrs hfr hlo hws hcw (fun a' U hW => word_at hW (Or.inl (by first | rfl | simp [Cond.onTables, Cond.keeps, Cond.steady])) hini)
  obtain ⟨hx, hb, hml, ho, -⟩ := S
  intro T hT X
  obtain ⟨v, vm₁, ⟨U', l2, c2, s2⟩, hW₁, X', ⟨g', mk, t, L, e1, e2, hq, h1, hL, h2, h3⟩, st⟩ := vx_callSW X hx (hh := hh) (bytes := bytes) (maxL := maxL) (ret := ret) ho hl hstt hini hcode hy hK hg (hsize.trans hml.symm) (argsL := As) (rest := rest) (fun sig h => hn.trans (hlen sig h)) hstack hW (by rw [hb]; exact hdg)
    (fun vm₁ hW₁ => ⟨hf.1, hf.2, hp.2 (T.setVm vm₁) hT hW₁⟩)
  dsimp only [Pt.U, Pt.locs, Pt.cells, Pt.slots] at X' e1 e2 h1 h2 h3 st
  subst h1; subst h2; subst h3
  exact ⟨v, (T.setVm vm₁).calling g' mk As.toArray, t, U', L, hT, X', hL, e1, e2, hq, st⟩
/-- not caught here, past rows that name other classes: it goes on to the caller -/
theorem vx_outP {p : Program} {l : Launch} {e : Env} {R : Room} {s : State} {m : MethodId} {args : Array Value} {below : List Frame} {meth : Method} {c : Code} {H : Heap} {locs : List Loc} {cells slots : Nat} {free : Addr → Prop} {ls : Array Slot} {rest : List Value} {Qc : Array Value → State → Outcome → State → Prop} {XC : String → State → State → Prop}
    {pc : Nat} {own E : String} {ce : Cell} {q : Addr} {mc ms : Nat} (hown : s.vm.findClass own = some m.cls) (hlocks : meth.locks = false)
    (hpass : ∀ z ∈ c.exceptionTable.toList, covers z pc = false ∨ (z.catchType ≠ 0 ∧ ∃ nm : String, (Cond.classLink own z.catchType nm).before args s = true ∧ va_Nc E nm s)) (hcell : H[q]? = some ce) (hv : ce.vm = .none) (hcl : s.vm.findClass E = some ce.cls)
    (hx : ∀ t : State, t.heap = H → s.vm.Alike t.vm → XC E s t) (hf : ∀ z ∈ locs, free z.base) (hc : cells ≤ mc) (hs : slots ≤ ms) :
    vx_W p l e R s m args below meth c H locs cells slots (vx_MQ below Qc XC args s mc ms free) (F0 m pc ls rest) q := by
  intro T hT X
  have hpl : e.platform.magicAccessors = ({} : Platform).magicAccessors := by rw [X.admits.platform]
  obtain ⟨vm', hW', X', st⟩ := X.outThrough hlocks q (g := F0 m pc ls rest) rfl rfl rfl (cell := ce) (by rw [hT]; exact hcell) (by rw [hv]; rfl)
    (by obtain ⟨k9, h9, -⟩ := Vm.findClass_spec hcl; exact ⟨k9, h9⟩) (fun z hz => by
      rcases hpass z hz with h | ⟨hz0, nm, hl1, hn1⟩
      · exact Or.inl h
      · obtain ⟨c6, hc6, hcl6⟩ := Cond.classLink_spec hown hl1 e.platform hpl
        obtain ⟨a8, b8, h1, h2, h3⟩ := hn1
        cases Option.some.inj (h1.symm.trans hcl)
        cases Option.some.inj (h2.symm.trans hc6)
        exact Or.inr ⟨hz0, _, hcl6, h3⟩)
  obtain ⟨g₀, hfr⟩ := X'.frames_eq
  have hcell9 : ((T.setVm vm').setFrames (.throwing q :: below)).heap[q]? = some ce := by
    show T.heap[q]? = some ce
    rw [hT]; exact hcell
  have hend : Ended ((T.setVm vm').setFrames (.throwing q :: below)) below (.threw q) := State.frames_setFrames _ (State.cur_lt_of_frames hfr)
  refine ⟨(T.setVm vm').setFrames (.throwing q :: below), ?_, .threw q, X'.here.running, hend, Or.inr ⟨q, rfl, E, ce, locs, hx _ hT (X'.ends _).1.alike, hcell9, hv, hcl, (X'.ends _).1, (X'.ends _).2.mono hc hs, hf⟩⟩
  rw [X.pushThrowing_eq]
  exact st
/-- a thing of a world lies in the heap -/
theorem vx_lt {D : va_G} {cl : List vw_C} {ws : va_W} {H1 : Heap} (h : va_P D cl ws H1) {k : Nat} {q : Nat × va_E} (hk : ws[k]? = some q) : q.1 < H1.size := (h k q hk).lt
end VXS
/-! ===== END ===== -/
/-! ===== BEGIN methods with a table of their own: called by a name, returning or throwing ===== -/
section VXH
/-! vx_backW, vx_callVX, vx_callSX, vx_callVW, vx_runVW, vx_runVX, vx_runSX, vx_ofWH follow the same proofs as their sisters above (Free/Laws.lean, Shelf42/LK1.lean); vx_outP calls Shelf42/NT130.lean (outThrough). -/
section
variable {l : Launch} {R : Room} {p : Program} {e : Env} {below : List Frame} {s : State} {sargs : Array Value} {y : MethodName} {len W9 : Nat}
theorem vx_backW {ws : List Cond} {rm : Room} {Pc : Array Value → State → Prop} {Qc : Array Value → State → Outcome → State → Prop} {XC : String → State → State → Prop} {mc ms : Nat} {free : Addr → Prop} {bytes : ByteArray} {maxL : Nat} {ret : Option FieldType} {hh : List (Nat × Nat × Nat × Nat)}
    (hM : vx_Met l y ws rm Pc Qc XC mc ms free) (hblind : FrameBlind Pc) (hrc : rm.cells = mc) (hrs : rm.slots = ms)
    (hframes : rm.frames + 1 ≤ R.frames) (hlocals : W9 + (maxL + 11) + rm.locals ≤ R.locals)
    (hws : ∀ w ∈ ws, ∀ a' U, s.WarmedH U.vm → w.before a' U = true) (hcode : Cond.codeWith y bytes maxL ret hh ∈ ws) (hinit : ∀ a' U, s.WarmedH U.vm → (Cond.initialized y.cls).before a' U = true) :
    vx_Back l R p e below s sargs y len W9 (PreOf R mc ms Pc) (PostOf Qc mc ms free) (vx_Post XC mc ms free) := by
  intro m meth c A g ig mk a X hg hsize hdg hW hn hp
  have h1 : (headSpec ws rm).pre.before a A.U = true := atoms_intro fun w hw => hws w hw _ _ X.warmed
  have h2 : (Cond.codeWith y bytes maxL ret hh).before a A.U = true := hws _ hcode _ _ X.warmed
  have h3 : (Cond.initialized y.cls).before a A.U = true := hinit _ _ X.warmed
  have h4 : A.cells + (headSpec ws rm).room.cells ≤ R.cells := by rw [show (headSpec ws rm).room.cells = mc from hrc]; exact hp.1
  have h5 : A.slots + (headSpec ws rm).room.slots ≤ R.slots := by rw [show (headSpec ws rm).room.slots = ms from hrs]; exact hp.2.1
  have hPc : Pc a (A.U.calling g mk a) := hblind _ _ _ _ hp.2.2
  obtain ⟨U, Ls, c0, s0⟩ := A
  dsimp only [Pt.U, Pt.locs, Pt.cells, Pt.slots] at h1 h2 h3 h4 h5 X hn hPc ⊢
  obtain ⟨m9, methY, cY, hn9, hmY, hcY, -, hlY, -⟩ := Cond.codeWith_spec h2
  cases Option.some.inj (hn9.symm.trans hn)
  obtain ⟨kY, hkY, -⟩ := className_of_methodNamed hn
  have hinitY : kY.init = .initialized := Cond.initialized_spec (findClass_of_methodNamed hn) hkY h3
  have h : At U g.method c below := by rw [hg]; exact X.here
  have hlocals9 : W9 + (maxL + 11) + (headSpec ws rm).room.locals ≤ R.locals := hlocals
  have happ : (headSpec ws rm).appliesLoose y e.platform (U.calling g mk a) = true :=
    Spec.appliesLoose_calling (g := g) h hdg hn hkY hinitY
      (X.room_calling (g := g) (R' := (headSpec ws rm).room) hsize hmY hcY hframes (by rw [hlY]; omega) h4 h5) h1
  obtain ⟨mid, hmid⟩ := h.above
  have hfr : (U.setTop g).frames = (.java g :: mid) ++ below := by rw [State.frames_setTop' g h.top, hmid]; rfl
  obtain ⟨o, s₂, hsteps, -, hend, hq⟩ := Steps.callFree hM p X.admits X.cas X.clock (acts := []) hfr happ hPc trivial
  have hq' : vx_Q Qc XC mc ms free a (U.calling g mk a) o s₂ := hq
  rw [State.frames_setTop' g h.top] at hend
  obtain ⟨g₀, hg0⟩ := Option.isSome_iff_exists.mp h.top
  obtain ⟨r, hr⟩ := State.topJava?_eq_some.mp hg0
  have hr' : (({ U with heap := s₂.heap, slotsUsed := s₂.slotsUsed } : State).setVm s₂.vm).frames = .java g₀ :: r := hr
  rcases hq' with ⟨hqc, L, hfe, hL⟩ | ⟨q, rfl, E, ce, L, hx, hce, hcv, hcl, hW₂, hsm, hL⟩
  · obtain ⟨⟨v, rfl⟩, hW₂, e2, q2, q3, q4, q5, q6⟩ := id hfe
    have e3 : s₂ = ({ (U.calling g mk a).setFrames s₂.frames with heap := s₂.heap, slotsUsed := s₂.slotsUsed } : State).setVm s₂.vm := by
      have : s₂ = ({ s₂ with vm := (U.calling g mk a).vm } : State).setVm s₂.vm := rfl
      rw [e2] at this
      exact this
    obtain ⟨c₂, i₂, len₂, hc₂, hd₂, hf₂⟩ := hend
    have hW' : U.WarmedH s₂.vm := hW₂
    have hcc : c₂ = c := by
      have h1 : s₂.code? g.method = U.code? g.method := by
        rw [State.code?_eq, State.code?_eq, hW'.alike.method?]
      exact Option.some.inj (hc₂.symm.trans (h1.trans h.code))
    subst hcc
    have hlen : len₂ = len := by rw [hdg] at hd₂; cases hd₂; rfl
    subst hlen
    have hs₂ : s₂ = (({ U with heap := s₂.heap, slotsUsed := s₂.slotsUsed } : State).setVm s₂.vm).setTop { g with pc := g.pc + len₂, stack := v.toList ++ g.stack } := by
      refine e3.trans ?_
      rw [hf₂, State.calling_eq h.top, State.setFrames_setFrames, State.setTop_of_frames _ hr', hr]
      rfl
    have hsame : U.sameButNew ({ U with heap := s₂.heap, slotsUsed := s₂.slotsUsed } : State) L mc ms := by
      refine ⟨?_, q2, q3, q4, q5, q6⟩
      obtain ⟨t, ht, -⟩ := State.frames_cons hr
      show ({ U with heap := s₂.heap, slotsUsed := s₂.slotsUsed } : State) = { U.setFrames U.frames with heap := s₂.heap, slotsUsed := s₂.slotsUsed }
      rw [State.setFrames_self ht]
    subst hg
    refine Or.inl ⟨v, ⟨(({ U with heap := s₂.heap, slotsUsed := s₂.slotsUsed } : State).setVm s₂.vm), Ls ++ L, c0 + mc, s0 + ms⟩,
      ⟨X.admits, X.cas, X.clock, X.frames, X.room, X.hears, X.method, X.code, (X.here.setHeapUsed s₂.heap s₂.slotsUsed).setVm hW'.alike, X.tail, State.WarmedH.trans X.warmed hW', X.limits, X.bytes, X.same.trans (hsame.setVm s.vm)⟩,
      ⟨g, mk, s₂, L, rfl, rfl, hqc, rfl, hL, rfl, rfl⟩, ?_⟩
    show Steps p.tables e below _ ((({ U with heap := s₂.heap, slotsUsed := s₂.slotsUsed } : State).setVm s₂.vm).setTop { g with pc := g.pc + len₂, stack := v.toList ++ g.stack })
    rw [← hs₂]
    exact hsteps
  · obtain ⟨e2, q2, q3, q4, q5, q6⟩ := id hsm
    have e3 : s₂ = ({ (U.calling g mk a).setFrames s₂.frames with heap := s₂.heap, slotsUsed := s₂.slotsUsed } : State).setVm s₂.vm := by
      have : s₂ = ({ s₂ with vm := (U.calling g mk a).vm } : State).setVm s₂.vm := rfl
      rw [e2] at this
      exact this
    have hf₂ : s₂.frames = .throwing q :: .java g :: U.frames.tail := hend
    have hW' : U.WarmedH s₂.vm := hW₂
    have hs₂ : s₂ = ((({ U with heap := s₂.heap, slotsUsed := s₂.slotsUsed } : State).setVm s₂.vm).setTop g).pushFrame (.throwing q) := by
      refine e3.trans ?_
      rw [hf₂, State.calling_eq h.top, State.setFrames_setFrames, State.pushFrame, State.frames_setTop _ hr', State.setTop_of_frames _ hr', State.setFrames_setFrames, hr]
      rfl
    have hsame : U.sameButNew ({ U with heap := s₂.heap, slotsUsed := s₂.slotsUsed } : State) L mc ms := by
      refine ⟨?_, q2, q3, q4, q5, q6⟩
      obtain ⟨t, ht, -⟩ := State.frames_cons hr
      show ({ U with heap := s₂.heap, slotsUsed := s₂.slotsUsed } : State) = { U.setFrames U.frames with heap := s₂.heap, slotsUsed := s₂.slotsUsed }
      rw [State.setFrames_self ht]
    subst hg
    refine Or.inr ⟨q, ⟨(({ U with heap := s₂.heap, slotsUsed := s₂.slotsUsed } : State).setVm s₂.vm), Ls ++ L, c0 + mc, s0 + ms⟩,
      ⟨X.admits, X.cas, X.clock, X.frames, X.room, X.hears, X.method, X.code, (X.here.setHeapUsed s₂.heap s₂.slotsUsed).setVm hW'.alike, X.tail, State.WarmedH.trans X.warmed hW', X.limits, X.bytes, X.same.trans (hsame.setVm s.vm)⟩,
      ⟨g, mk, s₂, L, E, ce, rfl, rfl, hx, hce, hcv, hcl, rfl, hL, rfl, rfl⟩, ?_⟩
    show Steps p.tables e below _ (((({ U with heap := s₂.heap, slotsUsed := s₂.slotsUsed } : State).setVm s₂.vm).setTop g).pushFrame (.throwing q))
    rw [← hs₂]
    exact hsteps
end
variable {p : Program} {l : Launch} {e : Env} {R : Room} {s : State} {m : MethodId} {args : Array Value} {below : List Frame} {meth : Method} {c : Code} {T : State} {H : Heap} {locs : List Loc} {cells slots : Nat}
theorem vx_callVX (X : Stand p l e R s m args below meth c T locs cells slots) (hexec : p.tables.exec = Jvm.exec) {own C : String} {index : Nat} {y : MethodName} {bytes : ByteArray} {maxL : Nat} {ret : Option FieldType} {hh : List (Nat × Nat × Nat × Nat)}
    (hown : s.vm.findClass own = some m.cls) (hlink : (Cond.methodLink own index y).before args s = true) (hinst : (Cond.instanceMethod y).before args s = true) (hsel : (Cond.selects C y y).before args s = true)
    (hcode : (Cond.codeWith y bytes maxL ret hh).before args s = true) (hy : y.cls ≠ "java/lang/invoke/MethodHandle" ∧ y.cls ≠ "java/lang/invoke/VarHandle")
    {W9 : Nat} {Pre : Pt → Array Value → Prop} {Post : Pt → Array Value → Option Value → Pt → Prop} {PostX : Pt → Array Value → Addr → Pt → Prop} (hK : vx_Back l R p e below s args y 3 W9 Pre Post PostX)
    {b : Addr} {cellB : Cell} (hcell : T.heap[b]? = some cellB) (hobj : cellB.vm.isStatics = false) (hcls : s.vm.findClass C = some cellB.cls)
    {g : JFrame} (hg : g.method = m) (hsize : g.locals.size = c.maxLocals) {argsL rest : List Value} (hlen : ∀ sig, parseMethodDescriptor y.desc = some sig → argsL.length = sig.parameters.length)
    (hstack : g.stack = argsL.reverse ++ .ref b :: rest) (hW : 2 * g.monitorRoom + (rest.map fun v => v.category).sum ≤ W9) (hdg : decode c.code g.pc = .ok (.invokevirtual index, 3))
    (hpre : ∀ vm₁, s.WarmedH vm₁ → Pre ⟨T.setVm vm₁, locs, cells, slots⟩ (Value.ref b :: argsL).toArray) :
    (∃ (v : Option Value) (vm₁ : Vm) (B : Pt), s.WarmedH vm₁ ∧ Stand p l e R s m args below meth c B.U B.locs B.cells B.slots ∧ Post ⟨T.setVm vm₁, locs, cells, slots⟩ (Value.ref b :: argsL).toArray v B ∧
      ∀ target, Steps p.tables e below (B.U.setTop { g with pc := g.pc + 3, stack := v.toList ++ rest }) target → Steps p.tables e below (T.setTop g) target) ∨
    (∃ (q : Addr) (vm₁ : Vm) (B : Pt), s.WarmedH vm₁ ∧ Stand p l e R s m args below meth c B.U B.locs B.cells B.slots ∧ PostX ⟨T.setVm vm₁, locs, cells, slots⟩ (Value.ref b :: argsL).toArray q B ∧
      Steps p.tables e below (T.setTop g) ((B.U.setTop { g with stack := rest }).pushFrame (.throwing q))) := by
  obtain ⟨mk, methM, hnamed, hmethM, hstM, habM⟩ := Cond.instanceMethod_spec hinst
  obtain ⟨m8, methM', cM, hn8, hmethM', -, -, -, -, -, -, hsigM⟩ := Cond.codeWith_spec hcode
  cases Option.some.inj (hn8.symm.trans hnamed)
  cases hmethM.symm.trans hmethM'
  obtain ⟨c2, r2, m2, q1, q2, q3, q4, kP, hkP, hkPi⟩ := Cond.selects_spec hsel
  cases hcls.symm.trans q1
  cases (State.methodFound?_of_named hnamed hy).symm.trans q2
  cases hnamed.symm.trans q3
  have hselP : selectMethod e.platform s.vm cellB.cls mk = .method mk := by rw [Launch.admits_selectMethod X.admits]; exact q4
  obtain ⟨vm₁, X₁, hstep₁⟩ := X.invokevirtual hexec hown hlink hnamed hmethM hstM hkP hkPi hy (a := b) (cell := cellB) hcell
    (fun z h => by rw [h] at hobj; cases hobj) hselP hmethM habM hkP hkPi (g := g) hg (argsL := argsL) (rest := rest) (hlen _ hsigM) hstack hdg
  rcases hK m meth c ⟨T.setVm vm₁, locs, cells, slots⟩ { g with stack := rest } (.invokevirtual index) mk (Value.ref b :: argsL).toArray X₁ hg hsize hdg hW (X₁.named hnamed) (hpre vm₁ X₁.warmed) with ⟨v, B, X', hpost, hsteps⟩ | ⟨q, B, X', hpost, hsteps⟩
  · exact Or.inl ⟨v, vm₁, B, X₁.warmed, X', hpost, fun target h => hstep₁ _ fun acts => by rw [doInvoke_state]; exact hsteps.trans h⟩
  · exact Or.inr ⟨q, vm₁, B, X₁.warmed, X', hpost, hstep₁ _ fun acts => by rw [doInvoke_state]; exact hsteps⟩
theorem vx_callSX (X : Stand p l e R s m args below meth c T locs cells slots) (hexec : p.tables.exec = Jvm.exec) {own : String} {index : Nat} {y : MethodName} {bytes : ByteArray} {maxL : Nat} {ret : Option FieldType} {hh : List (Nat × Nat × Nat × Nat)}
    (hown : s.vm.findClass own = some m.cls) (hlink : (Cond.methodLink own index y).before args s = true) (hstat : (Cond.static y).before args s = true) (hinit : (Cond.initialized y.cls).before args s = true)
    (hcode : (Cond.codeWith y bytes maxL ret hh).before args s = true) (hy : y.cls ≠ "java/lang/invoke/MethodHandle" ∧ y.cls ≠ "java/lang/invoke/VarHandle")
    {W9 : Nat} {Pre : Pt → Array Value → Prop} {Post : Pt → Array Value → Option Value → Pt → Prop} {PostX : Pt → Array Value → Addr → Pt → Prop} (hK : vx_Back l R p e below s args y 3 W9 Pre Post PostX)
    {g : JFrame} (hg : g.method = m) (hsize : g.locals.size = c.maxLocals) {argsL rest : List Value} (hlen : ∀ sig, parseMethodDescriptor y.desc = some sig → argsL.length = sig.parameters.length)
    (hstack : g.stack = argsL.reverse ++ rest) (hW : 2 * g.monitorRoom + (rest.map fun v => v.category).sum ≤ W9) (hdg : decode c.code g.pc = .ok (.invokestatic index, 3))
    (hpre : ∀ vm₁, s.WarmedH vm₁ → Pre ⟨T.setVm vm₁, locs, cells, slots⟩ argsL.toArray) :
    (∃ (v : Option Value) (vm₁ : Vm) (B : Pt), s.WarmedH vm₁ ∧ Stand p l e R s m args below meth c B.U B.locs B.cells B.slots ∧ Post ⟨T.setVm vm₁, locs, cells, slots⟩ argsL.toArray v B ∧
      ∀ target, Steps p.tables e below (B.U.setTop { g with pc := g.pc + 3, stack := v.toList ++ rest }) target → Steps p.tables e below (T.setTop g) target) ∨
    (∃ (q : Addr) (vm₁ : Vm) (B : Pt), s.WarmedH vm₁ ∧ Stand p l e R s m args below meth c B.U B.locs B.cells B.slots ∧ PostX ⟨T.setVm vm₁, locs, cells, slots⟩ argsL.toArray q B ∧
      Steps p.tables e below (T.setTop g) ((B.U.setTop { g with stack := rest }).pushFrame (.throwing q))) := by
  obtain ⟨mk, methM, cM, hnamed, hmethM, -, -, -, -, -, -, hsigM⟩ := Cond.codeWith_spec hcode
  have hstatic : methM.isStatic = true := Cond.static_spec hnamed hmethM hstat
  obtain ⟨kP, hkP, -⟩ := className_of_methodNamed hnamed
  have hinitP : kP.init = .initialized := Cond.initialized_spec (findClass_of_methodNamed hnamed) hkP hinit
  obtain ⟨vm₁, X₁, hstep₁⟩ := X.invokestatic hexec hown hlink hnamed hmethM hstatic hkP hinitP hy (g := g) hg (argsL := argsL) (rest := rest) (hlen _ hsigM) hstack hdg
  rcases hK m meth c ⟨T.setVm vm₁, locs, cells, slots⟩ { g with stack := rest } (.invokestatic index) mk argsL.toArray X₁ hg hsize hdg hW (X₁.named hnamed) (hpre vm₁ X₁.warmed) with ⟨v, B, X', hpost, hsteps⟩ | ⟨q, B, X', hpost, hsteps⟩
  · exact Or.inl ⟨v, vm₁, B, X₁.warmed, X', hpost, fun target h => hstep₁ _ fun acts => by rw [doInvoke_state]; exact hsteps.trans h⟩
  · exact Or.inr ⟨q, vm₁, B, X₁.warmed, X', hpost, hstep₁ _ fun acts => by rw [doInvoke_state]; exact hsteps⟩
theorem vx_callVW (X : Stand p l e R s m args below meth c T locs cells slots) (hexec : p.tables.exec = Jvm.exec) {own C : String} {index : Nat} {y : MethodName} {bytes : ByteArray} {maxL : Nat} {ret : Option FieldType} {hh : List (Nat × Nat × Nat × Nat)}
    (hown : s.vm.findClass own = some m.cls) (hlink : (Cond.methodLink own index y).before args s = true) (hinst : (Cond.instanceMethod y).before args s = true) (hsel : (Cond.selects C y y).before args s = true)
    (hcode : (Cond.codeWith y bytes maxL ret hh).before args s = true) (hy : y.cls ≠ "java/lang/invoke/MethodHandle" ∧ y.cls ≠ "java/lang/invoke/VarHandle")
    {W9 : Nat} {Pre : Pt → Array Value → Prop} {Post : Pt → Array Value → Option Value → Pt → Prop} (hK : Back l R p e below s args y 3 W9 Pre Post)
    {b : Addr} {cellB : Cell} (hcell : T.heap[b]? = some cellB) (hobj : cellB.vm.isStatics = false) (hcls : s.vm.findClass C = some cellB.cls)
    {g : JFrame} (hg : g.method = m) (hsize : g.locals.size = c.maxLocals) {argsL rest : List Value} (hlen : ∀ sig, parseMethodDescriptor y.desc = some sig → argsL.length = sig.parameters.length)
    (hstack : g.stack = argsL.reverse ++ .ref b :: rest) (hW : 2 * g.monitorRoom + (rest.map fun v => v.category).sum ≤ W9) (hdg : decode c.code g.pc = .ok (.invokevirtual index, 3))
    (hpre : ∀ vm₁, s.WarmedH vm₁ → Pre ⟨T.setVm vm₁, locs, cells, slots⟩ (Value.ref b :: argsL).toArray) :
    ∃ (v : Option Value) (vm₁ : Vm) (B : Pt), s.WarmedH vm₁ ∧ Stand p l e R s m args below meth c B.U B.locs B.cells B.slots ∧ Post ⟨T.setVm vm₁, locs, cells, slots⟩ (Value.ref b :: argsL).toArray v B ∧
      ∀ target, Steps p.tables e below (B.U.setTop { g with pc := g.pc + 3, stack := v.toList ++ rest }) target → Steps p.tables e below (T.setTop g) target := by
  obtain ⟨mk, methM, hnamed, hmethM, hstM, habM⟩ := Cond.instanceMethod_spec hinst
  obtain ⟨m8, methM', cM, hn8, hmethM', -, -, -, -, -, -, hsigM⟩ := Cond.codeWith_spec hcode
  cases Option.some.inj (hn8.symm.trans hnamed)
  cases hmethM.symm.trans hmethM'
  obtain ⟨c2, r2, m2, q1, q2, q3, q4, kP, hkP, hkPi⟩ := Cond.selects_spec hsel
  cases hcls.symm.trans q1
  cases (State.methodFound?_of_named hnamed hy).symm.trans q2
  cases hnamed.symm.trans q3
  have hselP : selectMethod e.platform s.vm cellB.cls mk = .method mk := by rw [Launch.admits_selectMethod X.admits]; exact q4
  obtain ⟨vm₁, X₁, hstep₁⟩ := X.invokevirtual hexec hown hlink hnamed hmethM hstM hkP hkPi hy (a := b) (cell := cellB) hcell
    (fun z h => by rw [h] at hobj; cases hobj) hselP hmethM habM hkP hkPi (g := g) hg (argsL := argsL) (rest := rest) (hlen _ hsigM) hstack hdg
  obtain ⟨v, B, X', hpost, hsteps⟩ := hK m meth c ⟨T.setVm vm₁, locs, cells, slots⟩ { g with stack := rest } (.invokevirtual index) mk (Value.ref b :: argsL).toArray X₁ hg hsize hdg hW (X₁.named hnamed) (hpre vm₁ X₁.warmed)
  exact ⟨v, vm₁, B, X₁.warmed, X', hpost, fun target h => hstep₁ _ fun acts => by rw [doInvoke_state]; exact hsteps.trans h⟩
abbrev vx_CVW (R : Room) (s : State) (args : Array Value) (own C : String) (index : Nat) (y : MethodName) (bytes : ByteArray) (maxL : Nat) (ret : Option FieldType) (hh : List (Nat × Nat × Nat × Nat)) (ws : List Cond) (rm : Room) (mc ms n : Nat) : Prop :=
  (rm.cells = mc ∧ rm.slots = ms ∧ rm.frames + 1 ≤ R.frames ∧ 8 + (maxL + 11) + rm.locals ≤ R.locals ∧ (∀ w ∈ ws, ∀ (a' : Array Value) (U : State), s.WarmedH U.vm → w.before a' U = true) ∧ Cond.codeWith y bytes maxL ret hh ∈ ws) ∧
  (Cond.codeWith y bytes maxL ret hh).before args s = true ∧ (Cond.initialized y.cls).before args s = true ∧ (y.cls ≠ "java/lang/invoke/MethodHandle" ∧ y.cls ≠ "java/lang/invoke/VarHandle") ∧
  (∀ sig, parseMethodDescriptor y.desc = some sig → n = sig.parameters.length) ∧ (Cond.methodLink own index y).before args s = true ∧ (Cond.instanceMethod y).before args s = true ∧ (Cond.selects C y y).before args s = true
theorem vx_cwVW {own C : String} {index maxL mc ms : Nat} {y : MethodName} {bytes : ByteArray} {ret : Option FieldType} {hh : List (Nat × Nat × Nat × Nat)} {Ts ws ws' : List Cond} {rm : Room} (n : Nat) (ht : ∀ w ∈ Ts, w.before args s = true) (hT : GoodIn Ts (wsV own index C y ws)) (hw : ws = Cond.codeWith y bytes maxL ret hh :: ws') (hrc : rm.cells = mc) (hrs : rm.slots = ms)
    (hd : y.cls = C ∧ y.cls ≠ "java/lang/invoke/MethodHandle" ∧ y.cls ≠ "java/lang/invoke/VarHandle" ∧ (parseMethodDescriptor y.desc).map (fun d => d.parameters.length) = some n) (hR : rm.frames + 1 ≤ R.frames ∧ 8 + (maxL + 11) + rm.locals ≤ R.locals) :
    vx_CVW R s args own C index y bytes maxL ret hh ws rm mc ms n := by
  obtain ⟨hC, hd⟩ := hd
  subst hC
  have ok : ∀ w ∈ wsV own index y.cls y ws, w.before args s = true := fun w h => ht w (hT w h).1
  have hG : GoodIn Ts ws := fun w h => hT w (by unfold wsV; exact List.mem_append_right _ h)
  have hc : Cond.codeWith y bytes maxL ret hh ∈ ws := by rw [hw]; exact List.mem_cons_self
  refine ⟨⟨hrc, hrs, hR.1, hR.2, pay_in ht hG, hc⟩, ht _ (hG _ hc).1, ok _ (by simp [wsV]), ⟨hd.1, hd.2.1⟩, fun sig h => ?_, ok _ (by simp [wsV]), ok _ (by simp [wsV]), ok _ (by simp [wsV])⟩
  have h2 := hd.2.2
  rw [h] at h2
  exact (Option.some.inj h2).symm
theorem vx_runVW {y : MethodName} {bytes cc : ByteArray} {maxL nL mc ms n index : Nat} {ret : Option FieldType} {hh : List (Nat × Nat × Nat × Nat)} {ws : List Cond} {rm : Room} {Pc : Array Value → State → Prop} {Qc : Array Value → State → Outcome → State → Prop} {free : Addr → Prop} {Ts : List Cond} {own C : String} {b : Addr} {As rest : List Value} {g : JFrame}
    (S : CallFix p m c cc nL s args Ts own) (hM : Met l y ws rm Pc Qc mc ms free) (cw : vx_CVW R s args own C index y bytes maxL ret hh ws rm mc ms n) (hp : PreV s H C b Pc As)
    (hg : g.method = m) (hn : As.length = n) (hsize : g.locals.size = nL) (hstack : g.stack = As.reverse ++ .ref b :: rest) (hW : 2 * g.monitorRoom + (rest.map fun v => v.category).sum ≤ 8) (hdg : decode cc g.pc = .ok (.invokevirtual index, 3)) (hf : cells + mc ≤ R.cells ∧ slots + ms ≤ R.slots) :
    va_Run p l e R s m args below meth c H locs cells slots mc ms g rest (Qc (Value.ref b :: As).toArray) free := by
  obtain ⟨⟨hrc, hrs, hfr, hlo, hws, hcw⟩, hcode, hini, hy, hlen, hl, hin, hse⟩ := cw
  have hK : Back l R p e below s args y 3 8 (PreOf R mc ms Pc) (PostOf Qc mc ms free) := va_backW (hh := hh) (bytes := bytes) (maxL := maxL) (ret := ret) hM hp.1 hrc hrs hfr hlo hws hcw (fun a' U hW => word_at hW (Or.inl (by first | rfl | simp [Cond.onTables, Cond.keeps, Cond.steady])) hini)
  obtain ⟨hx, hb, hml, ho, -⟩ := S
  obtain ⟨-, ⟨cellB, hcB, hoB, hclB⟩, hPc⟩ := hp
  intro T hT X
  obtain ⟨v, vm₁, ⟨U', l2, c2, s2⟩, hW₁, X', ⟨g', mk, t, L, e1, e2, hq, h1, hL, h2, h3⟩, st⟩ := vx_callVW X hx (C := C) (hh := hh) (bytes := bytes) (maxL := maxL) (ret := ret) ho hl hin hse hcode hy hK (by rw [hT]; exact hcB) hoB hclB hg (hsize.trans hml.symm) (argsL := As) (rest := rest) (fun sig h => hn.trans (hlen sig h)) hstack hW (by rw [hb]; exact hdg)
    (fun vm₁ hW₁ => ⟨hf.1, hf.2, hPc (T.setVm vm₁) hT hW₁⟩)
  dsimp only [Pt.U, Pt.locs, Pt.cells, Pt.slots] at X' e1 e2 h1 h2 h3 st
  subst h1; subst h2; subst h3
  exact ⟨v, (T.setVm vm₁).calling g' mk (Value.ref b :: As).toArray, t, U', L, hT, X', hL, e1, e2, hq, st⟩
section
variable {y : MethodName} {bytes cc : ByteArray} {maxL nL mc ms n index : Nat} {ret : Option FieldType} {ws : List Cond} {rm : Room} {Pc : Array Value → State → Prop} {Qc : Array Value → State → Outcome → State → Prop} {XC : String → State → State → Prop} {free : Addr → Prop} {Ts : List Cond} {own C : String} {b : Addr} {As rest : List Value} {g : JFrame}
theorem vx_runVX {hh : List (Nat × Nat × Nat × Nat)} (S : CallFix p m c cc nL s args Ts own) (hM : vx_Met l y ws rm Pc Qc XC mc ms free) (cw : vx_CVW R s args own C index y bytes maxL ret hh ws rm mc ms n) (hp : PreV s H C b Pc As)
    (hg : g.method = m) (hn : As.length = n) (hsize : g.locals.size = nL) (hstack : g.stack = As.reverse ++ .ref b :: rest) (hW : 2 * g.monitorRoom + (rest.map fun v => v.category).sum ≤ 8) (hdg : decode cc g.pc = .ok (.invokevirtual index, 3)) (hf : cells + mc ≤ R.cells ∧ slots + ms ≤ R.slots) :
    vx_Run p l e R s m args below meth c H locs cells slots mc ms g rest (Qc (Value.ref b :: As).toArray) XC free := by
  obtain ⟨⟨hrc, hrs, hfr, hlo, hws, hcw⟩, hcode, hini, hy, hlen, hl, hin, hse⟩ := cw
  have hK : vx_Back l R p e below s args y 3 8 (PreOf R mc ms Pc) (PostOf Qc mc ms free) (vx_Post XC mc ms free) := vx_backW (hh := hh) (bytes := bytes) (maxL := maxL) (ret := ret) hM hp.1 hrc hrs hfr hlo hws hcw (fun a' U hW => word_at hW (Or.inl (by first | rfl | simp [Cond.onTables, Cond.keeps, Cond.steady])) hini)
  obtain ⟨hx, hb, hml, ho, -⟩ := S
  obtain ⟨-, ⟨cellB, hcB, hoB, hclB⟩, hPc⟩ := hp
  intro T hT X
  rcases vx_callVX X hx (C := C) (hh := hh) (bytes := bytes) (maxL := maxL) (ret := ret) ho hl hin hse hcode hy hK (by rw [hT]; exact hcB) hoB hclB hg (hsize.trans hml.symm) (argsL := As) (rest := rest) (fun sig h => hn.trans (hlen sig h)) hstack hW (by rw [hb]; exact hdg)
    (fun vm₁ hW₁ => ⟨hf.1, hf.2, hPc (T.setVm vm₁) hT hW₁⟩) with ⟨v, vm₁, ⟨U', l2, c2, s2⟩, hW₁, X', ⟨g', mk, t, L, e1, e2, hq, h1, hL, h2, h3⟩, st⟩ | ⟨q, vm₁, ⟨U', l2, c2, s2⟩, hW₁, X', ⟨g', mk, t, L, E, ce, e1, e2, hq, hce, hcv, hcl, h1, hL, h2, h3⟩, st⟩
  · dsimp only [Pt.U, Pt.locs, Pt.cells, Pt.slots] at X' e1 e2 h1 h2 h3 st
    subst h1; subst h2; subst h3
    exact Or.inl ⟨v, (T.setVm vm₁).calling g' mk (Value.ref b :: As).toArray, t, U', L, hT, X', hL, e1, e2, hq, st⟩
  · dsimp only [Pt.U, Pt.locs, Pt.cells, Pt.slots] at X' e1 e2 h1 h2 h3 st hcl
    subst h1; subst h2; subst h3
    exact Or.inr ⟨q, (T.setVm vm₁).calling g' mk (Value.ref b :: As).toArray, t, U', L, E, ce, hT, X', hL, e1, e2, hq, hce, hcv, vx_cls hW₁ hcl, st⟩
theorem vx_runSX {hh : List (Nat × Nat × Nat × Nat)} (S : CallFix p m c cc nL s args Ts own) (hM : vx_Met l y ws rm Pc Qc XC mc ms free) (cw : vx_CSW R s args own index y bytes maxL ret hh ws rm mc ms n) (hp : PreS s H Pc As)
    (hg : g.method = m) (hn : As.length = n) (hsize : g.locals.size = nL) (hstack : g.stack = As.reverse ++ rest) (hW : 2 * g.monitorRoom + (rest.map fun v => v.category).sum ≤ 8) (hdg : decode cc g.pc = .ok (.invokestatic index, 3)) (hf : cells + mc ≤ R.cells ∧ slots + ms ≤ R.slots) :
    vx_Run p l e R s m args below meth c H locs cells slots mc ms g rest (Qc As.toArray) XC free := by
  obtain ⟨⟨hrc, hrs, hfr, hlo, hws, hcw⟩, hcode, hini, hy, hlen, hl, hstt⟩ := cw
  have hK : vx_Back l R p e below s args y 3 8 (PreOf R mc ms Pc) (PostOf Qc mc ms free) (vx_Post XC mc ms free) := vx_backW (hh := hh) (bytes := bytes) (maxL := maxL) (ret := ret) hM hp.1 hrc hrs hfr hlo hws hcw (fun a' U hW => word_at hW (Or.inl (by first | rfl | simp [Cond.onTables, Cond.keeps, Cond.steady])) hini)
  obtain ⟨hx, hb, hml, ho, -⟩ := S
  intro T hT X
  rcases vx_callSX X hx (hh := hh) (bytes := bytes) (maxL := maxL) (ret := ret) ho hl hstt hini hcode hy hK hg (hsize.trans hml.symm) (argsL := As) (rest := rest) (fun sig h => hn.trans (hlen sig h)) hstack hW (by rw [hb]; exact hdg)
    (fun vm₁ hW₁ => ⟨hf.1, hf.2, hp.2 (T.setVm vm₁) hT hW₁⟩) with ⟨v, vm₁, ⟨U', l2, c2, s2⟩, hW₁, X', ⟨g', mk, t, L, e1, e2, hq, h1, hL, h2, h3⟩, st⟩ | ⟨q, vm₁, ⟨U', l2, c2, s2⟩, hW₁, X', ⟨g', mk, t, L, E, ce, e1, e2, hq, hce, hcv, hcl, h1, hL, h2, h3⟩, st⟩
  · dsimp only [Pt.U, Pt.locs, Pt.cells, Pt.slots] at X' e1 e2 h1 h2 h3 st
    subst h1; subst h2; subst h3
    exact Or.inl ⟨v, (T.setVm vm₁).calling g' mk As.toArray, t, U', L, hT, X', hL, e1, e2, hq, st⟩
  · dsimp only [Pt.U, Pt.locs, Pt.cells, Pt.slots] at X' e1 e2 h1 h2 h3 st hcl
    subst h1; subst h2; subst h3
    exact Or.inr ⟨q, (T.setVm vm₁).calling g' mk As.toArray, t, U', L, E, ce, hT, X', hL, e1, e2, hq, hce, hcv, vx_cls hW₁ hcl, st⟩
end
end VXH
theorem vx_ofWH {l : Launch} {y : MethodName} {ws ws' : List Cond} {rm : Room} {Pc : Array Value → State → Prop} {Qc : Array Value → State → Outcome → State → Prop} {XC : String → State → State → Prop} {mc ms : Nat} {free : Addr → Prop} {cc : ByteArray} {maxL : Nat} {ret : Option FieldType} {hh : List (Nat × Nat × Nat × Nat)}
    (hy : plainName y.cls = true) (hw : ws = Cond.codeWith y cc maxL ret hh :: ws')
    (body : ∀ p e s m args below meth c s₁, BodyLoose p l y (headSpec ws rm) cc maxL ret e s m args below meth c s₁ → c.maxLocals = maxL → Pc args s →
      W p l e (headSpec ws rm).room s m args below meth c s.heap [] 0 0 (vx_MQ below Qc XC args s mc ms free) (entryFrame m args maxL)) : vx_Met l y ws rm Pc Qc XC mc ms free := by
  refine MetFree.of_bodyS (code := cc) (maxLocals := maxL) (ret := ret) hy ?_ ?_
  · intro args s m h hn
    obtain ⟨m9, meth, c, hn9, h1, h2, h3, h4, -, h5, h6, -⟩ := Cond.codeWith_spec (atoms_spec (ws := ws) h _ (by rw [hw]; exact List.mem_cons_self))
    cases hn.symm.trans hn9
    exact ⟨meth, c, h1, h2, h3, h4, h5, h6⟩
  · intro p e s m args below meth c s₁ B hml hP _
    have hh0 : s₁.heap = s.heap := by rw [B.state]; rfl
    obtain ⟨t, a1, o, b1, b2, b3⟩ := body p e s m args below meth c s₁ B hml hP s₁ hh0 (Stand.of_body B)
    exact ⟨t, o, a1, b1, b2, b3⟩
/-! ===== END ===== -/
end
section
/-! ===== BEGIN printed: names, fields, word lists, decode rows ===== -/
def RX0 : String := "OnboardingWorks$Forecast"
def TX0 : u_T := fun k => match k with
  | 0 => ("OnboardingWorks$Forecast", "plan", "LOnboardingWorks$Plan;", true)
  | 1 => ("OnboardingWorks$Forecast", "storeroom", "LOnboardingWorks$Storeroom;", true)
  | 2 => ("OnboardingWorks$Forecast", "timetable", "LOnboardingWorks$Timetable;", true)
  | 3 => ("OnboardingWorks$Forecast", "supplyDays", "[I", true)
  | 4 => ("OnboardingWorks$Forecast", "begins", "[I", true)
  | 5 => ("OnboardingWorks$Forecast", "ends", "[I", true)
  | _ => ("OnboardingWorks$Forecast", "tomorrow", "I", false)
def tyX0 : Nat → FieldType := fun k => match k with
  | 0 => .object "OnboardingWorks$Plan"
  | 1 => .object "OnboardingWorks$Storeroom"
  | 2 => .object "OnboardingWorks$Timetable"
  | 3 => .array .int
  | 4 => .array .int
  | 5 => .array .int
  | _ => .int
theorem nmX0 : ∀ a, a < 7 → ∀ b, b < 7 → a ≠ b → (TX0 a).2.1 ≠ (TX0 b).2.1 := by decide +kernel
theorem tyX0_ok : ∀ k, k < 7 → parseFieldDescriptor (TX0 k).2.2.1 = some (tyX0 k) := by decide +kernel
abbrev cX0_init : ByteArray := prog_2_method_1_code
def yX0_init : MethodName := ⟨RX0, "<init>", "(LOnboardingWorks$Plan;LOnboardingWorks$Storeroom;LOnboardingWorks$Timetable;)V"⟩
abbrev cX0_foresee : ByteArray := prog_2_method_2_code
def yX0_foresee : MethodName := ⟨RX0, "foresee", "(LOnboardingWorks$Joiner;III)V"⟩
abbrev cX0_lookFrom : ByteArray := prog_2_method_3_code
def yX0_lookFrom : MethodName := ⟨RX0, "lookFrom", "(III)V"⟩
abbrev cX0_foreseeStep : ByteArray := prog_2_method_4_code
def yX0_foreseeStep : MethodName := ⟨RX0, "foreseeStep", "(LOnboardingWorks$Joiner;I)V"⟩
abbrev cX0_beginOf : ByteArray := prog_2_method_5_code
def yX0_beginOf : MethodName := ⟨RX0, "beginOf", "(LOnboardingWorks$Joiner;I)I"⟩
abbrev cX0_withSupply : ByteArray := prog_2_method_6_code
def yX0_withSupply : MethodName := ⟨RX0, "withSupply", "(II)I"⟩
abbrev cX0_dayBehind : ByteArray := prog_2_method_7_code
def yX0_dayBehind : MethodName := ⟨RX0, "dayBehind", "(I)I"⟩
abbrev cX0_greatestEnd : ByteArray := prog_2_method_8_code
def yX0_greatestEnd : MethodName := ⟨RX0, "greatestEnd", "(I)I"⟩
def RX1 : String := "OnboardingWorks$Joiner"
def TX1 : u_T := fun k => match k with
  | 0 => ("OnboardingWorks$Joiner", "states", "[I", true)
  | 1 => ("OnboardingWorks$Joiner", "begins", "[I", true)
  | 2 => ("OnboardingWorks$Joiner", "lengths", "[I", true)
  | 3 => ("OnboardingWorks$Joiner", "booked", "[I", true)
  | 4 => ("OnboardingWorks$Joiner", "losses", "[I", true)
  | 5 => ("OnboardingWorks$Joiner", "steps", "I", false)
  | 6 => ("OnboardingWorks$Joiner", "start", "I", false)
  | _ => ("OnboardingWorks$Joiner", "left", "Z", false)
def tyX1 : Nat → FieldType := fun k => match k with
  | 0 => .array .int
  | 1 => .array .int
  | 2 => .array .int
  | 3 => .array .int
  | 4 => .array .int
  | 5 => .int
  | 6 => .int
  | _ => .boolean
theorem nmX1 : ∀ a, a < 8 → ∀ b, b < 8 → a ≠ b → (TX1 a).2.1 ≠ (TX1 b).2.1 := by decide +kernel
theorem tyX1_ok : ∀ k, k < 8 → parseFieldDescriptor (TX1 k).2.2.1 = some (tyX1 k) := by decide +kernel
abbrev cX1_init : ByteArray := prog_3_method_1_code
def yX1_init : MethodName := ⟨RX1, "<init>", "()V"⟩
abbrev cX1_isIn : ByteArray := prog_3_method_2_code
def yX1_isIn : MethodName := ⟨RX1, "isIn", "(II)Z"⟩
abbrev cX1_stepsIn : ByteArray := prog_3_method_3_code
def yX1_stepsIn : MethodName := ⟨RX1, "stepsIn", "(I)I"⟩
abbrev cX1_countIn : ByteArray := prog_3_method_4_code
def yX1_countIn : MethodName := ⟨RX1, "countIn", "(I)I"⟩
abbrev cX1_finishSteps : ByteArray := prog_3_method_5_code
def yX1_finishSteps : MethodName := ⟨RX1, "finishSteps", "(I)I"⟩
abbrev cX1_lastBegun : ByteArray := prog_3_method_6_code
def yX1_lastBegun : MethodName := ⟨RX1, "lastBegun", "()I"⟩
def RX2 : String := "OnboardingWorks$Plan"
def TX2 : u_T := fun k => match k with
  | 0 => ("OnboardingWorks$Plan", "kinds", "[I", true)
  | 1 => ("OnboardingWorks$Plan", "baseLengths", "[I", true)
  | 2 => ("OnboardingWorks$Plan", "needs", "[I", true)
  | 3 => ("OnboardingWorks$Plan", "ofs", "[I", true)
  | 4 => ("OnboardingWorks$Plan", "roles", "[I", true)
  | 5 => ("OnboardingWorks$Plan", "rights", "[I", true)
  | 6 => ("OnboardingWorks$Plan", "stepCount", "I", false)
  | _ => ("OnboardingWorks$Plan", "rightCount", "I", false)
def tyX2 : Nat → FieldType := fun k => match k with
  | 0 => .array .int
  | 1 => .array .int
  | 2 => .array .int
  | 3 => .array .int
  | 4 => .array .int
  | 5 => .array .int
  | 6 => .int
  | _ => .int
theorem nmX2 : ∀ a, a < 8 → ∀ b, b < 8 → a ≠ b → (TX2 a).2.1 ≠ (TX2 b).2.1 := by decide +kernel
theorem tyX2_ok : ∀ k, k < 8 → parseFieldDescriptor (TX2 k).2.2.1 = some (tyX2 k) := by decide +kernel
abbrev cX2_init : ByteArray := prog_4_method_1_code
def yX2_init : MethodName := ⟨RX2, "<init>", "()V"⟩
abbrev cX2_knows : ByteArray := prog_4_method_2_code
def yX2_knows : MethodName := ⟨RX2, "knows", "(I)Z"⟩
abbrev cX2_addStep : ByteArray := prog_4_method_3_code
def yX2_addStep : MethodName := ⟨RX2, "addStep", "(IIII)I"⟩
abbrev cX2_addRight : ByteArray := prog_4_method_4_code
def yX2_addRight : MethodName := ⟨RX2, "addRight", "(I)I"⟩
abbrev cX2_needsAreDone : ByteArray := prog_4_method_5_code
def yX2_needsAreDone : MethodName := ⟨RX2, "needsAreDone", "(LOnboardingWorks$Joiner;I)Z"⟩
abbrev cX2_lengthFor : ByteArray := prog_4_method_6_code
def yX2_lengthFor : MethodName := ⟨RX2, "lengthFor", "(LOnboardingWorks$Joiner;I)I"⟩
abbrev cX2_rightsOf : ByteArray := prog_4_method_7_code
def yX2_rightsOf : MethodName := ⟨RX2, "rightsOf", "(LOnboardingWorks$Joiner;)I"⟩
def RX3 : String := "OnboardingWorks$Storeroom"
def TX3 : u_T := fun k => match k with
  | 0 => ("OnboardingWorks$Storeroom", "pieces", "[I", true)
  | 1 => ("OnboardingWorks$Storeroom", "orderItems", "[I", true)
  | 2 => ("OnboardingWorks$Storeroom", "orderPieces", "[I", true)
  | 3 => ("OnboardingWorks$Storeroom", "orderDays", "[I", true)
  | _ => ("OnboardingWorks$Storeroom", "orderCount", "I", false)
def tyX3 : Nat → FieldType := fun k => match k with
  | 0 => .array .int
  | 1 => .array .int
  | 2 => .array .int
  | 3 => .array .int
  | _ => .int
theorem nmX3 : ∀ a, a < 5 → ∀ b, b < 5 → a ≠ b → (TX3 a).2.1 ≠ (TX3 b).2.1 := by decide +kernel
theorem tyX3_ok : ∀ k, k < 5 → parseFieldDescriptor (TX3 k).2.2.1 = some (tyX3 k) := by decide +kernel
abbrev cX3_init : ByteArray := prog_5_method_1_code
def yX3_init : MethodName := ⟨RX3, "<init>", "()V"⟩
abbrev cX3_hasPiece : ByteArray := prog_5_method_2_code
def yX3_hasPiece : MethodName := ⟨RX3, "hasPiece", "(I)Z"⟩
abbrev cX3_putIn : ByteArray := prog_5_method_3_code
def yX3_putIn : MethodName := ⟨RX3, "putIn", "(II)V"⟩
abbrev cX3_takeOne : ByteArray := prog_5_method_4_code
def yX3_takeOne : MethodName := ⟨RX3, "takeOne", "(I)V"⟩
abbrev cX3_addOrder : ByteArray := prog_5_method_5_code
def yX3_addOrder : MethodName := ⟨RX3, "addOrder", "(III)I"⟩
abbrev cX3_delay : ByteArray := prog_5_method_6_code
def yX3_delay : MethodName := ⟨RX3, "delay", "(II)I"⟩
abbrev cX3_receive : ByteArray := prog_5_method_7_code
def yX3_receive : MethodName := ⟨RX3, "receive", "(I)V"⟩
abbrev cX3_piecesToCome : ByteArray := prog_5_method_8_code
def yX3_piecesToCome : MethodName := ⟨RX3, "piecesToCome", "(II)I"⟩
abbrev cX3_earliestToCome : ByteArray := prog_5_method_9_code
def yX3_earliestToCome : MethodName := ⟨RX3, "earliestToCome", "(IIII)I"⟩
def RX4 : String := "OnboardingWorks$Timetable"
def TX4 : u_T := fun k => match k with
  | 0 => ("OnboardingWorks$Timetable", "courses", "[I", true)
  | 1 => ("OnboardingWorks$Timetable", "days", "[I", true)
  | 2 => ("OnboardingWorks$Timetable", "seats", "[I", true)
  | 3 => ("OnboardingWorks$Timetable", "taken", "[I", true)
  | _ => ("OnboardingWorks$Timetable", "sessionCount", "I", false)
def tyX4 : Nat → FieldType := fun k => match k with
  | 0 => .array .int
  | 1 => .array .int
  | 2 => .array .int
  | 3 => .array .int
  | _ => .int
theorem nmX4 : ∀ a, a < 5 → ∀ b, b < 5 → a ≠ b → (TX4 a).2.1 ≠ (TX4 b).2.1 := by decide +kernel
theorem tyX4_ok : ∀ k, k < 5 → parseFieldDescriptor (TX4 k).2.2.1 = some (tyX4 k) := by decide +kernel
abbrev cX4_init : ByteArray := prog_6_method_1_code
def yX4_init : MethodName := ⟨RX4, "<init>", "()V"⟩
abbrev cX4_addSession : ByteArray := prog_6_method_2_code
def yX4_addSession : MethodName := ⟨RX4, "addSession", "(III)I"⟩
abbrev cX4_dayOf : ByteArray := prog_6_method_3_code
def yX4_dayOf : MethodName := ⟨RX4, "dayOf", "(I)I"⟩
abbrev cX4_book : ByteArray := prog_6_method_4_code
def yX4_book : MethodName := ⟨RX4, "book", "(II)I"⟩
abbrev cX4_release : ByteArray := prog_6_method_5_code
def yX4_release : MethodName := ⟨RX4, "release", "(I)V"⟩
abbrev cX4_seatsTaken : ByteArray := prog_6_method_6_code
def yX4_seatsTaken : MethodName := ⟨RX4, "seatsTaken", "()I"⟩
def RX5 : String := "OnboardingWorks"
def TX5 : u_T := fun k => match k with
  | 0 => ("OnboardingWorks", "plan", "LOnboardingWorks$Plan;", true)
  | 1 => ("OnboardingWorks", "storeroom", "LOnboardingWorks$Storeroom;", true)
  | 2 => ("OnboardingWorks", "timetable", "LOnboardingWorks$Timetable;", true)
  | 3 => ("OnboardingWorks", "forecast", "LOnboardingWorks$Forecast;", true)
  | 4 => ("OnboardingWorks", "joiners", "[LOnboardingWorks$Joiner;", true)
  | 5 => ("OnboardingWorks", "joinerCount", "I", false)
  | _ => ("OnboardingWorks", "today", "I", false)
def tyX5 : Nat → FieldType := fun k => match k with
  | 0 => .object "OnboardingWorks$Plan"
  | 1 => .object "OnboardingWorks$Storeroom"
  | 2 => .object "OnboardingWorks$Timetable"
  | 3 => .object "OnboardingWorks$Forecast"
  | 4 => .array (.object "OnboardingWorks$Joiner")
  | 5 => .int
  | _ => .int
theorem nmX5 : ∀ a, a < 7 → ∀ b, b < 7 → a ≠ b → (TX5 a).2.1 ≠ (TX5 b).2.1 := by decide +kernel
theorem tyX5_ok : ∀ k, k < 7 → parseFieldDescriptor (TX5 k).2.2.1 = some (tyX5 k) := by decide +kernel
abbrev cX5_init : ByteArray := prog_1_method_1_code
def yX5_init : MethodName := ⟨RX5, "<init>", "()V"⟩
abbrev cX5_step : ByteArray := prog_1_method_2_code
def yX5_step : MethodName := ⟨RX5, "step", "(IIII)I"⟩
abbrev cX5_role : ByteArray := prog_1_method_3_code
def yX5_role : MethodName := ⟨RX5, "role", "(II)I"⟩
abbrev cX5_right : ByteArray := prog_1_method_4_code
def yX5_right : MethodName := ⟨RX5, "right", "(I)I"⟩
abbrev cX5_stock : ByteArray := prog_1_method_5_code
def yX5_stock : MethodName := ⟨RX5, "stock", "(II)I"⟩
abbrev cX5_order : ByteArray := prog_1_method_6_code
def yX5_order : MethodName := ⟨RX5, "order", "(III)I"⟩
abbrev cX5_late : ByteArray := prog_1_method_7_code
def yX5_late : MethodName := ⟨RX5, "late", "(II)I"⟩
abbrev cX5_session : ByteArray := prog_1_method_8_code
def yX5_session : MethodName := ⟨RX5, "session", "(III)I"⟩
abbrev cX5_ofSession : ByteArray := prog_1_method_9_code
def yX5_ofSession : MethodName := ⟨RX5, "ofSession", "(II)I"⟩
abbrev cX5_ofItem : ByteArray := prog_1_method_10_code
def yX5_ofItem : MethodName := ⟨RX5, "ofItem", "(II)I"⟩
abbrev cX5_join : ByteArray := prog_1_method_11_code
def yX5_join : MethodName := ⟨RX5, "join", "(II)I"⟩
abbrev cX5_leave : ByteArray := prog_1_method_12_code
def yX5_leave : MethodName := ⟨RX5, "leave", "(I)I"⟩
abbrev cX5_day : ByteArray := prog_1_method_13_code
def yX5_day : MethodName := ⟨RX5, "day", "()I"⟩
abbrev cX5_ofStep : ByteArray := prog_1_method_14_code
def yX5_ofStep : MethodName := ⟨RX5, "ofStep", "(III)I"⟩
abbrev cX5_ofJoiner : ByteArray := prog_1_method_15_code
def yX5_ofJoiner : MethodName := ⟨RX5, "ofJoiner", "(II)I"⟩
abbrev cX5_many : ByteArray := prog_1_method_16_code
def yX5_many : MethodName := ⟨RX5, "many", "(I)I"⟩
abbrev cX5_meanDays : ByteArray := prog_1_method_17_code
def yX5_meanDays : MethodName := ⟨RX5, "meanDays", "()D"⟩
abbrev cX5_rightOn : ByteArray := prog_1_method_18_code
def yX5_rightOn : MethodName := ⟨RX5, "rightOn", "(II)I"⟩
abbrev cX5_shiftBy : ByteArray := prog_1_method_19_code
def yX5_shiftBy : MethodName := ⟨RX5, "shiftBy", "(II)I"⟩
abbrev cX5_next : ByteArray := prog_1_method_20_code
def yX5_next : MethodName := ⟨RX5, "next", "(I)I"⟩
abbrev cX5_waitFor : ByteArray := prog_1_method_21_code
def yX5_waitFor : MethodName := ⟨RX5, "waitFor", "(II)I"⟩
abbrev cX5_digest : ByteArray := prog_1_method_22_code
def yX5_digest : MethodName := ⟨RX5, "digest", "()J"⟩
abbrev cX5_has : ByteArray := prog_1_method_23_code
def yX5_has : MethodName := ⟨RX5, "has", "(II)Z"⟩
abbrev cX5_isWithin : ByteArray := prog_1_method_24_code
def yX5_isWithin : MethodName := ⟨RX5, "isWithin", "(III)Z"⟩
abbrev cX5_isOfKind : ByteArray := prog_1_method_25_code
def yX5_isOfKind : MethodName := ⟨RX5, "isOfKind", "(II)Z"⟩
abbrev cX5_isAhead : ByteArray := prog_1_method_26_code
def yX5_isAhead : MethodName := ⟨RX5, "isAhead", "(I)Z"⟩
abbrev cX5_checkDelay : ByteArray := prog_1_method_27_code
def yX5_checkDelay : MethodName := ⟨RX5, "checkDelay", "(II)V"⟩
abbrev cX5_joinerAt : ByteArray := prog_1_method_28_code
def yX5_joinerAt : MethodName := ⟨RX5, "joinerAt", "(I)LOnboardingWorks$Joiner;"⟩
abbrev cX5_beginSteps : ByteArray := prog_1_method_29_code
def yX5_beginSteps : MethodName := ⟨RX5, "beginSteps", "(LOnboardingWorks$Joiner;)V"⟩
abbrev cX5_isReady : ByteArray := prog_1_method_30_code
def yX5_isReady : MethodName := ⟨RX5, "isReady", "(LOnboardingWorks$Joiner;I)Z"⟩
abbrev cX5_canBegin : ByteArray := prog_1_method_31_code
def yX5_canBegin : MethodName := ⟨RX5, "canBegin", "(LOnboardingWorks$Joiner;I)Z"⟩
abbrev cX5_loseSessions : ByteArray := prog_1_method_32_code
def yX5_loseSessions : MethodName := ⟨RX5, "loseSessions", "(LOnboardingWorks$Joiner;)V"⟩
abbrev cX5_bookAll : ByteArray := prog_1_method_33_code
def yX5_bookAll : MethodName := ⟨RX5, "bookAll", "()V"⟩
abbrev cX5_bookFor : ByteArray := prog_1_method_34_code
def yX5_bookFor : MethodName := ⟨RX5, "bookFor", "(LOnboardingWorks$Joiner;)V"⟩
abbrev cX5_takeBackStep : ByteArray := prog_1_method_35_code
def yX5_takeBackStep : MethodName := ⟨RX5, "takeBackStep", "(LOnboardingWorks$Joiner;)V"⟩
abbrev cX5_foreseenOfStep : ByteArray := prog_1_method_36_code
def yX5_foreseenOfStep : MethodName := ⟨RX5, "foreseenOfStep", "(LOnboardingWorks$Joiner;II)I"⟩
abbrev cX5_foreseenOfJoiner : ByteArray := prog_1_method_37_code
def yX5_foreseenOfJoiner : MethodName := ⟨RX5, "foreseenOfJoiner", "(LOnboardingWorks$Joiner;I)I"⟩
abbrev cX5_nextStep : ByteArray := prog_1_method_38_code
def yX5_nextStep : MethodName := ⟨RX5, "nextStep", "(LOnboardingWorks$Joiner;)I"⟩
abbrev cX5_countWaitingOn : ByteArray := prog_1_method_39_code
def yX5_countWaitingOn : MethodName := ⟨RX5, "countWaitingOn", "(LOnboardingWorks$Joiner;I)I"⟩
abbrev cX5_countWaitingFor : ByteArray := prog_1_method_40_code
def yX5_countWaitingFor : MethodName := ⟨RX5, "countWaitingFor", "(I)I"⟩
abbrev cX5_countLeft : ByteArray := prog_1_method_41_code
def yX5_countLeft : MethodName := ⟨RX5, "countLeft", "()I"⟩
abbrev cX5_countStepsIn : ByteArray := prog_1_method_42_code
def yX5_countStepsIn : MethodName := ⟨RX5, "countStepsIn", "(I)I"⟩
abbrev cX5_countRights : ByteArray := prog_1_method_43_code
def yX5_countRights : MethodName := ⟨RX5, "countRights", "()I"⟩
abbrev cX5_digestWith : ByteArray := prog_1_method_44_code
def yX5_digestWith : MethodName := ⟨RX5, "digestWith", "(JLOnboardingWorks$Joiner;)J"⟩
def RX6 : String := "OnboardingWorksModel$Joiner"
def TX6 : u_T := fun k => match k with
  | 0 => ("OnboardingWorksModel$Joiner", "steps", "I", true)
  | 1 => ("OnboardingWorksModel$Joiner", "start", "I", true)
  | 2 => ("OnboardingWorksModel$Joiner", "states", "[I", true)
  | 3 => ("OnboardingWorksModel$Joiner", "began", "[I", true)
  | 4 => ("OnboardingWorksModel$Joiner", "lengths", "[I", true)
  | 5 => ("OnboardingWorksModel$Joiner", "booked", "[I", true)
  | 6 => ("OnboardingWorksModel$Joiner", "lost", "[I", true)
  | _ => ("OnboardingWorksModel$Joiner", "hasLeft", "Z", false)
def tyX6 : Nat → FieldType := fun k => match k with
  | 0 => .int
  | 1 => .int
  | 2 => .array .int
  | 3 => .array .int
  | 4 => .array .int
  | 5 => .array .int
  | 6 => .array .int
  | _ => .boolean
theorem nmX6 : ∀ a, a < 8 → ∀ b, b < 8 → a ≠ b → (TX6 a).2.1 ≠ (TX6 b).2.1 := by decide +kernel
theorem tyX6_ok : ∀ k, k < 8 → parseFieldDescriptor (TX6 k).2.2.1 = some (tyX6 k) := by decide +kernel
abbrev cX6_init : ByteArray := prog_9_method_1_code
def yX6_init : MethodName := ⟨RX6, "<init>", "(II)V"⟩
abbrev cX6_has : ByteArray := prog_9_method_2_code
def yX6_has : MethodName := ⟨RX6, "has", "(I)Z"⟩
abbrev cX6_is : ByteArray := prog_9_method_3_code
def yX6_is : MethodName := ⟨RX6, "is", "(II)Z"⟩
abbrev cX6_in : ByteArray := prog_9_method_4_code
def yX6_in : MethodName := ⟨RX6, "in", "(I)I"⟩
abbrev cX6_hasAll : ByteArray := prog_9_method_5_code
def yX6_hasAll : MethodName := ⟨RX6, "hasAll", "(I)Z"⟩
abbrev cX6_hasNeeds : ByteArray := prog_9_method_6_code
def yX6_hasNeeds : MethodName := ⟨RX6, "hasNeeds", "(I)Z"⟩
abbrev cX6_last : ByteArray := prog_9_method_7_code
def yX6_last : MethodName := ⟨RX6, "last", "()I"⟩
def RX7 : String := "OnboardingWorksModel$Order"
def TX7 : u_T := fun k => match k with
  | 0 => ("OnboardingWorksModel$Order", "item", "I", true)
  | 1 => ("OnboardingWorksModel$Order", "many", "I", true)
  | 2 => ("OnboardingWorksModel$Order", "day", "I", false)
  | _ => ("OnboardingWorksModel$Order", "isThere", "Z", false)
def tyX7 : Nat → FieldType := fun k => match k with
  | 0 => .int
  | 1 => .int
  | 2 => .int
  | _ => .boolean
theorem nmX7 : ∀ a, a < 4 → ∀ b, b < 4 → a ≠ b → (TX7 a).2.1 ≠ (TX7 b).2.1 := by decide +kernel
theorem tyX7_ok : ∀ k, k < 4 → parseFieldDescriptor (TX7 k).2.2.1 = some (tyX7 k) := by decide +kernel
abbrev cX7_init : ByteArray := prog_10_method_1_code
def yX7_init : MethodName := ⟨RX7, "<init>", "(III)V"⟩
def RX8 : String := "OnboardingWorksModel$Session"
def TX8 : u_T := fun k => match k with
  | 0 => ("OnboardingWorksModel$Session", "step", "I", true)
  | 1 => ("OnboardingWorksModel$Session", "day", "I", true)
  | _ => ("OnboardingWorksModel$Session", "seats", "I", true)
def tyX8 : Nat → FieldType := fun k => match k with
  | 0 => .int
  | 1 => .int
  | _ => .int
theorem nmX8 : ∀ a, a < 3 → ∀ b, b < 3 → a ≠ b → (TX8 a).2.1 ≠ (TX8 b).2.1 := by decide +kernel
theorem tyX8_ok : ∀ k, k < 3 → parseFieldDescriptor (TX8 k).2.2.1 = some (tyX8 k) := by decide +kernel
abbrev cX8_init : ByteArray := prog_11_method_1_code
def yX8_init : MethodName := ⟨RX8, "<init>", "(III)V"⟩
def RX9 : String := "OnboardingWorksModel$Step"
def TX9 : u_T := fun k => match k with
  | 0 => ("OnboardingWorksModel$Step", "kind", "I", true)
  | 1 => ("OnboardingWorksModel$Step", "length", "I", true)
  | 2 => ("OnboardingWorksModel$Step", "needs", "I", true)
  | _ => ("OnboardingWorksModel$Step", "of", "I", true)
def tyX9 : Nat → FieldType := fun k => match k with
  | 0 => .int
  | 1 => .int
  | 2 => .int
  | _ => .int
theorem nmX9 : ∀ a, a < 4 → ∀ b, b < 4 → a ≠ b → (TX9 a).2.1 ≠ (TX9 b).2.1 := by decide +kernel
theorem tyX9_ok : ∀ k, k < 4 → parseFieldDescriptor (TX9 k).2.2.1 = some (tyX9 k) := by decide +kernel
abbrev cX9_init : ByteArray := prog_12_method_1_code
def yX9_init : MethodName := ⟨RX9, "<init>", "(IIII)V"⟩
def RX10 : String := "OnboardingWorksModel"
def TX10 : u_T := fun k => match k with
  | 0 => ("OnboardingWorksModel", "thrown", "I", false)
  | 1 => ("OnboardingWorksModel", "steps", "Ljava/util/ArrayList;", true)
  | 2 => ("OnboardingWorksModel", "roles", "[I", true)
  | 3 => ("OnboardingWorksModel", "rights", "Ljava/util/ArrayList;", true)
  | 4 => ("OnboardingWorksModel", "stock", "[I", true)
  | 5 => ("OnboardingWorksModel", "orders", "Ljava/util/ArrayList;", true)
  | 6 => ("OnboardingWorksModel", "sessions", "Ljava/util/ArrayList;", true)
  | 7 => ("OnboardingWorksModel", "joiners", "Ljava/util/ArrayList;", true)
  | _ => ("OnboardingWorksModel", "today", "I", false)
def tyX10 : Nat → FieldType := fun k => match k with
  | 0 => .int
  | 1 => .object "java/util/ArrayList"
  | 2 => .array .int
  | 3 => .object "java/util/ArrayList"
  | 4 => .array .int
  | 5 => .object "java/util/ArrayList"
  | 6 => .object "java/util/ArrayList"
  | 7 => .object "java/util/ArrayList"
  | _ => .int
theorem nmX10 : ∀ a, a < 9 → ∀ b, b < 9 → a ≠ b → (TX10 a).2.1 ≠ (TX10 b).2.1 := by decide +kernel
theorem tyX10_ok : ∀ k, k < 9 → parseFieldDescriptor (TX10 k).2.2.1 = some (tyX10 k) := by decide +kernel
abbrev cX10_init : ByteArray := prog_8_method_1_code
def yX10_init : MethodName := ⟨RX10, "<init>", "()V"⟩
abbrev cX10_thrown : ByteArray := prog_8_method_2_code
def yX10_thrown : MethodName := ⟨RX10, "thrown", "()I"⟩
abbrev cX10_isIn : ByteArray := prog_8_method_3_code
def yX10_isIn : MethodName := ⟨RX10, "isIn", "(II)Z"⟩
abbrev cX10_isFrom : ByteArray := prog_8_method_4_code
def yX10_isFrom : MethodName := ⟨RX10, "isFrom", "(III)Z"⟩
abbrev cX10_refuse : ByteArray := prog_8_method_5_code
def yX10_refuse : MethodName := ⟨RX10, "refuse", "(ZI)Z"⟩
abbrev cX10_start : ByteArray := prog_8_method_6_code
def yX10_start : MethodName := ⟨RX10, "start", "(ZI)Z"⟩
abbrev cX10_isNoSet : ByteArray := prog_8_method_7_code
def yX10_isNoSet : MethodName := ⟨RX10, "isNoSet", "(I)Z"⟩
abbrev cX10_fresh : ByteArray := prog_8_method_8_code
def yX10_fresh : MethodName := ⟨RX10, "fresh", "(LOnboardingWorksModel$Joiner;I)I"⟩
abbrev cX10_length : ByteArray := prog_8_method_9_code
def yX10_length : MethodName := ⟨RX10, "length", "(LOnboardingWorksModel$Joiner;I)I"⟩
abbrev cX10_comes : ByteArray := prog_8_method_10_code
def yX10_comes : MethodName := ⟨RX10, "comes", "(I)I"⟩
abbrev cX10_expected : ByteArray := prog_8_method_11_code
def yX10_expected : MethodName := ⟨RX10, "expected", "(LOnboardingWorksModel$Joiner;I)I"⟩
abbrev cX10_end : ByteArray := prog_8_method_12_code
def yX10_end : MethodName := ⟨RX10, "end", "(LOnboardingWorksModel$Joiner;I)I"⟩
abbrev cX10_end_ : ByteArray := prog_8_method_13_code
def yX10_end_ : MethodName := ⟨RX10, "end", "(LOnboardingWorksModel$Joiner;J)I"⟩
abbrev cX10_endOf : ByteArray := prog_8_method_14_code
def yX10_endOf : MethodName := ⟨RX10, "endOf", "(LOnboardingWorksModel$Joiner;)I"⟩
abbrev cX10_seatsTaken : ByteArray := prog_8_method_15_code
def yX10_seatsTaken : MethodName := ⟨RX10, "seatsTaken", "(I)I"⟩
abbrev cX10_sessionFor : ByteArray := prog_8_method_16_code
def yX10_sessionFor : MethodName := ⟨RX10, "sessionFor", "(LOnboardingWorksModel$Joiner;I)I"⟩
abbrev cX10_bookAll : ByteArray := prog_8_method_17_code
def yX10_bookAll : MethodName := ⟨RX10, "bookAll", "()V"⟩
abbrev cX10_isReady : ByteArray := prog_8_method_18_code
def yX10_isReady : MethodName := ⟨RX10, "isReady", "(LOnboardingWorksModel$Joiner;I)Z"⟩
abbrev cX10_isToday : ByteArray := prog_8_method_19_code
def yX10_isToday : MethodName := ⟨RX10, "isToday", "(LOnboardingWorksModel$Joiner;I)Z"⟩
abbrev cX10_canBegin : ByteArray := prog_8_method_20_code
def yX10_canBegin : MethodName := ⟨RX10, "canBegin", "(LOnboardingWorksModel$Joiner;I)Z"⟩
abbrev cX10_begin : ByteArray := prog_8_method_21_code
def yX10_begin : MethodName := ⟨RX10, "begin", "(LOnboardingWorksModel$Joiner;I)V"⟩
abbrev cX10_takeBack : ByteArray := prog_8_method_22_code
def yX10_takeBack : MethodName := ⟨RX10, "takeBack", "(LOnboardingWorksModel$Joiner;)V"⟩
abbrev cX10_day : ByteArray := prog_8_method_23_code
def yX10_day : MethodName := ⟨RX10, "day", "()I"⟩
abbrev cX10_step : ByteArray := prog_8_method_24_code
def yX10_step : MethodName := ⟨RX10, "step", "(IIII)I"⟩
abbrev cX10_isNoRole : ByteArray := prog_8_method_25_code
def yX10_isNoRole : MethodName := ⟨RX10, "isNoRole", "(I)Z"⟩
abbrev cX10_role : ByteArray := prog_8_method_26_code
def yX10_role : MethodName := ⟨RX10, "role", "(II)I"⟩
abbrev cX10_right : ByteArray := prog_8_method_27_code
def yX10_right : MethodName := ⟨RX10, "right", "(I)I"⟩
abbrev cX10_isNoItem : ByteArray := prog_8_method_28_code
def yX10_isNoItem : MethodName := ⟨RX10, "isNoItem", "(I)Z"⟩
abbrev cX10_stock : ByteArray := prog_8_method_29_code
def yX10_stock : MethodName := ⟨RX10, "stock", "(II)I"⟩
abbrev cX10_isNoDay : ByteArray := prog_8_method_30_code
def yX10_isNoDay : MethodName := ⟨RX10, "isNoDay", "(I)Z"⟩
abbrev cX10_order : ByteArray := prog_8_method_31_code
def yX10_order : MethodName := ⟨RX10, "order", "(III)I"⟩
abbrev cX10_isNoDelay : ByteArray := prog_8_method_32_code
def yX10_isNoDelay : MethodName := ⟨RX10, "isNoDelay", "(II)Z"⟩
abbrev cX10_late : ByteArray := prog_8_method_33_code
def yX10_late : MethodName := ⟨RX10, "late", "(II)I"⟩
abbrev cX10_session : ByteArray := prog_8_method_34_code
def yX10_session : MethodName := ⟨RX10, "session", "(III)I"⟩
abbrev cX10_ofSessionNow : ByteArray := prog_8_method_35_code
def yX10_ofSessionNow : MethodName := ⟨RX10, "ofSessionNow", "(II)I"⟩
abbrev cX10_ofSession : ByteArray := prog_8_method_36_code
def yX10_ofSession : MethodName := ⟨RX10, "ofSession", "(II)I"⟩
abbrev cX10_ofItemNow : ByteArray := prog_8_method_37_code
def yX10_ofItemNow : MethodName := ⟨RX10, "ofItemNow", "(II)I"⟩
abbrev cX10_ofItem : ByteArray := prog_8_method_38_code
def yX10_ofItem : MethodName := ⟨RX10, "ofItem", "(II)I"⟩
abbrev cX10_join : ByteArray := prog_8_method_39_code
def yX10_join : MethodName := ⟨RX10, "join", "(II)I"⟩
abbrev cX10_isNo : ByteArray := prog_8_method_40_code
def yX10_isNo : MethodName := ⟨RX10, "isNo", "(I)Z"⟩
abbrev cX10_isNoJoiner : ByteArray := prog_8_method_41_code
def yX10_isNoJoiner : MethodName := ⟨RX10, "isNoJoiner", "(I)Z"⟩
abbrev cX10_leave : ByteArray := prog_8_method_42_code
def yX10_leave : MethodName := ⟨RX10, "leave", "(I)I"⟩
abbrev cX10_isNoStep : ByteArray := prog_8_method_43_code
def yX10_isNoStep : MethodName := ⟨RX10, "isNoStep", "(II)Z"⟩
abbrev cX10_ofStepNow : ByteArray := prog_8_method_44_code
def yX10_ofStepNow : MethodName := ⟨RX10, "ofStepNow", "(LOnboardingWorksModel$Joiner;II)I"⟩
abbrev cX10_ofStep : ByteArray := prog_8_method_45_code
def yX10_ofStep : MethodName := ⟨RX10, "ofStep", "(III)I"⟩
abbrev cX10_rightsOf : ByteArray := prog_8_method_46_code
def yX10_rightsOf : MethodName := ⟨RX10, "rightsOf", "(LOnboardingWorksModel$Joiner;)I"⟩
abbrev cX10_ofJoinerNow : ByteArray := prog_8_method_47_code
def yX10_ofJoinerNow : MethodName := ⟨RX10, "ofJoinerNow", "(LOnboardingWorksModel$Joiner;I)I"⟩
abbrev cX10_ofJoiner : ByteArray := prog_8_method_48_code
def yX10_ofJoiner : MethodName := ⟨RX10, "ofJoiner", "(II)I"⟩
abbrev cX10_count : ByteArray := prog_8_method_49_code
def yX10_count : MethodName := ⟨RX10, "count", "(I)I"⟩
abbrev cX10_many : ByteArray := prog_8_method_50_code
def yX10_many : MethodName := ⟨RX10, "many", "(I)I"⟩
abbrev cX10_meanDays : ByteArray := prog_8_method_51_code
def yX10_meanDays : MethodName := ⟨RX10, "meanDays", "()D"⟩
abbrev cX10_rightOnNow : ByteArray := prog_8_method_52_code
def yX10_rightOnNow : MethodName := ⟨RX10, "rightOnNow", "(LOnboardingWorksModel$Joiner;I)I"⟩
abbrev cX10_rightOn : ByteArray := prog_8_method_53_code
def yX10_rightOn : MethodName := ⟨RX10, "rightOn", "(II)I"⟩
abbrev cX10_shiftBy : ByteArray := prog_8_method_54_code
def yX10_shiftBy : MethodName := ⟨RX10, "shiftBy", "(II)I"⟩
abbrev cX10_nextNow : ByteArray := prog_8_method_55_code
def yX10_nextNow : MethodName := ⟨RX10, "nextNow", "(LOnboardingWorksModel$Joiner;)I"⟩
abbrev cX10_next : ByteArray := prog_8_method_56_code
def yX10_next : MethodName := ⟨RX10, "next", "(I)I"⟩
abbrev cX10_waitForNow : ByteArray := prog_8_method_57_code
def yX10_waitForNow : MethodName := ⟨RX10, "waitForNow", "(LOnboardingWorksModel$Joiner;I)I"⟩
abbrev cX10_waitFor : ByteArray := prog_8_method_58_code
def yX10_waitFor : MethodName := ⟨RX10, "waitFor", "(II)I"⟩
abbrev cX10_add : ByteArray := prog_8_method_59_code
def yX10_add : MethodName := ⟨RX10, "add", "(JJ)J"⟩
abbrev cX10_digest : ByteArray := prog_8_method_60_code
def yX10_digest : MethodName := ⟨RX10, "digest", "()J"⟩
def RJx145de : String := "java/io/Serializable"
def TJx145de : u_T := fun k => match k with
  | _ => ("", "", "", false)
def tyJx145de : Nat → FieldType := fun k => match k with
  | _ => .int
theorem nmJx145de : ∀ a, a < 0 → ∀ b, b < 0 → a ≠ b → (TJx145de a).2.1 ≠ (TJx145de b).2.1 := by decide +kernel
theorem tyJx145de_ok : ∀ k, k < 0 → parseFieldDescriptor (TJx145de k).2.2.1 = some (tyJx145de k) := by decide +kernel
def RJx8e188 : String := "java/lang/Cloneable"
def TJx8e188 : u_T := fun k => match k with
  | _ => ("", "", "", false)
def tyJx8e188 : Nat → FieldType := fun k => match k with
  | _ => .int
theorem nmJx8e188 : ∀ a, a < 0 → ∀ b, b < 0 → a ≠ b → (TJx8e188 a).2.1 ≠ (TJx8e188 b).2.1 := by decide +kernel
theorem tyJx8e188_ok : ∀ k, k < 0 → parseFieldDescriptor (TJx8e188 k).2.2.1 = some (tyJx8e188 k) := by decide +kernel
def RJxb160c : String := "java/lang/Comparable"
def TJxb160c : u_T := fun k => match k with
  | _ => ("", "", "", false)
def tyJxb160c : Nat → FieldType := fun k => match k with
  | _ => .int
theorem nmJxb160c : ∀ a, a < 0 → ∀ b, b < 0 → a ≠ b → (TJxb160c a).2.1 ≠ (TJxb160c b).2.1 := by decide +kernel
theorem tyJxb160c_ok : ∀ k, k < 0 → parseFieldDescriptor (TJxb160c k).2.2.1 = some (tyJxb160c k) := by decide +kernel
def RJxabbfe : String := "java/lang/Integer$IntegerCache"
def TJxabbfe : u_T := fun k => match k with
  | _ => ("", "", "", false)
def tyJxabbfe : Nat → FieldType := fun k => match k with
  | _ => .int
theorem nmJxabbfe : ∀ a, a < 0 → ∀ b, b < 0 → a ≠ b → (TJxabbfe a).2.1 ≠ (TJxabbfe b).2.1 := by decide +kernel
theorem tyJxabbfe_ok : ∀ k, k < 0 → parseFieldDescriptor (TJxabbfe k).2.2.1 = some (tyJxabbfe k) := by decide +kernel
def RJ6 : String := "java/lang/Integer"
def TJ6 : u_T := fun k => match k with
  | _ => ("java/lang/Integer", "value", "I", true)
def tyJ6 : Nat → FieldType := fun k => match k with
  | _ => .int
theorem nmJ6 : ∀ a, a < 1 → ∀ b, b < 1 → a ≠ b → (TJ6 a).2.1 ≠ (TJ6 b).2.1 := by decide +kernel
theorem tyJ6_ok : ∀ k, k < 1 → parseFieldDescriptor (TJ6 k).2.2.1 = some (tyJ6 k) := by decide +kernel
abbrev cJ6_valueOf_2dffe : ByteArray := prog_20_method_22_code
def yJ6_valueOf_2dffe : MethodName := ⟨RJ6, "valueOf", "(I)Ljava/lang/Integer;"⟩
abbrev cJ6_init_d00df : ByteArray := prog_20_method_23_code
def yJ6_init_d00df : MethodName := ⟨RJ6, "<init>", "(I)V"⟩
abbrev cJ6_intValue_8abf5 : ByteArray := prog_20_method_27_code
def yJ6_intValue_8abf5 : MethodName := ⟨RJ6, "intValue", "()I"⟩
abbrev cJ6_bitCount_0f7a4 : ByteArray := prog_20_method_49_code
def yJ6_bitCount_0f7a4 : MethodName := ⟨RJ6, "bitCount", "(I)I"⟩
def RJxab1ab : String := "java/lang/Iterable"
def TJxab1ab : u_T := fun k => match k with
  | _ => ("", "", "", false)
def tyJxab1ab : Nat → FieldType := fun k => match k with
  | _ => .int
theorem nmJxab1ab : ∀ a, a < 0 → ∀ b, b < 0 → a ≠ b → (TJxab1ab a).2.1 ≠ (TJxab1ab b).2.1 := by decide +kernel
theorem tyJxab1ab_ok : ∀ k, k < 0 → parseFieldDescriptor (TJxab1ab k).2.2.1 = some (tyJxab1ab k) := by decide +kernel
def RJ9 : String := "java/lang/Math"
def TJ9 : u_T := fun k => match k with
  | _ => ("", "", "", false)
def tyJ9 : Nat → FieldType := fun k => match k with
  | _ => .int
theorem nmJ9 : ∀ a, a < 0 → ∀ b, b < 0 → a ≠ b → (TJ9 a).2.1 ≠ (TJ9 b).2.1 := by decide +kernel
theorem tyJ9_ok : ∀ k, k < 0 → parseFieldDescriptor (TJ9 k).2.2.1 = some (tyJ9 k) := by decide +kernel
abbrev cJ9_max_7cf53 : ByteArray := prog_23_method_65_code
def yJ9_max_7cf53 : MethodName := ⟨RJ9, "max", "(II)I"⟩
abbrev cJ9_min_7cf53 : ByteArray := prog_23_method_69_code
def yJ9_min_7cf53 : MethodName := ⟨RJ9, "min", "(II)I"⟩
def RJxd2413 : String := "java/lang/Number"
def TJxd2413 : u_T := fun k => match k with
  | _ => ("", "", "", false)
def tyJxd2413 : Nat → FieldType := fun k => match k with
  | _ => .int
theorem nmJxd2413 : ∀ a, a < 0 → ∀ b, b < 0 → a ≠ b → (TJxd2413 a).2.1 ≠ (TJxd2413 b).2.1 := by decide +kernel
theorem tyJxd2413_ok : ∀ k, k < 0 → parseFieldDescriptor (TJxd2413 k).2.2.1 = some (tyJxd2413 k) := by decide +kernel
abbrev cJxd2413_init_da8c8 : ByteArray := prog_24_method_1_code
def yJxd2413_init_da8c8 : MethodName := ⟨RJxd2413, "<init>", "()V"⟩
def RJ0 : String := "java/lang/String"
def TJ0 : u_T := fun k => match k with
  | _ => ("", "", "", false)
def tyJ0 : Nat → FieldType := fun k => match k with
  | _ => .int
theorem nmJ0 : ∀ a, a < 0 → ∀ b, b < 0 → a ≠ b → (TJ0 a).2.1 ≠ (TJ0 b).2.1 := by decide +kernel
theorem tyJ0_ok : ∀ k, k < 0 → parseFieldDescriptor (TJ0 k).2.2.1 = some (tyJ0 k) := by decide +kernel
def RJ10 : String := "java/lang/System"
def TJ10 : u_T := fun k => match k with
  | _ => ("", "", "", false)
def tyJ10 : Nat → FieldType := fun k => match k with
  | _ => .int
theorem nmJ10 : ∀ a, a < 0 → ∀ b, b < 0 → a ≠ b → (TJ10 a).2.1 ≠ (TJ10 b).2.1 := by decide +kernel
theorem tyJ10_ok : ∀ k, k < 0 → parseFieldDescriptor (TJ10 k).2.2.1 = some (tyJ10 k) := by decide +kernel
def RJxfd54e : String := "java/lang/constant/Constable"
def TJxfd54e : u_T := fun k => match k with
  | _ => ("", "", "", false)
def tyJxfd54e : Nat → FieldType := fun k => match k with
  | _ => .int
theorem nmJxfd54e : ∀ a, a < 0 → ∀ b, b < 0 → a ≠ b → (TJxfd54e a).2.1 ≠ (TJxfd54e b).2.1 := by decide +kernel
theorem tyJxfd54e_ok : ∀ k, k < 0 → parseFieldDescriptor (TJxfd54e k).2.2.1 = some (tyJxfd54e k) := by decide +kernel
def RJx3cf43 : String := "java/lang/constant/ConstantDesc"
def TJx3cf43 : u_T := fun k => match k with
  | _ => ("", "", "", false)
def tyJx3cf43 : Nat → FieldType := fun k => match k with
  | _ => .int
theorem nmJx3cf43 : ∀ a, a < 0 → ∀ b, b < 0 → a ≠ b → (TJx3cf43 a).2.1 ≠ (TJx3cf43 b).2.1 := by decide +kernel
theorem tyJx3cf43_ok : ∀ k, k < 0 → parseFieldDescriptor (TJx3cf43 k).2.2.1 = some (tyJx3cf43 k) := by decide +kernel
def RJxa1e45 : String := "java/util/AbstractCollection"
def TJxa1e45 : u_T := fun k => match k with
  | _ => ("", "", "", false)
def tyJxa1e45 : Nat → FieldType := fun k => match k with
  | _ => .int
theorem nmJxa1e45 : ∀ a, a < 0 → ∀ b, b < 0 → a ≠ b → (TJxa1e45 a).2.1 ≠ (TJxa1e45 b).2.1 := by decide +kernel
theorem tyJxa1e45_ok : ∀ k, k < 0 → parseFieldDescriptor (TJxa1e45 k).2.2.1 = some (tyJxa1e45 k) := by decide +kernel
abbrev cJxa1e45_init_da8c8 : ByteArray := prog_31_method_1_code
def yJxa1e45_init_da8c8 : MethodName := ⟨RJxa1e45, "<init>", "()V"⟩
def RJxc12de : String := "java/util/AbstractList"
def TJxc12de : u_T := fun k => match k with
  | _ => ("", "", "", false)
def tyJxc12de : Nat → FieldType := fun k => match k with
  | _ => .int
theorem nmJxc12de : ∀ a, a < 0 → ∀ b, b < 0 → a ≠ b → (TJxc12de a).2.1 ≠ (TJxc12de b).2.1 := by decide +kernel
theorem tyJxc12de_ok : ∀ k, k < 0 → parseFieldDescriptor (TJxc12de k).2.2.1 = some (tyJxc12de k) := by decide +kernel
abbrev cJxc12de_init_da8c8 : ByteArray := prog_32_method_1_code
def yJxc12de_init_da8c8 : MethodName := ⟨RJxc12de, "<init>", "()V"⟩
def RJx35411 : String := "java/util/ArrayList$Itr"
def TJx35411 : u_T := fun k => match k with
  | 0 => ("java/util/ArrayList$Itr", "cursor", "I", false)
  | 1 => ("java/util/ArrayList$Itr", "lastRet", "I", false)
  | 2 => ("java/util/ArrayList$Itr", "expectedModCount", "I", false)
  | _ => ("java/util/ArrayList$Itr", "this$0", "Ljava/util/ArrayList;", true)
def tyJx35411 : Nat → FieldType := fun k => match k with
  | 0 => .int
  | 1 => .int
  | 2 => .int
  | _ => .object "java/util/ArrayList"
theorem nmJx35411 : ∀ a, a < 4 → ∀ b, b < 4 → a ≠ b → (TJx35411 a).2.1 ≠ (TJx35411 b).2.1 := by decide +kernel
theorem tyJx35411_ok : ∀ k, k < 4 → parseFieldDescriptor (TJx35411 k).2.2.1 = some (tyJx35411 k) := by decide +kernel
abbrev cJx35411_init_45d68 : ByteArray := prog_34_method_1_code
def yJx35411_init_45d68 : MethodName := ⟨RJx35411, "<init>", "(Ljava/util/ArrayList;)V"⟩
abbrev cJx35411_hasNext_aae02 : ByteArray := prog_34_method_2_code
def yJx35411_hasNext_aae02 : MethodName := ⟨RJx35411, "hasNext", "()Z"⟩
abbrev cJx35411_next_0502b : ByteArray := prog_34_method_3_code
def yJx35411_next_0502b : MethodName := ⟨RJx35411, "next", "()Ljava/lang/Object;"⟩
abbrev cJx35411_checkForComodification_da8c8 : ByteArray := prog_34_method_6_code
def yJx35411_checkForComodification_da8c8 : MethodName := ⟨RJx35411, "checkForComodification", "()V"⟩
def RJx4a65c : String := "java/util/ArrayList"
def TJx4a65c : u_T := fun k => match k with
  | 0 => ("java/util/AbstractList", "modCount", "I", false)
  | 1 => ("java/util/ArrayList", "elementData", "[Ljava/lang/Object;", false)
  | _ => ("java/util/ArrayList", "size", "I", false)
def tyJx4a65c : Nat → FieldType := fun k => match k with
  | 0 => .int
  | 1 => .array (.object "java/lang/Object")
  | _ => .int
theorem nmJx4a65c : ∀ a, a < 3 → ∀ b, b < 3 → a ≠ b → (TJx4a65c a).2.1 ≠ (TJx4a65c b).2.1 := by decide +kernel
theorem tyJx4a65c_ok : ∀ k, k < 3 → parseFieldDescriptor (TJx4a65c k).2.2.1 = some (tyJx4a65c k) := by decide +kernel
abbrev cJx4a65c_init_da8c8 : ByteArray := prog_33_method_2_code
def yJx4a65c_init_da8c8 : MethodName := ⟨RJx4a65c, "<init>", "()V"⟩
abbrev cJx4a65c_grow_92f84 : ByteArray := prog_33_method_6_code
def yJx4a65c_grow_92f84 : MethodName := ⟨RJx4a65c, "grow", "(I)[Ljava/lang/Object;"⟩
abbrev cJx4a65c_grow_d5877 : ByteArray := prog_33_method_7_code
def yJx4a65c_grow_d5877 : MethodName := ⟨RJx4a65c, "grow", "()[Ljava/lang/Object;"⟩
abbrev cJx4a65c_size_8abf5 : ByteArray := prog_33_method_8_code
def yJx4a65c_size_8abf5 : MethodName := ⟨RJx4a65c, "size", "()I"⟩
abbrev cJx4a65c_elementData_915e3 : ByteArray := prog_33_method_18_code
def yJx4a65c_elementData_915e3 : MethodName := ⟨RJx4a65c, "elementData", "(I)Ljava/lang/Object;"⟩
abbrev cJx4a65c_get_915e3 : ByteArray := prog_33_method_20_code
def yJx4a65c_get_915e3 : MethodName := ⟨RJx4a65c, "get", "(I)Ljava/lang/Object;"⟩
abbrev cJx4a65c_add_72be8 : ByteArray := prog_33_method_24_code
def yJx4a65c_add_72be8 : MethodName := ⟨RJx4a65c, "add", "(Ljava/lang/Object;[Ljava/lang/Object;I)V"⟩
abbrev cJx4a65c_add_9ea2d : ByteArray := prog_33_method_25_code
def yJx4a65c_add_9ea2d : MethodName := ⟨RJx4a65c, "add", "(Ljava/lang/Object;)Z"⟩
abbrev cJx4a65c_iterator_32c93 : ByteArray := prog_33_method_55_code
def yJx4a65c_iterator_32c93 : MethodName := ⟨RJx4a65c, "iterator", "()Ljava/util/Iterator;"⟩
def RJ7 : String := "java/util/Arrays"
def TJ7 : u_T := fun k => match k with
  | _ => ("", "", "", false)
def tyJ7 : Nat → FieldType := fun k => match k with
  | _ => .int
theorem nmJ7 : ∀ a, a < 0 → ∀ b, b < 0 → a ≠ b → (TJ7 a).2.1 ≠ (TJ7 b).2.1 := by decide +kernel
theorem tyJ7_ok : ∀ k, k < 0 → parseFieldDescriptor (TJ7 k).2.2.1 = some (tyJ7 k) := by decide +kernel
abbrev cJ7_copyOf_1904c : ByteArray := prog_35_method_119_code
def yJ7_copyOf_1904c : MethodName := ⟨RJ7, "copyOf", "([Ljava/lang/Object;I)[Ljava/lang/Object;"⟩
abbrev cJ7_copyOf_6403c : ByteArray := prog_35_method_120_code
def yJ7_copyOf_6403c : MethodName := ⟨RJ7, "copyOf", "([Ljava/lang/Object;ILjava/lang/Class;)[Ljava/lang/Object;"⟩
def RJx5ef63 : String := "java/util/Collection"
def TJx5ef63 : u_T := fun k => match k with
  | _ => ("", "", "", false)
def tyJx5ef63 : Nat → FieldType := fun k => match k with
  | _ => .int
theorem nmJx5ef63 : ∀ a, a < 0 → ∀ b, b < 0 → a ≠ b → (TJx5ef63 a).2.1 ≠ (TJx5ef63 b).2.1 := by decide +kernel
theorem tyJx5ef63_ok : ∀ k, k < 0 → parseFieldDescriptor (TJx5ef63 k).2.2.1 = some (tyJx5ef63 k) := by decide +kernel
def RJx4d0d8 : String := "java/util/Iterator"
def TJx4d0d8 : u_T := fun k => match k with
  | _ => ("", "", "", false)
def tyJx4d0d8 : Nat → FieldType := fun k => match k with
  | _ => .int
theorem nmJx4d0d8 : ∀ a, a < 0 → ∀ b, b < 0 → a ≠ b → (TJx4d0d8 a).2.1 ≠ (TJx4d0d8 b).2.1 := by decide +kernel
theorem tyJx4d0d8_ok : ∀ k, k < 0 → parseFieldDescriptor (TJx4d0d8 k).2.2.1 = some (tyJx4d0d8 k) := by decide +kernel
def RJxbd725 : String := "java/util/List"
def TJxbd725 : u_T := fun k => match k with
  | _ => ("", "", "", false)
def tyJxbd725 : Nat → FieldType := fun k => match k with
  | _ => .int
theorem nmJxbd725 : ∀ a, a < 0 → ∀ b, b < 0 → a ≠ b → (TJxbd725 a).2.1 ≠ (TJxbd725 b).2.1 := by decide +kernel
theorem tyJxbd725_ok : ∀ k, k < 0 → parseFieldDescriptor (TJxbd725 k).2.2.1 = some (tyJxbd725 k) := by decide +kernel
def RJ15 : String := "java/util/Objects"
def TJ15 : u_T := fun k => match k with
  | _ => ("", "", "", false)
def tyJ15 : Nat → FieldType := fun k => match k with
  | _ => .int
theorem nmJ15 : ∀ a, a < 0 → ∀ b, b < 0 → a ≠ b → (TJ15 a).2.1 ≠ (TJ15 b).2.1 := by decide +kernel
theorem tyJ15_ok : ∀ k, k < 0 → parseFieldDescriptor (TJ15 k).2.2.1 = some (tyJ15 k) := by decide +kernel
abbrev cJ15_checkIndex_7cf53 : ByteArray := prog_39_method_17_code
def yJ15_checkIndex_7cf53 : MethodName := ⟨RJ15, "checkIndex", "(II)I"⟩
def RJxf0a74 : String := "java/util/RandomAccess"
def TJxf0a74 : u_T := fun k => match k with
  | _ => ("", "", "", false)
def tyJxf0a74 : Nat → FieldType := fun k => match k with
  | _ => .int
theorem nmJxf0a74 : ∀ a, a < 0 → ∀ b, b < 0 → a ≠ b → (TJxf0a74 a).2.1 ≠ (TJxf0a74 b).2.1 := by decide +kernel
theorem tyJxf0a74_ok : ∀ k, k < 0 → parseFieldDescriptor (TJxf0a74 k).2.2.1 = some (tyJxf0a74 k) := by decide +kernel
def RJxa66e6 : String := "java/util/SequencedCollection"
def TJxa66e6 : u_T := fun k => match k with
  | _ => ("", "", "", false)
def tyJxa66e6 : Nat → FieldType := fun k => match k with
  | _ => .int
theorem nmJxa66e6 : ∀ a, a < 0 → ∀ b, b < 0 → a ≠ b → (TJxa66e6 a).2.1 ≠ (TJxa66e6 b).2.1 := by decide +kernel
theorem tyJxa66e6_ok : ∀ k, k < 0 → parseFieldDescriptor (TJxa66e6 k).2.2.1 = some (tyJxa66e6 k) := by decide +kernel
def RJ8 : String := "jdk/internal/util/ArraysSupport"
def TJ8 : u_T := fun k => match k with
  | _ => ("", "", "", false)
def tyJ8 : Nat → FieldType := fun k => match k with
  | _ => .int
theorem nmJ8 : ∀ a, a < 0 → ∀ b, b < 0 → a ≠ b → (TJ8 a).2.1 ≠ (TJ8 b).2.1 := by decide +kernel
theorem tyJ8_ok : ∀ k, k < 0 → parseFieldDescriptor (TJ8 k).2.2.1 = some (tyJ8 k) := by decide +kernel
abbrev cJ8_newLength_cabcc : ByteArray := prog_42_method_27_code
def yJ8_newLength_cabcc : MethodName := ⟨RJ8, "newLength", "(III)I"⟩
abbrev cJ8_hugeLength_7cf53 : ByteArray := prog_42_method_28_code
def yJ8_hugeLength_7cf53 : MethodName := ⟨RJ8, "hugeLength", "(II)I"⟩
def RJ3 : String := "jdk/internal/util/Preconditions"
def TJ3 : u_T := fun k => match k with
  | _ => ("", "", "", false)
def tyJ3 : Nat → FieldType := fun k => match k with
  | _ => .int
theorem nmJ3 : ∀ a, a < 0 → ∀ b, b < 0 → a ≠ b → (TJ3 a).2.1 ≠ (TJ3 b).2.1 := by decide +kernel
theorem tyJ3_ok : ∀ k, k < 0 → parseFieldDescriptor (TJ3 k).2.2.1 = some (tyJ3 k) := by decide +kernel
abbrev cJ3_checkIndex_8e157 : ByteArray := prog_43_method_11_code
def yJ3_checkIndex_8e157 : MethodName := ⟨RJ3, "checkIndex", "(IILjava/util/function/BiFunction;)I"⟩
def RL : String := "OnboardingWorksLaw"
abbrev cL_step : ByteArray := method_3_code
def yL_step : MethodName := ⟨RL, "step", "(LOnboardingWorks;IIII[J)I"⟩
abbrev cL_role : ByteArray := method_4_code
def yL_role : MethodName := ⟨RL, "role", "(LOnboardingWorks;II[J)I"⟩
abbrev cL_right : ByteArray := method_5_code
def yL_right : MethodName := ⟨RL, "right", "(LOnboardingWorks;I[J)I"⟩
abbrev cL_stock : ByteArray := method_6_code
def yL_stock : MethodName := ⟨RL, "stock", "(LOnboardingWorks;II[J)I"⟩
abbrev cL_order : ByteArray := method_7_code
def yL_order : MethodName := ⟨RL, "order", "(LOnboardingWorks;III[J)I"⟩
abbrev cL_late : ByteArray := method_8_code
def yL_late : MethodName := ⟨RL, "late", "(LOnboardingWorks;II[J)I"⟩
abbrev cL_session : ByteArray := method_9_code
def yL_session : MethodName := ⟨RL, "session", "(LOnboardingWorks;III[J)I"⟩
abbrev cL_ofSession : ByteArray := method_10_code
def yL_ofSession : MethodName := ⟨RL, "ofSession", "(LOnboardingWorks;II[J)I"⟩
abbrev cL_ofItem : ByteArray := method_11_code
def yL_ofItem : MethodName := ⟨RL, "ofItem", "(LOnboardingWorks;II[J)I"⟩
abbrev cL_join : ByteArray := method_12_code
def yL_join : MethodName := ⟨RL, "join", "(LOnboardingWorks;II[J)I"⟩
abbrev cL_leave : ByteArray := method_13_code
def yL_leave : MethodName := ⟨RL, "leave", "(LOnboardingWorks;I[J)I"⟩
abbrev cL_day : ByteArray := method_14_code
def yL_day : MethodName := ⟨RL, "day", "(LOnboardingWorks;[J)I"⟩
abbrev cL_ofStep : ByteArray := method_15_code
def yL_ofStep : MethodName := ⟨RL, "ofStep", "(LOnboardingWorks;III[J)I"⟩
abbrev cL_ofJoiner : ByteArray := method_16_code
def yL_ofJoiner : MethodName := ⟨RL, "ofJoiner", "(LOnboardingWorks;II[J)I"⟩
abbrev cL_many : ByteArray := method_17_code
def yL_many : MethodName := ⟨RL, "many", "(LOnboardingWorks;I[J)I"⟩
abbrev cL_rightOn : ByteArray := method_18_code
def yL_rightOn : MethodName := ⟨RL, "rightOn", "(LOnboardingWorks;II[J)I"⟩
abbrev cL_shiftBy : ByteArray := method_19_code
def yL_shiftBy : MethodName := ⟨RL, "shiftBy", "(LOnboardingWorks;II[J)I"⟩
abbrev cL_next : ByteArray := method_20_code
def yL_next : MethodName := ⟨RL, "next", "(LOnboardingWorks;I[J)I"⟩
abbrev cL_waitFor : ByteArray := method_21_code
def yL_waitFor : MethodName := ⟨RL, "waitFor", "(LOnboardingWorks;II[J)I"⟩
abbrev cL_law : ByteArray := code
def yL_law : MethodName := ⟨RL, "law", "([I)Z"⟩
abbrev vwCl : List vw_C := [(RJ6, TJ6, 1), (RJx35411, TJx35411, 4), (RJx4a65c, TJx4a65c, 3), (RX0, TX0, 7), (RX1, TX1, 8), (RX2, TX2, 8), (RX3, TX3, 5), (RX4, TX4, 5), (RX5, TX5, 7), (RX6, TX6, 8), (RX7, TX7, 4), (RX8, TX8, 3), (RX9, TX9, 4), (RX10, TX10, 9)]
end
section
theorem dX0_init_0 : decode cX0_init 0 = .ok (.aload_n 0, 1) := by decide +kernel
theorem dX0_init_1 : decode cX0_init 1 = .ok (.invokespecial 3, 3) := by decide +kernel
theorem dX0_init_4 : decode cX0_init 4 = .ok (.aload_n 0, 1) := by decide +kernel
theorem dX0_init_5 : decode cX0_init 5 = .ok (.iconst 4, 1) := by decide +kernel
theorem dX0_init_6 : decode cX0_init 6 = .ok (.newarray .int, 2) := by decide +kernel
theorem dX0_init_8 : decode cX0_init 8 = .ok (.putfield 9, 3) := by decide +kernel
theorem dX0_init_11 : decode cX0_init 11 = .ok (.aload_n 0, 1) := by decide +kernel
theorem dX0_init_12 : decode cX0_init 12 = .ok (.bipush 12, 2) := by decide +kernel
theorem dX0_init_14 : decode cX0_init 14 = .ok (.newarray .int, 2) := by decide +kernel
theorem dX0_init_16 : decode cX0_init 16 = .ok (.putfield 15, 3) := by decide +kernel
theorem dX0_init_19 : decode cX0_init 19 = .ok (.aload_n 0, 1) := by decide +kernel
theorem dX0_init_20 : decode cX0_init 20 = .ok (.bipush 12, 2) := by decide +kernel
theorem dX0_init_22 : decode cX0_init 22 = .ok (.newarray .int, 2) := by decide +kernel
theorem dX0_init_24 : decode cX0_init 24 = .ok (.putfield 18, 3) := by decide +kernel
theorem dX0_init_27 : decode cX0_init 27 = .ok (.aload_n 0, 1) := by decide +kernel
theorem dX0_init_28 : decode cX0_init 28 = .ok (.aload_n 1, 1) := by decide +kernel
theorem dX0_init_29 : decode cX0_init 29 = .ok (.putfield 21, 3) := by decide +kernel
theorem dX0_init_32 : decode cX0_init 32 = .ok (.aload_n 0, 1) := by decide +kernel
theorem dX0_init_33 : decode cX0_init 33 = .ok (.aload_n 2, 1) := by decide +kernel
theorem dX0_init_34 : decode cX0_init 34 = .ok (.putfield 25, 3) := by decide +kernel
theorem dX0_init_37 : decode cX0_init 37 = .ok (.aload_n 0, 1) := by decide +kernel
theorem dX0_init_38 : decode cX0_init 38 = .ok (.aload_n 3, 1) := by decide +kernel
theorem dX0_init_39 : decode cX0_init 39 = .ok (.putfield 29, 3) := by decide +kernel
theorem dX0_init_42 : decode cX0_init 42 = .ok (.return_, 1) := by decide +kernel
theorem dX0_foresee_0 : decode cX0_foresee 0 = .ok (.aload_n 0, 1) := by decide +kernel
theorem dX0_foresee_1 : decode cX0_foresee 1 = .ok (.iload_n 2, 1) := by decide +kernel
theorem dX0_foresee_2 : decode cX0_foresee 2 = .ok (.iload_n 3, 1) := by decide +kernel
theorem dX0_foresee_3 : decode cX0_foresee 3 = .ok (.iload 4, 2) := by decide +kernel
theorem dX0_foresee_5 : decode cX0_foresee 5 = .ok (.invokevirtual 33, 3) := by decide +kernel
theorem dX0_foresee_8 : decode cX0_foresee 8 = .ok (.iconst 0, 1) := by decide +kernel
theorem dX0_foresee_9 : decode cX0_foresee 9 = .ok (.istore 5, 2) := by decide +kernel
theorem dX0_foresee_11 : decode cX0_foresee 11 = .ok (.iload 5, 2) := by decide +kernel
theorem dX0_foresee_13 : decode cX0_foresee 13 = .ok (.bipush 12, 2) := by decide +kernel
theorem dX0_foresee_15 : decode cX0_foresee 15 = .ok (.if_icmp .ge 16, 3) := by decide +kernel
theorem dX0_foresee_18 : decode cX0_foresee 18 = .ok (.aload_n 0, 1) := by decide +kernel
theorem dX0_foresee_19 : decode cX0_foresee 19 = .ok (.aload_n 1, 1) := by decide +kernel
theorem dX0_foresee_20 : decode cX0_foresee 20 = .ok (.iload 5, 2) := by decide +kernel
theorem dX0_foresee_22 : decode cX0_foresee 22 = .ok (.invokevirtual 37, 3) := by decide +kernel
theorem dX0_foresee_25 : decode cX0_foresee 25 = .ok (.iinc 5 1, 3) := by decide +kernel
theorem dX0_foresee_28 : decode cX0_foresee 28 = .ok (.goto (-17), 3) := by decide +kernel
theorem dX0_foresee_31 : decode cX0_foresee 31 = .ok (.return_, 1) := by decide +kernel
theorem dX0_lookFrom_0 : decode cX0_lookFrom 0 = .ok (.aload_n 0, 1) := by decide +kernel
theorem dX0_lookFrom_1 : decode cX0_lookFrom 1 = .ok (.iload_n 1, 1) := by decide +kernel
theorem dX0_lookFrom_2 : decode cX0_lookFrom 2 = .ok (.iconst 1, 1) := by decide +kernel
theorem dX0_lookFrom_3 : decode cX0_lookFrom 3 = .ok (.iadd, 1) := by decide +kernel
theorem dX0_lookFrom_4 : decode cX0_lookFrom 4 = .ok (.putfield 41, 3) := by decide +kernel
theorem dX0_lookFrom_7 : decode cX0_lookFrom 7 = .ok (.iconst 0, 1) := by decide +kernel
theorem dX0_lookFrom_8 : decode cX0_lookFrom 8 = .ok (.istore 4, 2) := by decide +kernel
theorem dX0_lookFrom_10 : decode cX0_lookFrom 10 = .ok (.iload 4, 2) := by decide +kernel
theorem dX0_lookFrom_12 : decode cX0_lookFrom 12 = .ok (.iconst 4, 1) := by decide +kernel
theorem dX0_lookFrom_13 : decode cX0_lookFrom 13 = .ok (.if_icmp .ge 44, 3) := by decide +kernel
theorem dX0_lookFrom_16 : decode cX0_lookFrom 16 = .ok (.aload_n 0, 1) := by decide +kernel
theorem dX0_lookFrom_17 : decode cX0_lookFrom 17 = .ok (.getfield 9, 3) := by decide +kernel
theorem dX0_lookFrom_20 : decode cX0_lookFrom 20 = .ok (.iload 4, 2) := by decide +kernel
theorem dX0_lookFrom_22 : decode cX0_lookFrom 22 = .ok (.aload_n 0, 1) := by decide +kernel
theorem dX0_lookFrom_23 : decode cX0_lookFrom 23 = .ok (.getfield 25, 3) := by decide +kernel
theorem dX0_lookFrom_26 : decode cX0_lookFrom 26 = .ok (.iload 4, 2) := by decide +kernel
theorem dX0_lookFrom_28 : decode cX0_lookFrom 28 = .ok (.invokevirtual 45, 3) := by decide +kernel
theorem dX0_lookFrom_31 : decode cX0_lookFrom 31 = .ok (.ifCond .eq 7, 3) := by decide +kernel
theorem dX0_lookFrom_34 : decode cX0_lookFrom 34 = .ok (.iload_n 1, 1) := by decide +kernel
theorem dX0_lookFrom_35 : decode cX0_lookFrom 35 = .ok (.goto 15, 3) := by decide +kernel
theorem dX0_lookFrom_38 : decode cX0_lookFrom 38 = .ok (.aload_n 0, 1) := by decide +kernel
theorem dX0_lookFrom_39 : decode cX0_lookFrom 39 = .ok (.getfield 25, 3) := by decide +kernel
theorem dX0_lookFrom_42 : decode cX0_lookFrom 42 = .ok (.iload 4, 2) := by decide +kernel
theorem dX0_lookFrom_44 : decode cX0_lookFrom 44 = .ok (.iload_n 1, 1) := by decide +kernel
theorem dX0_lookFrom_45 : decode cX0_lookFrom 45 = .ok (.iload_n 2, 1) := by decide +kernel
theorem dX0_lookFrom_46 : decode cX0_lookFrom 46 = .ok (.iload_n 3, 1) := by decide +kernel
theorem dX0_lookFrom_47 : decode cX0_lookFrom 47 = .ok (.invokevirtual 51, 3) := by decide +kernel
theorem dX0_lookFrom_50 : decode cX0_lookFrom 50 = .ok (.iastore, 1) := by decide +kernel
theorem dX0_lookFrom_51 : decode cX0_lookFrom 51 = .ok (.iinc 4 1, 3) := by decide +kernel
theorem dX0_lookFrom_54 : decode cX0_lookFrom 54 = .ok (.goto (-44), 3) := by decide +kernel
theorem dX0_lookFrom_57 : decode cX0_lookFrom 57 = .ok (.return_, 1) := by decide +kernel
theorem dX0_foreseeStep_0 : decode cX0_foreseeStep 0 = .ok (.iload_n 2, 1) := by decide +kernel
theorem dX0_foreseeStep_1 : decode cX0_foreseeStep 1 = .ok (.ifCond .lt 9, 3) := by decide +kernel
theorem dX0_foreseeStep_4 : decode cX0_foreseeStep 4 = .ok (.iload_n 2, 1) := by decide +kernel
theorem dX0_foreseeStep_5 : decode cX0_foreseeStep 5 = .ok (.bipush 12, 2) := by decide +kernel
theorem dX0_foreseeStep_7 : decode cX0_foreseeStep 7 = .ok (.if_icmp .lt 4, 3) := by decide +kernel
theorem dX0_foreseeStep_10 : decode cX0_foreseeStep 10 = .ok (.return_, 1) := by decide +kernel
theorem dX0_foreseeStep_11 : decode cX0_foreseeStep 11 = .ok (.aload_n 0, 1) := by decide +kernel
theorem dX0_foreseeStep_12 : decode cX0_foreseeStep 12 = .ok (.aload_n 1, 1) := by decide +kernel
theorem dX0_foreseeStep_13 : decode cX0_foreseeStep 13 = .ok (.iload_n 2, 1) := by decide +kernel
theorem dX0_foreseeStep_14 : decode cX0_foreseeStep 14 = .ok (.invokevirtual 55, 3) := by decide +kernel
theorem dX0_foreseeStep_17 : decode cX0_foreseeStep 17 = .ok (.istore_n 3, 1) := by decide +kernel
theorem dX0_foreseeStep_18 : decode cX0_foreseeStep 18 = .ok (.aload_n 0, 1) := by decide +kernel
theorem dX0_foreseeStep_19 : decode cX0_foreseeStep 19 = .ok (.getfield 15, 3) := by decide +kernel
theorem dX0_foreseeStep_22 : decode cX0_foreseeStep 22 = .ok (.iload_n 2, 1) := by decide +kernel
theorem dX0_foreseeStep_23 : decode cX0_foreseeStep 23 = .ok (.iload_n 3, 1) := by decide +kernel
theorem dX0_foreseeStep_24 : decode cX0_foreseeStep 24 = .ok (.iastore, 1) := by decide +kernel
theorem dX0_foreseeStep_25 : decode cX0_foreseeStep 25 = .ok (.aload_n 0, 1) := by decide +kernel
theorem dX0_foreseeStep_26 : decode cX0_foreseeStep 26 = .ok (.getfield 18, 3) := by decide +kernel
theorem dX0_foreseeStep_29 : decode cX0_foreseeStep 29 = .ok (.iload_n 2, 1) := by decide +kernel
theorem dX0_foreseeStep_30 : decode cX0_foreseeStep 30 = .ok (.iload_n 3, 1) := by decide +kernel
theorem dX0_foreseeStep_31 : decode cX0_foreseeStep 31 = .ok (.iconst (-1), 1) := by decide +kernel
theorem dX0_foreseeStep_32 : decode cX0_foreseeStep 32 = .ok (.if_icmp .ne 7, 3) := by decide +kernel
theorem dX0_foreseeStep_35 : decode cX0_foreseeStep 35 = .ok (.iconst (-1), 1) := by decide +kernel
theorem dX0_foreseeStep_36 : decode cX0_foreseeStep 36 = .ok (.goto 16, 3) := by decide +kernel
theorem dX0_foreseeStep_39 : decode cX0_foreseeStep 39 = .ok (.iload_n 3, 1) := by decide +kernel
theorem dX0_foreseeStep_40 : decode cX0_foreseeStep 40 = .ok (.aload_n 0, 1) := by decide +kernel
theorem dX0_foreseeStep_41 : decode cX0_foreseeStep 41 = .ok (.getfield 21, 3) := by decide +kernel
theorem dX0_foreseeStep_44 : decode cX0_foreseeStep 44 = .ok (.aload_n 1, 1) := by decide +kernel
theorem dX0_foreseeStep_45 : decode cX0_foreseeStep 45 = .ok (.iload_n 2, 1) := by decide +kernel
theorem dX0_foreseeStep_46 : decode cX0_foreseeStep 46 = .ok (.invokevirtual 59, 3) := by decide +kernel
theorem dX0_foreseeStep_49 : decode cX0_foreseeStep 49 = .ok (.iadd, 1) := by decide +kernel
theorem dX0_foreseeStep_50 : decode cX0_foreseeStep 50 = .ok (.iconst 1, 1) := by decide +kernel
theorem dX0_foreseeStep_51 : decode cX0_foreseeStep 51 = .ok (.isub, 1) := by decide +kernel
theorem dX0_foreseeStep_52 : decode cX0_foreseeStep 52 = .ok (.iastore, 1) := by decide +kernel
theorem dX0_foreseeStep_53 : decode cX0_foreseeStep 53 = .ok (.return_, 1) := by decide +kernel
theorem dX0_beginOf_0 : decode cX0_beginOf 0 = .ok (.iload_n 2, 1) := by decide +kernel
theorem dX0_beginOf_1 : decode cX0_beginOf 1 = .ok (.ifCond .lt 27, 3) := by decide +kernel
theorem dX0_beginOf_4 : decode cX0_beginOf 4 = .ok (.iload_n 2, 1) := by decide +kernel
theorem dX0_beginOf_5 : decode cX0_beginOf 5 = .ok (.bipush 12, 2) := by decide +kernel
theorem dX0_beginOf_7 : decode cX0_beginOf 7 = .ok (.if_icmp .ge 21, 3) := by decide +kernel
theorem dX0_beginOf_10 : decode cX0_beginOf 10 = .ok (.aload_n 1, 1) := by decide +kernel
theorem dX0_beginOf_11 : decode cX0_beginOf 11 = .ok (.getfield 64, 3) := by decide +kernel
theorem dX0_beginOf_14 : decode cX0_beginOf 14 = .ok (.ifCond .ne 14, 3) := by decide +kernel
theorem dX0_beginOf_17 : decode cX0_beginOf 17 = .ok (.aload_n 1, 1) := by decide +kernel
theorem dX0_beginOf_18 : decode cX0_beginOf 18 = .ok (.getfield 70, 3) := by decide +kernel
theorem dX0_beginOf_21 : decode cX0_beginOf 21 = .ok (.iload_n 2, 1) := by decide +kernel
theorem dX0_beginOf_22 : decode cX0_beginOf 22 = .ok (.invokestatic 73, 3) := by decide +kernel
theorem dX0_beginOf_25 : decode cX0_beginOf 25 = .ok (.ifCond .ne 5, 3) := by decide +kernel
theorem dX0_beginOf_28 : decode cX0_beginOf 28 = .ok (.iconst (-1), 1) := by decide +kernel
theorem dX0_beginOf_29 : decode cX0_beginOf 29 = .ok (.ireturn, 1) := by decide +kernel
theorem dX0_beginOf_30 : decode cX0_beginOf 30 = .ok (.aload_n 1, 1) := by decide +kernel
theorem dX0_beginOf_31 : decode cX0_beginOf 31 = .ok (.getfield 77, 3) := by decide +kernel
theorem dX0_beginOf_34 : decode cX0_beginOf 34 = .ok (.iload_n 2, 1) := by decide +kernel
theorem dX0_beginOf_35 : decode cX0_beginOf 35 = .ok (.iaload, 1) := by decide +kernel
theorem dX0_beginOf_36 : decode cX0_beginOf 36 = .ok (.ifCond .eq 10, 3) := by decide +kernel
theorem dX0_beginOf_39 : decode cX0_beginOf 39 = .ok (.aload_n 1, 1) := by decide +kernel
theorem dX0_beginOf_40 : decode cX0_beginOf 40 = .ok (.getfield 80, 3) := by decide +kernel
theorem dX0_beginOf_43 : decode cX0_beginOf 43 = .ok (.iload_n 2, 1) := by decide +kernel
theorem dX0_beginOf_44 : decode cX0_beginOf 44 = .ok (.iaload, 1) := by decide +kernel
theorem dX0_beginOf_45 : decode cX0_beginOf 45 = .ok (.ireturn, 1) := by decide +kernel
theorem dX0_beginOf_46 : decode cX0_beginOf 46 = .ok (.aload_n 0, 1) := by decide +kernel
theorem dX0_beginOf_47 : decode cX0_beginOf 47 = .ok (.getfield 41, 3) := by decide +kernel
theorem dX0_beginOf_50 : decode cX0_beginOf 50 = .ok (.aload_n 1, 1) := by decide +kernel
theorem dX0_beginOf_51 : decode cX0_beginOf 51 = .ok (.getfield 81, 3) := by decide +kernel
theorem dX0_beginOf_54 : decode cX0_beginOf 54 = .ok (.invokestatic 84, 3) := by decide +kernel
theorem dX0_beginOf_57 : decode cX0_beginOf 57 = .ok (.istore_n 3, 1) := by decide +kernel
theorem dX0_beginOf_58 : decode cX0_beginOf 58 = .ok (.aload_n 0, 1) := by decide +kernel
theorem dX0_beginOf_59 : decode cX0_beginOf 59 = .ok (.getfield 21, 3) := by decide +kernel
theorem dX0_beginOf_62 : decode cX0_beginOf 62 = .ok (.getfield 90, 3) := by decide +kernel
theorem dX0_beginOf_65 : decode cX0_beginOf 65 = .ok (.iload_n 2, 1) := by decide +kernel
theorem dX0_beginOf_66 : decode cX0_beginOf 66 = .ok (.iaload, 1) := by decide +kernel
theorem dX0_beginOf_67 : decode cX0_beginOf 67 = .ok (.aload_n 1, 1) := by decide +kernel
theorem dX0_beginOf_68 : decode cX0_beginOf 68 = .ok (.getfield 70, 3) := by decide +kernel
theorem dX0_beginOf_71 : decode cX0_beginOf 71 = .ok (.iand, 1) := by decide +kernel
theorem dX0_beginOf_72 : decode cX0_beginOf 72 = .ok (.istore 4, 2) := by decide +kernel
theorem dX0_beginOf_74 : decode cX0_beginOf 74 = .ok (.iconst 0, 1) := by decide +kernel
theorem dX0_beginOf_75 : decode cX0_beginOf 75 = .ok (.istore 5, 2) := by decide +kernel
theorem dX0_beginOf_77 : decode cX0_beginOf 77 = .ok (.iload 5, 2) := by decide +kernel
theorem dX0_beginOf_79 : decode cX0_beginOf 79 = .ok (.iload_n 2, 1) := by decide +kernel
theorem dX0_beginOf_80 : decode cX0_beginOf 80 = .ok (.if_icmp .ge 46, 3) := by decide +kernel
theorem dX0_beginOf_83 : decode cX0_beginOf 83 = .ok (.iload 4, 2) := by decide +kernel
theorem dX0_beginOf_85 : decode cX0_beginOf 85 = .ok (.iload 5, 2) := by decide +kernel
theorem dX0_beginOf_87 : decode cX0_beginOf 87 = .ok (.invokestatic 73, 3) := by decide +kernel
theorem dX0_beginOf_90 : decode cX0_beginOf 90 = .ok (.ifCond .eq 30, 3) := by decide +kernel
theorem dX0_beginOf_93 : decode cX0_beginOf 93 = .ok (.aload_n 0, 1) := by decide +kernel
theorem dX0_beginOf_94 : decode cX0_beginOf 94 = .ok (.getfield 18, 3) := by decide +kernel
theorem dX0_beginOf_97 : decode cX0_beginOf 97 = .ok (.iload 5, 2) := by decide +kernel
theorem dX0_beginOf_99 : decode cX0_beginOf 99 = .ok (.iaload, 1) := by decide +kernel
theorem dX0_beginOf_100 : decode cX0_beginOf 100 = .ok (.iconst (-1), 1) := by decide +kernel
theorem dX0_beginOf_101 : decode cX0_beginOf 101 = .ok (.if_icmp .ne 5, 3) := by decide +kernel
theorem dX0_beginOf_104 : decode cX0_beginOf 104 = .ok (.iconst (-1), 1) := by decide +kernel
theorem dX0_beginOf_105 : decode cX0_beginOf 105 = .ok (.ireturn, 1) := by decide +kernel
theorem dX0_beginOf_106 : decode cX0_beginOf 106 = .ok (.iload_n 3, 1) := by decide +kernel
theorem dX0_beginOf_107 : decode cX0_beginOf 107 = .ok (.aload_n 0, 1) := by decide +kernel
theorem dX0_beginOf_108 : decode cX0_beginOf 108 = .ok (.getfield 18, 3) := by decide +kernel
theorem dX0_beginOf_111 : decode cX0_beginOf 111 = .ok (.iload 5, 2) := by decide +kernel
theorem dX0_beginOf_113 : decode cX0_beginOf 113 = .ok (.iaload, 1) := by decide +kernel
theorem dX0_beginOf_114 : decode cX0_beginOf 114 = .ok (.iconst 1, 1) := by decide +kernel
theorem dX0_beginOf_115 : decode cX0_beginOf 115 = .ok (.iadd, 1) := by decide +kernel
theorem dX0_beginOf_116 : decode cX0_beginOf 116 = .ok (.invokestatic 84, 3) := by decide +kernel
theorem dX0_beginOf_119 : decode cX0_beginOf 119 = .ok (.istore_n 3, 1) := by decide +kernel
theorem dX0_beginOf_120 : decode cX0_beginOf 120 = .ok (.iinc 5 1, 3) := by decide +kernel
theorem dX0_beginOf_123 : decode cX0_beginOf 123 = .ok (.goto (-46), 3) := by decide +kernel
theorem dX0_beginOf_126 : decode cX0_beginOf 126 = .ok (.aload_n 0, 1) := by decide +kernel
theorem dX0_beginOf_127 : decode cX0_beginOf 127 = .ok (.getfield 21, 3) := by decide +kernel
theorem dX0_beginOf_130 : decode cX0_beginOf 130 = .ok (.getfield 93, 3) := by decide +kernel
theorem dX0_beginOf_133 : decode cX0_beginOf 133 = .ok (.iload_n 2, 1) := by decide +kernel
theorem dX0_beginOf_134 : decode cX0_beginOf 134 = .ok (.iaload, 1) := by decide +kernel
theorem dX0_beginOf_135 : decode cX0_beginOf 135 = .ok (.iconst 2, 1) := by decide +kernel
theorem dX0_beginOf_136 : decode cX0_beginOf 136 = .ok (.if_icmp .ne 21, 3) := by decide +kernel
theorem dX0_beginOf_139 : decode cX0_beginOf 139 = .ok (.iload_n 3, 1) := by decide +kernel
theorem dX0_beginOf_140 : decode cX0_beginOf 140 = .ok (.aload_n 0, 1) := by decide +kernel
theorem dX0_beginOf_141 : decode cX0_beginOf 141 = .ok (.getfield 29, 3) := by decide +kernel
theorem dX0_beginOf_144 : decode cX0_beginOf 144 = .ok (.aload_n 1, 1) := by decide +kernel
theorem dX0_beginOf_145 : decode cX0_beginOf 145 = .ok (.getfield 96, 3) := by decide +kernel
theorem dX0_beginOf_148 : decode cX0_beginOf 148 = .ok (.iload_n 2, 1) := by decide +kernel
theorem dX0_beginOf_149 : decode cX0_beginOf 149 = .ok (.iaload, 1) := by decide +kernel
theorem dX0_beginOf_150 : decode cX0_beginOf 150 = .ok (.invokevirtual 99, 3) := by decide +kernel
theorem dX0_beginOf_153 : decode cX0_beginOf 153 = .ok (.invokestatic 84, 3) := by decide +kernel
theorem dX0_beginOf_156 : decode cX0_beginOf 156 = .ok (.ireturn, 1) := by decide +kernel
theorem dX0_beginOf_157 : decode cX0_beginOf 157 = .ok (.aload_n 0, 1) := by decide +kernel
theorem dX0_beginOf_158 : decode cX0_beginOf 158 = .ok (.getfield 21, 3) := by decide +kernel
theorem dX0_beginOf_161 : decode cX0_beginOf 161 = .ok (.getfield 93, 3) := by decide +kernel
theorem dX0_beginOf_164 : decode cX0_beginOf 164 = .ok (.iload_n 2, 1) := by decide +kernel
theorem dX0_beginOf_165 : decode cX0_beginOf 165 = .ok (.iaload, 1) := by decide +kernel
theorem dX0_beginOf_166 : decode cX0_beginOf 166 = .ok (.iconst 1, 1) := by decide +kernel
theorem dX0_beginOf_167 : decode cX0_beginOf 167 = .ok (.if_icmp .ne 20, 3) := by decide +kernel
theorem dX0_beginOf_170 : decode cX0_beginOf 170 = .ok (.aload_n 0, 1) := by decide +kernel
theorem dX0_beginOf_171 : decode cX0_beginOf 171 = .ok (.iload_n 3, 1) := by decide +kernel
theorem dX0_beginOf_172 : decode cX0_beginOf 172 = .ok (.aload_n 0, 1) := by decide +kernel
theorem dX0_beginOf_173 : decode cX0_beginOf 173 = .ok (.getfield 21, 3) := by decide +kernel
theorem dX0_beginOf_176 : decode cX0_beginOf 176 = .ok (.getfield 105, 3) := by decide +kernel
theorem dX0_beginOf_179 : decode cX0_beginOf 179 = .ok (.iload_n 2, 1) := by decide +kernel
theorem dX0_beginOf_180 : decode cX0_beginOf 180 = .ok (.iaload, 1) := by decide +kernel
theorem dX0_beginOf_181 : decode cX0_beginOf 181 = .ok (.invokevirtual 108, 3) := by decide +kernel
theorem dX0_beginOf_184 : decode cX0_beginOf 184 = .ok (.goto 4, 3) := by decide +kernel
theorem dX0_beginOf_187 : decode cX0_beginOf 187 = .ok (.iload_n 3, 1) := by decide +kernel
theorem dX0_beginOf_188 : decode cX0_beginOf 188 = .ok (.ireturn, 1) := by decide +kernel
theorem dX0_withSupply_0 : decode cX0_withSupply 0 = .ok (.iload_n 2, 1) := by decide +kernel
theorem dX0_withSupply_1 : decode cX0_withSupply 1 = .ok (.ifCond .lt 18, 3) := by decide +kernel
theorem dX0_withSupply_4 : decode cX0_withSupply 4 = .ok (.iload_n 2, 1) := by decide +kernel
theorem dX0_withSupply_5 : decode cX0_withSupply 5 = .ok (.iconst 4, 1) := by decide +kernel
theorem dX0_withSupply_6 : decode cX0_withSupply 6 = .ok (.if_icmp .ge 13, 3) := by decide +kernel
theorem dX0_withSupply_9 : decode cX0_withSupply 9 = .ok (.aload_n 0, 1) := by decide +kernel
theorem dX0_withSupply_10 : decode cX0_withSupply 10 = .ok (.getfield 9, 3) := by decide +kernel
theorem dX0_withSupply_13 : decode cX0_withSupply 13 = .ok (.iload_n 2, 1) := by decide +kernel
theorem dX0_withSupply_14 : decode cX0_withSupply 14 = .ok (.iaload, 1) := by decide +kernel
theorem dX0_withSupply_15 : decode cX0_withSupply 15 = .ok (.iconst (-1), 1) := by decide +kernel
theorem dX0_withSupply_16 : decode cX0_withSupply 16 = .ok (.if_icmp .ne 5, 3) := by decide +kernel
theorem dX0_withSupply_19 : decode cX0_withSupply 19 = .ok (.iconst (-1), 1) := by decide +kernel
theorem dX0_withSupply_20 : decode cX0_withSupply 20 = .ok (.ireturn, 1) := by decide +kernel
theorem dX0_withSupply_21 : decode cX0_withSupply 21 = .ok (.iload_n 1, 1) := by decide +kernel
theorem dX0_withSupply_22 : decode cX0_withSupply 22 = .ok (.aload_n 0, 1) := by decide +kernel
theorem dX0_withSupply_23 : decode cX0_withSupply 23 = .ok (.getfield 9, 3) := by decide +kernel
theorem dX0_withSupply_26 : decode cX0_withSupply 26 = .ok (.iload_n 2, 1) := by decide +kernel
theorem dX0_withSupply_27 : decode cX0_withSupply 27 = .ok (.iaload, 1) := by decide +kernel
theorem dX0_withSupply_28 : decode cX0_withSupply 28 = .ok (.invokestatic 84, 3) := by decide +kernel
theorem dX0_withSupply_31 : decode cX0_withSupply 31 = .ok (.ireturn, 1) := by decide +kernel
theorem dX0_dayBehind_0 : decode cX0_dayBehind 0 = .ok (.aload_n 0, 1) := by decide +kernel
theorem dX0_dayBehind_1 : decode cX0_dayBehind 1 = .ok (.iload_n 1, 1) := by decide +kernel
theorem dX0_dayBehind_2 : decode cX0_dayBehind 2 = .ok (.invokevirtual 111, 3) := by decide +kernel
theorem dX0_dayBehind_5 : decode cX0_dayBehind 5 = .ok (.istore_n 2, 1) := by decide +kernel
theorem dX0_dayBehind_6 : decode cX0_dayBehind 6 = .ok (.iload_n 2, 1) := by decide +kernel
theorem dX0_dayBehind_7 : decode cX0_dayBehind 7 = .ok (.iconst (-1), 1) := by decide +kernel
theorem dX0_dayBehind_8 : decode cX0_dayBehind 8 = .ok (.if_icmp .ne 7, 3) := by decide +kernel
theorem dX0_dayBehind_11 : decode cX0_dayBehind 11 = .ok (.iconst (-1), 1) := by decide +kernel
theorem dX0_dayBehind_12 : decode cX0_dayBehind 12 = .ok (.goto 6, 3) := by decide +kernel
theorem dX0_dayBehind_15 : decode cX0_dayBehind 15 = .ok (.iload_n 2, 1) := by decide +kernel
theorem dX0_dayBehind_16 : decode cX0_dayBehind 16 = .ok (.iconst 1, 1) := by decide +kernel
theorem dX0_dayBehind_17 : decode cX0_dayBehind 17 = .ok (.iadd, 1) := by decide +kernel
theorem dX0_dayBehind_18 : decode cX0_dayBehind 18 = .ok (.ireturn, 1) := by decide +kernel
theorem dX0_greatestEnd_0 : decode cX0_greatestEnd 0 = .ok (.iconst (-1), 1) := by decide +kernel
theorem dX0_greatestEnd_1 : decode cX0_greatestEnd 1 = .ok (.istore_n 2, 1) := by decide +kernel
theorem dX0_greatestEnd_2 : decode cX0_greatestEnd 2 = .ok (.iconst 0, 1) := by decide +kernel
theorem dX0_greatestEnd_3 : decode cX0_greatestEnd 3 = .ok (.istore_n 3, 1) := by decide +kernel
theorem dX0_greatestEnd_4 : decode cX0_greatestEnd 4 = .ok (.iload_n 3, 1) := by decide +kernel
theorem dX0_greatestEnd_5 : decode cX0_greatestEnd 5 = .ok (.bipush 12, 2) := by decide +kernel
theorem dX0_greatestEnd_7 : decode cX0_greatestEnd 7 = .ok (.if_icmp .ge 40, 3) := by decide +kernel
theorem dX0_greatestEnd_10 : decode cX0_greatestEnd 10 = .ok (.iload_n 1, 1) := by decide +kernel
theorem dX0_greatestEnd_11 : decode cX0_greatestEnd 11 = .ok (.iload_n 3, 1) := by decide +kernel
theorem dX0_greatestEnd_12 : decode cX0_greatestEnd 12 = .ok (.invokestatic 73, 3) := by decide +kernel
theorem dX0_greatestEnd_15 : decode cX0_greatestEnd 15 = .ok (.ifCond .eq 26, 3) := by decide +kernel
theorem dX0_greatestEnd_18 : decode cX0_greatestEnd 18 = .ok (.aload_n 0, 1) := by decide +kernel
theorem dX0_greatestEnd_19 : decode cX0_greatestEnd 19 = .ok (.getfield 18, 3) := by decide +kernel
theorem dX0_greatestEnd_22 : decode cX0_greatestEnd 22 = .ok (.iload_n 3, 1) := by decide +kernel
theorem dX0_greatestEnd_23 : decode cX0_greatestEnd 23 = .ok (.iaload, 1) := by decide +kernel
theorem dX0_greatestEnd_24 : decode cX0_greatestEnd 24 = .ok (.iconst (-1), 1) := by decide +kernel
theorem dX0_greatestEnd_25 : decode cX0_greatestEnd 25 = .ok (.if_icmp .ne 5, 3) := by decide +kernel
theorem dX0_greatestEnd_28 : decode cX0_greatestEnd 28 = .ok (.iconst (-1), 1) := by decide +kernel
theorem dX0_greatestEnd_29 : decode cX0_greatestEnd 29 = .ok (.ireturn, 1) := by decide +kernel
theorem dX0_greatestEnd_30 : decode cX0_greatestEnd 30 = .ok (.iload_n 2, 1) := by decide +kernel
theorem dX0_greatestEnd_31 : decode cX0_greatestEnd 31 = .ok (.aload_n 0, 1) := by decide +kernel
theorem dX0_greatestEnd_32 : decode cX0_greatestEnd 32 = .ok (.getfield 18, 3) := by decide +kernel
theorem dX0_greatestEnd_35 : decode cX0_greatestEnd 35 = .ok (.iload_n 3, 1) := by decide +kernel
theorem dX0_greatestEnd_36 : decode cX0_greatestEnd 36 = .ok (.iaload, 1) := by decide +kernel
theorem dX0_greatestEnd_37 : decode cX0_greatestEnd 37 = .ok (.invokestatic 84, 3) := by decide +kernel
theorem dX0_greatestEnd_40 : decode cX0_greatestEnd 40 = .ok (.istore_n 2, 1) := by decide +kernel
theorem dX0_greatestEnd_41 : decode cX0_greatestEnd 41 = .ok (.iinc 3 1, 3) := by decide +kernel
theorem dX0_greatestEnd_44 : decode cX0_greatestEnd 44 = .ok (.goto (-40), 3) := by decide +kernel
theorem dX0_greatestEnd_47 : decode cX0_greatestEnd 47 = .ok (.iload_n 2, 1) := by decide +kernel
theorem dX0_greatestEnd_48 : decode cX0_greatestEnd 48 = .ok (.ireturn, 1) := by decide +kernel
theorem dX1_init_0 : decode cX1_init 0 = .ok (.aload_n 0, 1) := by decide +kernel
theorem dX1_init_1 : decode cX1_init 1 = .ok (.invokespecial 3, 3) := by decide +kernel
theorem dX1_init_4 : decode cX1_init 4 = .ok (.aload_n 0, 1) := by decide +kernel
theorem dX1_init_5 : decode cX1_init 5 = .ok (.bipush 12, 2) := by decide +kernel
theorem dX1_init_7 : decode cX1_init 7 = .ok (.newarray .int, 2) := by decide +kernel
theorem dX1_init_9 : decode cX1_init 9 = .ok (.putfield 9, 3) := by decide +kernel
theorem dX1_init_12 : decode cX1_init 12 = .ok (.aload_n 0, 1) := by decide +kernel
theorem dX1_init_13 : decode cX1_init 13 = .ok (.bipush 12, 2) := by decide +kernel
theorem dX1_init_15 : decode cX1_init 15 = .ok (.newarray .int, 2) := by decide +kernel
theorem dX1_init_17 : decode cX1_init 17 = .ok (.putfield 15, 3) := by decide +kernel
theorem dX1_init_20 : decode cX1_init 20 = .ok (.aload_n 0, 1) := by decide +kernel
theorem dX1_init_21 : decode cX1_init 21 = .ok (.bipush 12, 2) := by decide +kernel
theorem dX1_init_23 : decode cX1_init 23 = .ok (.newarray .int, 2) := by decide +kernel
theorem dX1_init_25 : decode cX1_init 25 = .ok (.putfield 18, 3) := by decide +kernel
theorem dX1_init_28 : decode cX1_init 28 = .ok (.aload_n 0, 1) := by decide +kernel
theorem dX1_init_29 : decode cX1_init 29 = .ok (.bipush 12, 2) := by decide +kernel
theorem dX1_init_31 : decode cX1_init 31 = .ok (.newarray .int, 2) := by decide +kernel
theorem dX1_init_33 : decode cX1_init 33 = .ok (.putfield 21, 3) := by decide +kernel
theorem dX1_init_36 : decode cX1_init 36 = .ok (.aload_n 0, 1) := by decide +kernel
theorem dX1_init_37 : decode cX1_init 37 = .ok (.bipush 12, 2) := by decide +kernel
theorem dX1_init_39 : decode cX1_init 39 = .ok (.newarray .int, 2) := by decide +kernel
theorem dX1_init_41 : decode cX1_init 41 = .ok (.putfield 24, 3) := by decide +kernel
theorem dX1_init_44 : decode cX1_init 44 = .ok (.iconst 0, 1) := by decide +kernel
theorem dX1_init_45 : decode cX1_init 45 = .ok (.istore_n 1, 1) := by decide +kernel
theorem dX1_init_46 : decode cX1_init 46 = .ok (.iload_n 1, 1) := by decide +kernel
theorem dX1_init_47 : decode cX1_init 47 = .ok (.bipush 12, 2) := by decide +kernel
theorem dX1_init_49 : decode cX1_init 49 = .ok (.if_icmp .ge 16, 3) := by decide +kernel
theorem dX1_init_52 : decode cX1_init 52 = .ok (.aload_n 0, 1) := by decide +kernel
theorem dX1_init_53 : decode cX1_init 53 = .ok (.getfield 21, 3) := by decide +kernel
theorem dX1_init_56 : decode cX1_init 56 = .ok (.iload_n 1, 1) := by decide +kernel
theorem dX1_init_57 : decode cX1_init 57 = .ok (.iconst (-1), 1) := by decide +kernel
theorem dX1_init_58 : decode cX1_init 58 = .ok (.iastore, 1) := by decide +kernel
theorem dX1_init_59 : decode cX1_init 59 = .ok (.iinc 1 1, 3) := by decide +kernel
theorem dX1_init_62 : decode cX1_init 62 = .ok (.goto (-16), 3) := by decide +kernel
theorem dX1_init_65 : decode cX1_init 65 = .ok (.return_, 1) := by decide +kernel
theorem dX1_isIn_0 : decode cX1_isIn 0 = .ok (.iload_n 1, 1) := by decide +kernel
theorem dX1_isIn_1 : decode cX1_isIn 1 = .ok (.ifCond .lt 34, 3) := by decide +kernel
theorem dX1_isIn_4 : decode cX1_isIn 4 = .ok (.iload_n 1, 1) := by decide +kernel
theorem dX1_isIn_5 : decode cX1_isIn 5 = .ok (.bipush 12, 2) := by decide +kernel
theorem dX1_isIn_7 : decode cX1_isIn 7 = .ok (.if_icmp .ge 28, 3) := by decide +kernel
theorem dX1_isIn_10 : decode cX1_isIn 10 = .ok (.aload_n 0, 1) := by decide +kernel
theorem dX1_isIn_11 : decode cX1_isIn 11 = .ok (.getfield 27, 3) := by decide +kernel
theorem dX1_isIn_14 : decode cX1_isIn 14 = .ok (.iload_n 1, 1) := by decide +kernel
theorem dX1_isIn_15 : decode cX1_isIn 15 = .ok (.invokestatic 31, 3) := by decide +kernel
theorem dX1_isIn_18 : decode cX1_isIn 18 = .ok (.ifCond .eq 17, 3) := by decide +kernel
theorem dX1_isIn_21 : decode cX1_isIn 21 = .ok (.aload_n 0, 1) := by decide +kernel
theorem dX1_isIn_22 : decode cX1_isIn 22 = .ok (.getfield 9, 3) := by decide +kernel
theorem dX1_isIn_25 : decode cX1_isIn 25 = .ok (.iload_n 1, 1) := by decide +kernel
theorem dX1_isIn_26 : decode cX1_isIn 26 = .ok (.iaload, 1) := by decide +kernel
theorem dX1_isIn_27 : decode cX1_isIn 27 = .ok (.iload_n 2, 1) := by decide +kernel
theorem dX1_isIn_28 : decode cX1_isIn 28 = .ok (.if_icmp .ne 7, 3) := by decide +kernel
theorem dX1_isIn_31 : decode cX1_isIn 31 = .ok (.iconst 1, 1) := by decide +kernel
theorem dX1_isIn_32 : decode cX1_isIn 32 = .ok (.goto 4, 3) := by decide +kernel
theorem dX1_isIn_35 : decode cX1_isIn 35 = .ok (.iconst 0, 1) := by decide +kernel
theorem dX1_isIn_36 : decode cX1_isIn 36 = .ok (.ireturn, 1) := by decide +kernel
theorem dX1_stepsIn_0 : decode cX1_stepsIn 0 = .ok (.iconst 0, 1) := by decide +kernel
theorem dX1_stepsIn_1 : decode cX1_stepsIn 1 = .ok (.istore_n 2, 1) := by decide +kernel
theorem dX1_stepsIn_2 : decode cX1_stepsIn 2 = .ok (.iconst 0, 1) := by decide +kernel
theorem dX1_stepsIn_3 : decode cX1_stepsIn 3 = .ok (.istore_n 3, 1) := by decide +kernel
theorem dX1_stepsIn_4 : decode cX1_stepsIn 4 = .ok (.iload_n 3, 1) := by decide +kernel
theorem dX1_stepsIn_5 : decode cX1_stepsIn 5 = .ok (.bipush 12, 2) := by decide +kernel
theorem dX1_stepsIn_7 : decode cX1_stepsIn 7 = .ok (.if_icmp .ge 25, 3) := by decide +kernel
theorem dX1_stepsIn_10 : decode cX1_stepsIn 10 = .ok (.aload_n 0, 1) := by decide +kernel
theorem dX1_stepsIn_11 : decode cX1_stepsIn 11 = .ok (.getfield 9, 3) := by decide +kernel
theorem dX1_stepsIn_14 : decode cX1_stepsIn 14 = .ok (.iload_n 3, 1) := by decide +kernel
theorem dX1_stepsIn_15 : decode cX1_stepsIn 15 = .ok (.iaload, 1) := by decide +kernel
theorem dX1_stepsIn_16 : decode cX1_stepsIn 16 = .ok (.iload_n 1, 1) := by decide +kernel
theorem dX1_stepsIn_17 : decode cX1_stepsIn 17 = .ok (.if_icmp .ne 9, 3) := by decide +kernel
theorem dX1_stepsIn_20 : decode cX1_stepsIn 20 = .ok (.iload_n 2, 1) := by decide +kernel
theorem dX1_stepsIn_21 : decode cX1_stepsIn 21 = .ok (.iconst 1, 1) := by decide +kernel
theorem dX1_stepsIn_22 : decode cX1_stepsIn 22 = .ok (.iload_n 3, 1) := by decide +kernel
theorem dX1_stepsIn_23 : decode cX1_stepsIn 23 = .ok (.ishl, 1) := by decide +kernel
theorem dX1_stepsIn_24 : decode cX1_stepsIn 24 = .ok (.ior, 1) := by decide +kernel
theorem dX1_stepsIn_25 : decode cX1_stepsIn 25 = .ok (.istore_n 2, 1) := by decide +kernel
theorem dX1_stepsIn_26 : decode cX1_stepsIn 26 = .ok (.iinc 3 1, 3) := by decide +kernel
theorem dX1_stepsIn_29 : decode cX1_stepsIn 29 = .ok (.goto (-25), 3) := by decide +kernel
theorem dX1_stepsIn_32 : decode cX1_stepsIn 32 = .ok (.iload_n 2, 1) := by decide +kernel
theorem dX1_stepsIn_33 : decode cX1_stepsIn 33 = .ok (.aload_n 0, 1) := by decide +kernel
theorem dX1_stepsIn_34 : decode cX1_stepsIn 34 = .ok (.getfield 27, 3) := by decide +kernel
theorem dX1_stepsIn_37 : decode cX1_stepsIn 37 = .ok (.iand, 1) := by decide +kernel
theorem dX1_stepsIn_38 : decode cX1_stepsIn 38 = .ok (.ireturn, 1) := by decide +kernel
theorem dX1_countIn_0 : decode cX1_countIn 0 = .ok (.aload_n 0, 1) := by decide +kernel
theorem dX1_countIn_1 : decode cX1_countIn 1 = .ok (.iload_n 1, 1) := by decide +kernel
theorem dX1_countIn_2 : decode cX1_countIn 2 = .ok (.invokevirtual 35, 3) := by decide +kernel
theorem dX1_countIn_5 : decode cX1_countIn 5 = .ok (.invokestatic 39, 3) := by decide +kernel
theorem dX1_countIn_8 : decode cX1_countIn 8 = .ok (.ireturn, 1) := by decide +kernel
theorem dX1_finishSteps_0 : decode cX1_finishSteps 0 = .ok (.aload_n 0, 1) := by decide +kernel
theorem dX1_finishSteps_1 : decode cX1_finishSteps 1 = .ok (.getfield 44, 3) := by decide +kernel
theorem dX1_finishSteps_4 : decode cX1_finishSteps 4 = .ok (.ifCond .eq 5, 3) := by decide +kernel
theorem dX1_finishSteps_7 : decode cX1_finishSteps 7 = .ok (.iconst 0, 1) := by decide +kernel
theorem dX1_finishSteps_8 : decode cX1_finishSteps 8 = .ok (.ireturn, 1) := by decide +kernel
theorem dX1_finishSteps_9 : decode cX1_finishSteps 9 = .ok (.iconst 0, 1) := by decide +kernel
theorem dX1_finishSteps_10 : decode cX1_finishSteps 10 = .ok (.istore_n 2, 1) := by decide +kernel
theorem dX1_finishSteps_11 : decode cX1_finishSteps 11 = .ok (.iconst 0, 1) := by decide +kernel
theorem dX1_finishSteps_12 : decode cX1_finishSteps 12 = .ok (.istore_n 3, 1) := by decide +kernel
theorem dX1_finishSteps_13 : decode cX1_finishSteps 13 = .ok (.iload_n 3, 1) := by decide +kernel
theorem dX1_finishSteps_14 : decode cX1_finishSteps 14 = .ok (.bipush 12, 2) := by decide +kernel
theorem dX1_finishSteps_16 : decode cX1_finishSteps 16 = .ok (.if_icmp .ge 46, 3) := by decide +kernel
theorem dX1_finishSteps_19 : decode cX1_finishSteps 19 = .ok (.aload_n 0, 1) := by decide +kernel
theorem dX1_finishSteps_20 : decode cX1_finishSteps 20 = .ok (.getfield 9, 3) := by decide +kernel
theorem dX1_finishSteps_23 : decode cX1_finishSteps 23 = .ok (.iload_n 3, 1) := by decide +kernel
theorem dX1_finishSteps_24 : decode cX1_finishSteps 24 = .ok (.iaload, 1) := by decide +kernel
theorem dX1_finishSteps_25 : decode cX1_finishSteps 25 = .ok (.iconst 1, 1) := by decide +kernel
theorem dX1_finishSteps_26 : decode cX1_finishSteps 26 = .ok (.if_icmp .ne 30, 3) := by decide +kernel
theorem dX1_finishSteps_29 : decode cX1_finishSteps 29 = .ok (.aload_n 0, 1) := by decide +kernel
theorem dX1_finishSteps_30 : decode cX1_finishSteps 30 = .ok (.getfield 15, 3) := by decide +kernel
theorem dX1_finishSteps_33 : decode cX1_finishSteps 33 = .ok (.iload_n 3, 1) := by decide +kernel
theorem dX1_finishSteps_34 : decode cX1_finishSteps 34 = .ok (.iaload, 1) := by decide +kernel
theorem dX1_finishSteps_35 : decode cX1_finishSteps 35 = .ok (.aload_n 0, 1) := by decide +kernel
theorem dX1_finishSteps_36 : decode cX1_finishSteps 36 = .ok (.getfield 18, 3) := by decide +kernel
theorem dX1_finishSteps_39 : decode cX1_finishSteps 39 = .ok (.iload_n 3, 1) := by decide +kernel
theorem dX1_finishSteps_40 : decode cX1_finishSteps 40 = .ok (.iaload, 1) := by decide +kernel
theorem dX1_finishSteps_41 : decode cX1_finishSteps 41 = .ok (.iadd, 1) := by decide +kernel
theorem dX1_finishSteps_42 : decode cX1_finishSteps 42 = .ok (.iload_n 1, 1) := by decide +kernel
theorem dX1_finishSteps_43 : decode cX1_finishSteps 43 = .ok (.if_icmp .gt 13, 3) := by decide +kernel
theorem dX1_finishSteps_46 : decode cX1_finishSteps 46 = .ok (.aload_n 0, 1) := by decide +kernel
theorem dX1_finishSteps_47 : decode cX1_finishSteps 47 = .ok (.getfield 9, 3) := by decide +kernel
theorem dX1_finishSteps_50 : decode cX1_finishSteps 50 = .ok (.iload_n 3, 1) := by decide +kernel
theorem dX1_finishSteps_51 : decode cX1_finishSteps 51 = .ok (.iconst 2, 1) := by decide +kernel
theorem dX1_finishSteps_52 : decode cX1_finishSteps 52 = .ok (.iastore, 1) := by decide +kernel
theorem dX1_finishSteps_53 : decode cX1_finishSteps 53 = .ok (.iinc 2 1, 3) := by decide +kernel
theorem dX1_finishSteps_56 : decode cX1_finishSteps 56 = .ok (.iinc 3 1, 3) := by decide +kernel
theorem dX1_finishSteps_59 : decode cX1_finishSteps 59 = .ok (.goto (-46), 3) := by decide +kernel
theorem dX1_finishSteps_62 : decode cX1_finishSteps 62 = .ok (.iload_n 2, 1) := by decide +kernel
theorem dX1_finishSteps_63 : decode cX1_finishSteps 63 = .ok (.ireturn, 1) := by decide +kernel
theorem dX1_lastBegun_0 : decode cX1_lastBegun 0 = .ok (.iconst (-1), 1) := by decide +kernel
theorem dX1_lastBegun_1 : decode cX1_lastBegun 1 = .ok (.istore_n 1, 1) := by decide +kernel
theorem dX1_lastBegun_2 : decode cX1_lastBegun 2 = .ok (.iconst (-1), 1) := by decide +kernel
theorem dX1_lastBegun_3 : decode cX1_lastBegun 3 = .ok (.istore_n 2, 1) := by decide +kernel
theorem dX1_lastBegun_4 : decode cX1_lastBegun 4 = .ok (.iconst 0, 1) := by decide +kernel
theorem dX1_lastBegun_5 : decode cX1_lastBegun 5 = .ok (.istore_n 3, 1) := by decide +kernel
theorem dX1_lastBegun_6 : decode cX1_lastBegun 6 = .ok (.iload_n 3, 1) := by decide +kernel
theorem dX1_lastBegun_7 : decode cX1_lastBegun 7 = .ok (.bipush 12, 2) := by decide +kernel
theorem dX1_lastBegun_9 : decode cX1_lastBegun 9 = .ok (.if_icmp .ge 60, 3) := by decide +kernel
theorem dX1_lastBegun_12 : decode cX1_lastBegun 12 = .ok (.aload_n 0, 1) := by decide +kernel
theorem dX1_lastBegun_13 : decode cX1_lastBegun 13 = .ok (.getfield 9, 3) := by decide +kernel
theorem dX1_lastBegun_16 : decode cX1_lastBegun 16 = .ok (.iload_n 3, 1) := by decide +kernel
theorem dX1_lastBegun_17 : decode cX1_lastBegun 17 = .ok (.iaload, 1) := by decide +kernel
theorem dX1_lastBegun_18 : decode cX1_lastBegun 18 = .ok (.iconst 1, 1) := by decide +kernel
theorem dX1_lastBegun_19 : decode cX1_lastBegun 19 = .ok (.if_icmp .eq 13, 3) := by decide +kernel
theorem dX1_lastBegun_22 : decode cX1_lastBegun 22 = .ok (.aload_n 0, 1) := by decide +kernel
theorem dX1_lastBegun_23 : decode cX1_lastBegun 23 = .ok (.getfield 9, 3) := by decide +kernel
theorem dX1_lastBegun_26 : decode cX1_lastBegun 26 = .ok (.iload_n 3, 1) := by decide +kernel
theorem dX1_lastBegun_27 : decode cX1_lastBegun 27 = .ok (.iaload, 1) := by decide +kernel
theorem dX1_lastBegun_28 : decode cX1_lastBegun 28 = .ok (.iconst 2, 1) := by decide +kernel
theorem dX1_lastBegun_29 : decode cX1_lastBegun 29 = .ok (.if_icmp .ne 7, 3) := by decide +kernel
theorem dX1_lastBegun_32 : decode cX1_lastBegun 32 = .ok (.iconst 1, 1) := by decide +kernel
theorem dX1_lastBegun_33 : decode cX1_lastBegun 33 = .ok (.goto 4, 3) := by decide +kernel
theorem dX1_lastBegun_36 : decode cX1_lastBegun 36 = .ok (.iconst 0, 1) := by decide +kernel
theorem dX1_lastBegun_37 : decode cX1_lastBegun 37 = .ok (.istore 4, 2) := by decide +kernel
theorem dX1_lastBegun_39 : decode cX1_lastBegun 39 = .ok (.iload 4, 2) := by decide +kernel
theorem dX1_lastBegun_41 : decode cX1_lastBegun 41 = .ok (.ifCond .eq 22, 3) := by decide +kernel
theorem dX1_lastBegun_44 : decode cX1_lastBegun 44 = .ok (.aload_n 0, 1) := by decide +kernel
theorem dX1_lastBegun_45 : decode cX1_lastBegun 45 = .ok (.getfield 15, 3) := by decide +kernel
theorem dX1_lastBegun_48 : decode cX1_lastBegun 48 = .ok (.iload_n 3, 1) := by decide +kernel
theorem dX1_lastBegun_49 : decode cX1_lastBegun 49 = .ok (.iaload, 1) := by decide +kernel
theorem dX1_lastBegun_50 : decode cX1_lastBegun 50 = .ok (.iload_n 2, 1) := by decide +kernel
theorem dX1_lastBegun_51 : decode cX1_lastBegun 51 = .ok (.if_icmp .lt 12, 3) := by decide +kernel
theorem dX1_lastBegun_54 : decode cX1_lastBegun 54 = .ok (.iload_n 3, 1) := by decide +kernel
theorem dX1_lastBegun_55 : decode cX1_lastBegun 55 = .ok (.istore_n 1, 1) := by decide +kernel
theorem dX1_lastBegun_56 : decode cX1_lastBegun 56 = .ok (.aload_n 0, 1) := by decide +kernel
theorem dX1_lastBegun_57 : decode cX1_lastBegun 57 = .ok (.getfield 15, 3) := by decide +kernel
theorem dX1_lastBegun_60 : decode cX1_lastBegun 60 = .ok (.iload_n 3, 1) := by decide +kernel
theorem dX1_lastBegun_61 : decode cX1_lastBegun 61 = .ok (.iaload, 1) := by decide +kernel
theorem dX1_lastBegun_62 : decode cX1_lastBegun 62 = .ok (.istore_n 2, 1) := by decide +kernel
theorem dX1_lastBegun_63 : decode cX1_lastBegun 63 = .ok (.iinc 3 1, 3) := by decide +kernel
theorem dX1_lastBegun_66 : decode cX1_lastBegun 66 = .ok (.goto (-60), 3) := by decide +kernel
theorem dX1_lastBegun_69 : decode cX1_lastBegun 69 = .ok (.iload_n 1, 1) := by decide +kernel
theorem dX1_lastBegun_70 : decode cX1_lastBegun 70 = .ok (.ireturn, 1) := by decide +kernel
theorem dX2_init_0 : decode cX2_init 0 = .ok (.aload_n 0, 1) := by decide +kernel
theorem dX2_init_1 : decode cX2_init 1 = .ok (.invokespecial 3, 3) := by decide +kernel
theorem dX2_init_4 : decode cX2_init 4 = .ok (.aload_n 0, 1) := by decide +kernel
theorem dX2_init_5 : decode cX2_init 5 = .ok (.bipush 12, 2) := by decide +kernel
theorem dX2_init_7 : decode cX2_init 7 = .ok (.newarray .int, 2) := by decide +kernel
theorem dX2_init_9 : decode cX2_init 9 = .ok (.putfield 9, 3) := by decide +kernel
theorem dX2_init_12 : decode cX2_init 12 = .ok (.aload_n 0, 1) := by decide +kernel
theorem dX2_init_13 : decode cX2_init 13 = .ok (.bipush 12, 2) := by decide +kernel
theorem dX2_init_15 : decode cX2_init 15 = .ok (.newarray .int, 2) := by decide +kernel
theorem dX2_init_17 : decode cX2_init 17 = .ok (.putfield 15, 3) := by decide +kernel
theorem dX2_init_20 : decode cX2_init 20 = .ok (.aload_n 0, 1) := by decide +kernel
theorem dX2_init_21 : decode cX2_init 21 = .ok (.bipush 12, 2) := by decide +kernel
theorem dX2_init_23 : decode cX2_init 23 = .ok (.newarray .int, 2) := by decide +kernel
theorem dX2_init_25 : decode cX2_init 25 = .ok (.putfield 18, 3) := by decide +kernel
theorem dX2_init_28 : decode cX2_init 28 = .ok (.aload_n 0, 1) := by decide +kernel
theorem dX2_init_29 : decode cX2_init 29 = .ok (.bipush 12, 2) := by decide +kernel
theorem dX2_init_31 : decode cX2_init 31 = .ok (.newarray .int, 2) := by decide +kernel
theorem dX2_init_33 : decode cX2_init 33 = .ok (.putfield 21, 3) := by decide +kernel
theorem dX2_init_36 : decode cX2_init 36 = .ok (.aload_n 0, 1) := by decide +kernel
theorem dX2_init_37 : decode cX2_init 37 = .ok (.iconst 4, 1) := by decide +kernel
theorem dX2_init_38 : decode cX2_init 38 = .ok (.newarray .int, 2) := by decide +kernel
theorem dX2_init_40 : decode cX2_init 40 = .ok (.putfield 24, 3) := by decide +kernel
theorem dX2_init_43 : decode cX2_init 43 = .ok (.aload_n 0, 1) := by decide +kernel
theorem dX2_init_44 : decode cX2_init 44 = .ok (.bipush 6, 2) := by decide +kernel
theorem dX2_init_46 : decode cX2_init 46 = .ok (.newarray .int, 2) := by decide +kernel
theorem dX2_init_48 : decode cX2_init 48 = .ok (.putfield 27, 3) := by decide +kernel
theorem dX2_init_51 : decode cX2_init 51 = .ok (.return_, 1) := by decide +kernel
theorem dX2_knows_0 : decode cX2_knows 0 = .ok (.iload_n 1, 1) := by decide +kernel
theorem dX2_knows_1 : decode cX2_knows 1 = .ok (.ifCond .lt 16, 3) := by decide +kernel
theorem dX2_knows_4 : decode cX2_knows 4 = .ok (.iload_n 1, 1) := by decide +kernel
theorem dX2_knows_5 : decode cX2_knows 5 = .ok (.aload_n 0, 1) := by decide +kernel
theorem dX2_knows_6 : decode cX2_knows 6 = .ok (.getfield 30, 3) := by decide +kernel
theorem dX2_knows_9 : decode cX2_knows 9 = .ok (.ishr, 1) := by decide +kernel
theorem dX2_knows_10 : decode cX2_knows 10 = .ok (.ifCond .ne 7, 3) := by decide +kernel
theorem dX2_knows_13 : decode cX2_knows 13 = .ok (.iconst 1, 1) := by decide +kernel
theorem dX2_knows_14 : decode cX2_knows 14 = .ok (.goto 4, 3) := by decide +kernel
theorem dX2_knows_17 : decode cX2_knows 17 = .ok (.iconst 0, 1) := by decide +kernel
theorem dX2_knows_18 : decode cX2_knows 18 = .ok (.ireturn, 1) := by decide +kernel
theorem dX2_addStep_0 : decode cX2_addStep 0 = .ok (.aload_n 0, 1) := by decide +kernel
theorem dX2_addStep_1 : decode cX2_addStep 1 = .ok (.getfield 30, 3) := by decide +kernel
theorem dX2_addStep_4 : decode cX2_addStep 4 = .ok (.bipush 12, 2) := by decide +kernel
theorem dX2_addStep_6 : decode cX2_addStep 6 = .ok (.if_icmp .lt 5, 3) := by decide +kernel
theorem dX2_addStep_9 : decode cX2_addStep 9 = .ok (.iconst (-1), 1) := by decide +kernel
theorem dX2_addStep_10 : decode cX2_addStep 10 = .ok (.ireturn, 1) := by decide +kernel
theorem dX2_addStep_11 : decode cX2_addStep 11 = .ok (.aload_n 0, 1) := by decide +kernel
theorem dX2_addStep_12 : decode cX2_addStep 12 = .ok (.getfield 9, 3) := by decide +kernel
theorem dX2_addStep_15 : decode cX2_addStep 15 = .ok (.aload_n 0, 1) := by decide +kernel
theorem dX2_addStep_16 : decode cX2_addStep 16 = .ok (.getfield 30, 3) := by decide +kernel
theorem dX2_addStep_19 : decode cX2_addStep 19 = .ok (.iload_n 1, 1) := by decide +kernel
theorem dX2_addStep_20 : decode cX2_addStep 20 = .ok (.iastore, 1) := by decide +kernel
theorem dX2_addStep_21 : decode cX2_addStep 21 = .ok (.aload_n 0, 1) := by decide +kernel
theorem dX2_addStep_22 : decode cX2_addStep 22 = .ok (.getfield 15, 3) := by decide +kernel
theorem dX2_addStep_25 : decode cX2_addStep 25 = .ok (.aload_n 0, 1) := by decide +kernel
theorem dX2_addStep_26 : decode cX2_addStep 26 = .ok (.getfield 30, 3) := by decide +kernel
theorem dX2_addStep_29 : decode cX2_addStep 29 = .ok (.iload_n 2, 1) := by decide +kernel
theorem dX2_addStep_30 : decode cX2_addStep 30 = .ok (.iastore, 1) := by decide +kernel
theorem dX2_addStep_31 : decode cX2_addStep 31 = .ok (.aload_n 0, 1) := by decide +kernel
theorem dX2_addStep_32 : decode cX2_addStep 32 = .ok (.getfield 18, 3) := by decide +kernel
theorem dX2_addStep_35 : decode cX2_addStep 35 = .ok (.aload_n 0, 1) := by decide +kernel
theorem dX2_addStep_36 : decode cX2_addStep 36 = .ok (.getfield 30, 3) := by decide +kernel
theorem dX2_addStep_39 : decode cX2_addStep 39 = .ok (.iload_n 3, 1) := by decide +kernel
theorem dX2_addStep_40 : decode cX2_addStep 40 = .ok (.iastore, 1) := by decide +kernel
theorem dX2_addStep_41 : decode cX2_addStep 41 = .ok (.aload_n 0, 1) := by decide +kernel
theorem dX2_addStep_42 : decode cX2_addStep 42 = .ok (.getfield 21, 3) := by decide +kernel
theorem dX2_addStep_45 : decode cX2_addStep 45 = .ok (.aload_n 0, 1) := by decide +kernel
theorem dX2_addStep_46 : decode cX2_addStep 46 = .ok (.getfield 30, 3) := by decide +kernel
theorem dX2_addStep_49 : decode cX2_addStep 49 = .ok (.iload 4, 2) := by decide +kernel
theorem dX2_addStep_51 : decode cX2_addStep 51 = .ok (.iastore, 1) := by decide +kernel
theorem dX2_addStep_52 : decode cX2_addStep 52 = .ok (.aload_n 0, 1) := by decide +kernel
theorem dX2_addStep_53 : decode cX2_addStep 53 = .ok (.dup, 1) := by decide +kernel
theorem dX2_addStep_54 : decode cX2_addStep 54 = .ok (.getfield 30, 3) := by decide +kernel
theorem dX2_addStep_57 : decode cX2_addStep 57 = .ok (.iconst 1, 1) := by decide +kernel
theorem dX2_addStep_58 : decode cX2_addStep 58 = .ok (.iadd, 1) := by decide +kernel
theorem dX2_addStep_59 : decode cX2_addStep 59 = .ok (.putfield 30, 3) := by decide +kernel
theorem dX2_addStep_62 : decode cX2_addStep 62 = .ok (.aload_n 0, 1) := by decide +kernel
theorem dX2_addStep_63 : decode cX2_addStep 63 = .ok (.getfield 30, 3) := by decide +kernel
theorem dX2_addStep_66 : decode cX2_addStep 66 = .ok (.iconst 1, 1) := by decide +kernel
theorem dX2_addStep_67 : decode cX2_addStep 67 = .ok (.isub, 1) := by decide +kernel
theorem dX2_addStep_68 : decode cX2_addStep 68 = .ok (.ireturn, 1) := by decide +kernel
theorem dX2_addRight_0 : decode cX2_addRight 0 = .ok (.aload_n 0, 1) := by decide +kernel
theorem dX2_addRight_1 : decode cX2_addRight 1 = .ok (.getfield 34, 3) := by decide +kernel
theorem dX2_addRight_4 : decode cX2_addRight 4 = .ok (.bipush 6, 2) := by decide +kernel
theorem dX2_addRight_6 : decode cX2_addRight 6 = .ok (.if_icmp .lt 5, 3) := by decide +kernel
theorem dX2_addRight_9 : decode cX2_addRight 9 = .ok (.iconst (-1), 1) := by decide +kernel
theorem dX2_addRight_10 : decode cX2_addRight 10 = .ok (.ireturn, 1) := by decide +kernel
theorem dX2_addRight_11 : decode cX2_addRight 11 = .ok (.aload_n 0, 1) := by decide +kernel
theorem dX2_addRight_12 : decode cX2_addRight 12 = .ok (.getfield 27, 3) := by decide +kernel
theorem dX2_addRight_15 : decode cX2_addRight 15 = .ok (.aload_n 0, 1) := by decide +kernel
theorem dX2_addRight_16 : decode cX2_addRight 16 = .ok (.getfield 34, 3) := by decide +kernel
theorem dX2_addRight_19 : decode cX2_addRight 19 = .ok (.iload_n 1, 1) := by decide +kernel
theorem dX2_addRight_20 : decode cX2_addRight 20 = .ok (.iastore, 1) := by decide +kernel
theorem dX2_addRight_21 : decode cX2_addRight 21 = .ok (.aload_n 0, 1) := by decide +kernel
theorem dX2_addRight_22 : decode cX2_addRight 22 = .ok (.dup, 1) := by decide +kernel
theorem dX2_addRight_23 : decode cX2_addRight 23 = .ok (.getfield 34, 3) := by decide +kernel
theorem dX2_addRight_26 : decode cX2_addRight 26 = .ok (.iconst 1, 1) := by decide +kernel
theorem dX2_addRight_27 : decode cX2_addRight 27 = .ok (.iadd, 1) := by decide +kernel
theorem dX2_addRight_28 : decode cX2_addRight 28 = .ok (.putfield 34, 3) := by decide +kernel
theorem dX2_addRight_31 : decode cX2_addRight 31 = .ok (.aload_n 0, 1) := by decide +kernel
theorem dX2_addRight_32 : decode cX2_addRight 32 = .ok (.getfield 34, 3) := by decide +kernel
theorem dX2_addRight_35 : decode cX2_addRight 35 = .ok (.iconst 1, 1) := by decide +kernel
theorem dX2_addRight_36 : decode cX2_addRight 36 = .ok (.isub, 1) := by decide +kernel
theorem dX2_addRight_37 : decode cX2_addRight 37 = .ok (.ireturn, 1) := by decide +kernel
theorem dX2_needsAreDone_0 : decode cX2_needsAreDone 0 = .ok (.iload_n 2, 1) := by decide +kernel
theorem dX2_needsAreDone_1 : decode cX2_needsAreDone 1 = .ok (.ifCond .lt 9, 3) := by decide +kernel
theorem dX2_needsAreDone_4 : decode cX2_needsAreDone 4 = .ok (.iload_n 2, 1) := by decide +kernel
theorem dX2_needsAreDone_5 : decode cX2_needsAreDone 5 = .ok (.bipush 12, 2) := by decide +kernel
theorem dX2_needsAreDone_7 : decode cX2_needsAreDone 7 = .ok (.if_icmp .lt 5, 3) := by decide +kernel
theorem dX2_needsAreDone_10 : decode cX2_needsAreDone 10 = .ok (.iconst 0, 1) := by decide +kernel
theorem dX2_needsAreDone_11 : decode cX2_needsAreDone 11 = .ok (.ireturn, 1) := by decide +kernel
theorem dX2_needsAreDone_12 : decode cX2_needsAreDone 12 = .ok (.aload_n 0, 1) := by decide +kernel
theorem dX2_needsAreDone_13 : decode cX2_needsAreDone 13 = .ok (.getfield 18, 3) := by decide +kernel
theorem dX2_needsAreDone_16 : decode cX2_needsAreDone 16 = .ok (.iload_n 2, 1) := by decide +kernel
theorem dX2_needsAreDone_17 : decode cX2_needsAreDone 17 = .ok (.iaload, 1) := by decide +kernel
theorem dX2_needsAreDone_18 : decode cX2_needsAreDone 18 = .ok (.aload_n 1, 1) := by decide +kernel
theorem dX2_needsAreDone_19 : decode cX2_needsAreDone 19 = .ok (.getfield 37, 3) := by decide +kernel
theorem dX2_needsAreDone_22 : decode cX2_needsAreDone 22 = .ok (.iand, 1) := by decide +kernel
theorem dX2_needsAreDone_23 : decode cX2_needsAreDone 23 = .ok (.aload_n 1, 1) := by decide +kernel
theorem dX2_needsAreDone_24 : decode cX2_needsAreDone 24 = .ok (.iconst 2, 1) := by decide +kernel
theorem dX2_needsAreDone_25 : decode cX2_needsAreDone 25 = .ok (.invokevirtual 42, 3) := by decide +kernel
theorem dX2_needsAreDone_28 : decode cX2_needsAreDone 28 = .ok (.iconst (-1), 1) := by decide +kernel
theorem dX2_needsAreDone_29 : decode cX2_needsAreDone 29 = .ok (.ixor, 1) := by decide +kernel
theorem dX2_needsAreDone_30 : decode cX2_needsAreDone 30 = .ok (.iand, 1) := by decide +kernel
theorem dX2_needsAreDone_31 : decode cX2_needsAreDone 31 = .ok (.ifCond .ne 7, 3) := by decide +kernel
theorem dX2_needsAreDone_34 : decode cX2_needsAreDone 34 = .ok (.iconst 1, 1) := by decide +kernel
theorem dX2_needsAreDone_35 : decode cX2_needsAreDone 35 = .ok (.goto 4, 3) := by decide +kernel
theorem dX2_needsAreDone_38 : decode cX2_needsAreDone 38 = .ok (.iconst 0, 1) := by decide +kernel
theorem dX2_needsAreDone_39 : decode cX2_needsAreDone 39 = .ok (.ireturn, 1) := by decide +kernel
theorem dX2_lengthFor_0 : decode cX2_lengthFor 0 = .ok (.iload_n 2, 1) := by decide +kernel
theorem dX2_lengthFor_1 : decode cX2_lengthFor 1 = .ok (.ifCond .lt 9, 3) := by decide +kernel
theorem dX2_lengthFor_4 : decode cX2_lengthFor 4 = .ok (.iload_n 2, 1) := by decide +kernel
theorem dX2_lengthFor_5 : decode cX2_lengthFor 5 = .ok (.bipush 12, 2) := by decide +kernel
theorem dX2_lengthFor_7 : decode cX2_lengthFor 7 = .ok (.if_icmp .lt 5, 3) := by decide +kernel
theorem dX2_lengthFor_10 : decode cX2_lengthFor 10 = .ok (.iconst (-1), 1) := by decide +kernel
theorem dX2_lengthFor_11 : decode cX2_lengthFor 11 = .ok (.ireturn, 1) := by decide +kernel
theorem dX2_lengthFor_12 : decode cX2_lengthFor 12 = .ok (.aload_n 1, 1) := by decide +kernel
theorem dX2_lengthFor_13 : decode cX2_lengthFor 13 = .ok (.getfield 46, 3) := by decide +kernel
theorem dX2_lengthFor_16 : decode cX2_lengthFor 16 = .ok (.iload_n 2, 1) := by decide +kernel
theorem dX2_lengthFor_17 : decode cX2_lengthFor 17 = .ok (.iaload, 1) := by decide +kernel
theorem dX2_lengthFor_18 : decode cX2_lengthFor 18 = .ok (.ifCond .eq 10, 3) := by decide +kernel
theorem dX2_lengthFor_21 : decode cX2_lengthFor 21 = .ok (.aload_n 1, 1) := by decide +kernel
theorem dX2_lengthFor_22 : decode cX2_lengthFor 22 = .ok (.getfield 49, 3) := by decide +kernel
theorem dX2_lengthFor_25 : decode cX2_lengthFor 25 = .ok (.iload_n 2, 1) := by decide +kernel
theorem dX2_lengthFor_26 : decode cX2_lengthFor 26 = .ok (.iaload, 1) := by decide +kernel
theorem dX2_lengthFor_27 : decode cX2_lengthFor 27 = .ok (.ireturn, 1) := by decide +kernel
theorem dX2_lengthFor_28 : decode cX2_lengthFor 28 = .ok (.aload_n 0, 1) := by decide +kernel
theorem dX2_lengthFor_29 : decode cX2_lengthFor 29 = .ok (.getfield 9, 3) := by decide +kernel
theorem dX2_lengthFor_32 : decode cX2_lengthFor 32 = .ok (.iload_n 2, 1) := by decide +kernel
theorem dX2_lengthFor_33 : decode cX2_lengthFor 33 = .ok (.iaload, 1) := by decide +kernel
theorem dX2_lengthFor_34 : decode cX2_lengthFor 34 = .ok (.ifCond .eq 10, 3) := by decide +kernel
theorem dX2_lengthFor_37 : decode cX2_lengthFor 37 = .ok (.aload_n 0, 1) := by decide +kernel
theorem dX2_lengthFor_38 : decode cX2_lengthFor 38 = .ok (.getfield 15, 3) := by decide +kernel
theorem dX2_lengthFor_41 : decode cX2_lengthFor 41 = .ok (.iload_n 2, 1) := by decide +kernel
theorem dX2_lengthFor_42 : decode cX2_lengthFor 42 = .ok (.iaload, 1) := by decide +kernel
theorem dX2_lengthFor_43 : decode cX2_lengthFor 43 = .ok (.ireturn, 1) := by decide +kernel
theorem dX2_lengthFor_44 : decode cX2_lengthFor 44 = .ok (.aload_n 0, 1) := by decide +kernel
theorem dX2_lengthFor_45 : decode cX2_lengthFor 45 = .ok (.getfield 21, 3) := by decide +kernel
theorem dX2_lengthFor_48 : decode cX2_lengthFor 48 = .ok (.iload_n 2, 1) := by decide +kernel
theorem dX2_lengthFor_49 : decode cX2_lengthFor 49 = .ok (.iaload, 1) := by decide +kernel
theorem dX2_lengthFor_50 : decode cX2_lengthFor 50 = .ok (.istore_n 3, 1) := by decide +kernel
theorem dX2_lengthFor_51 : decode cX2_lengthFor 51 = .ok (.aload_n 1, 1) := by decide +kernel
theorem dX2_lengthFor_52 : decode cX2_lengthFor 52 = .ok (.iconst 2, 1) := by decide +kernel
theorem dX2_lengthFor_53 : decode cX2_lengthFor 53 = .ok (.invokevirtual 42, 3) := by decide +kernel
theorem dX2_lengthFor_56 : decode cX2_lengthFor 56 = .ok (.istore 4, 2) := by decide +kernel
theorem dX2_lengthFor_58 : decode cX2_lengthFor 58 = .ok (.iconst 0, 1) := by decide +kernel
theorem dX2_lengthFor_59 : decode cX2_lengthFor 59 = .ok (.istore 5, 2) := by decide +kernel
theorem dX2_lengthFor_61 : decode cX2_lengthFor 61 = .ok (.iload 5, 2) := by decide +kernel
theorem dX2_lengthFor_63 : decode cX2_lengthFor 63 = .ok (.bipush 12, 2) := by decide +kernel
theorem dX2_lengthFor_65 : decode cX2_lengthFor 65 = .ok (.if_icmp .ge 41, 3) := by decide +kernel
theorem dX2_lengthFor_68 : decode cX2_lengthFor 68 = .ok (.aload_n 0, 1) := by decide +kernel
theorem dX2_lengthFor_69 : decode cX2_lengthFor 69 = .ok (.getfield 9, 3) := by decide +kernel
theorem dX2_lengthFor_72 : decode cX2_lengthFor 72 = .ok (.iload 5, 2) := by decide +kernel
theorem dX2_lengthFor_74 : decode cX2_lengthFor 74 = .ok (.iaload, 1) := by decide +kernel
theorem dX2_lengthFor_75 : decode cX2_lengthFor 75 = .ok (.ifCond .ne 25, 3) := by decide +kernel
theorem dX2_lengthFor_78 : decode cX2_lengthFor 78 = .ok (.iload 4, 2) := by decide +kernel
theorem dX2_lengthFor_80 : decode cX2_lengthFor 80 = .ok (.iload 5, 2) := by decide +kernel
theorem dX2_lengthFor_82 : decode cX2_lengthFor 82 = .ok (.invokestatic 52, 3) := by decide +kernel
theorem dX2_lengthFor_85 : decode cX2_lengthFor 85 = .ok (.ifCond .eq 15, 3) := by decide +kernel
theorem dX2_lengthFor_88 : decode cX2_lengthFor 88 = .ok (.iload_n 3, 1) := by decide +kernel
theorem dX2_lengthFor_89 : decode cX2_lengthFor 89 = .ok (.aload_n 0, 1) := by decide +kernel
theorem dX2_lengthFor_90 : decode cX2_lengthFor 90 = .ok (.getfield 21, 3) := by decide +kernel
theorem dX2_lengthFor_93 : decode cX2_lengthFor 93 = .ok (.iload 5, 2) := by decide +kernel
theorem dX2_lengthFor_95 : decode cX2_lengthFor 95 = .ok (.iaload, 1) := by decide +kernel
theorem dX2_lengthFor_96 : decode cX2_lengthFor 96 = .ok (.iconst (-1), 1) := by decide +kernel
theorem dX2_lengthFor_97 : decode cX2_lengthFor 97 = .ok (.ixor, 1) := by decide +kernel
theorem dX2_lengthFor_98 : decode cX2_lengthFor 98 = .ok (.iand, 1) := by decide +kernel
theorem dX2_lengthFor_99 : decode cX2_lengthFor 99 = .ok (.istore_n 3, 1) := by decide +kernel
theorem dX2_lengthFor_100 : decode cX2_lengthFor 100 = .ok (.iinc 5 1, 3) := by decide +kernel
theorem dX2_lengthFor_103 : decode cX2_lengthFor 103 = .ok (.goto (-42), 3) := by decide +kernel
theorem dX2_lengthFor_106 : decode cX2_lengthFor 106 = .ok (.aload_n 0, 1) := by decide +kernel
theorem dX2_lengthFor_107 : decode cX2_lengthFor 107 = .ok (.getfield 15, 3) := by decide +kernel
theorem dX2_lengthFor_110 : decode cX2_lengthFor 110 = .ok (.iload_n 2, 1) := by decide +kernel
theorem dX2_lengthFor_111 : decode cX2_lengthFor 111 = .ok (.iaload, 1) := by decide +kernel
theorem dX2_lengthFor_112 : decode cX2_lengthFor 112 = .ok (.iload_n 3, 1) := by decide +kernel
theorem dX2_lengthFor_113 : decode cX2_lengthFor 113 = .ok (.invokestatic 56, 3) := by decide +kernel
theorem dX2_lengthFor_116 : decode cX2_lengthFor 116 = .ok (.iconst 1, 1) := by decide +kernel
theorem dX2_lengthFor_117 : decode cX2_lengthFor 117 = .ok (.iadd, 1) := by decide +kernel
theorem dX2_lengthFor_118 : decode cX2_lengthFor 118 = .ok (.iconst 2, 1) := by decide +kernel
theorem dX2_lengthFor_119 : decode cX2_lengthFor 119 = .ok (.idiv, 1) := by decide +kernel
theorem dX2_lengthFor_120 : decode cX2_lengthFor 120 = .ok (.iadd, 1) := by decide +kernel
theorem dX2_lengthFor_121 : decode cX2_lengthFor 121 = .ok (.ireturn, 1) := by decide +kernel
theorem dX2_rightsOf_0 : decode cX2_rightsOf 0 = .ok (.aload_n 1, 1) := by decide +kernel
theorem dX2_rightsOf_1 : decode cX2_rightsOf 1 = .ok (.iconst 2, 1) := by decide +kernel
theorem dX2_rightsOf_2 : decode cX2_rightsOf 2 = .ok (.invokevirtual 42, 3) := by decide +kernel
theorem dX2_rightsOf_5 : decode cX2_rightsOf 5 = .ok (.istore_n 2, 1) := by decide +kernel
theorem dX2_rightsOf_6 : decode cX2_rightsOf 6 = .ok (.iconst 0, 1) := by decide +kernel
theorem dX2_rightsOf_7 : decode cX2_rightsOf 7 = .ok (.istore_n 3, 1) := by decide +kernel
theorem dX2_rightsOf_8 : decode cX2_rightsOf 8 = .ok (.iconst 0, 1) := by decide +kernel
theorem dX2_rightsOf_9 : decode cX2_rightsOf 9 = .ok (.istore 4, 2) := by decide +kernel
theorem dX2_rightsOf_11 : decode cX2_rightsOf 11 = .ok (.iload 4, 2) := by decide +kernel
theorem dX2_rightsOf_13 : decode cX2_rightsOf 13 = .ok (.aload_n 0, 1) := by decide +kernel
theorem dX2_rightsOf_14 : decode cX2_rightsOf 14 = .ok (.getfield 34, 3) := by decide +kernel
theorem dX2_rightsOf_17 : decode cX2_rightsOf 17 = .ok (.if_icmp .ge 30, 3) := by decide +kernel
theorem dX2_rightsOf_20 : decode cX2_rightsOf 20 = .ok (.aload_n 0, 1) := by decide +kernel
theorem dX2_rightsOf_21 : decode cX2_rightsOf 21 = .ok (.getfield 27, 3) := by decide +kernel
theorem dX2_rightsOf_24 : decode cX2_rightsOf 24 = .ok (.iload 4, 2) := by decide +kernel
theorem dX2_rightsOf_26 : decode cX2_rightsOf 26 = .ok (.iaload, 1) := by decide +kernel
theorem dX2_rightsOf_27 : decode cX2_rightsOf 27 = .ok (.iload_n 2, 1) := by decide +kernel
theorem dX2_rightsOf_28 : decode cX2_rightsOf 28 = .ok (.iconst (-1), 1) := by decide +kernel
theorem dX2_rightsOf_29 : decode cX2_rightsOf 29 = .ok (.ixor, 1) := by decide +kernel
theorem dX2_rightsOf_30 : decode cX2_rightsOf 30 = .ok (.iand, 1) := by decide +kernel
theorem dX2_rightsOf_31 : decode cX2_rightsOf 31 = .ok (.ifCond .ne 10, 3) := by decide +kernel
theorem dX2_rightsOf_34 : decode cX2_rightsOf 34 = .ok (.iload_n 3, 1) := by decide +kernel
theorem dX2_rightsOf_35 : decode cX2_rightsOf 35 = .ok (.iconst 1, 1) := by decide +kernel
theorem dX2_rightsOf_36 : decode cX2_rightsOf 36 = .ok (.iload 4, 2) := by decide +kernel
theorem dX2_rightsOf_38 : decode cX2_rightsOf 38 = .ok (.ishl, 1) := by decide +kernel
theorem dX2_rightsOf_39 : decode cX2_rightsOf 39 = .ok (.ior, 1) := by decide +kernel
theorem dX2_rightsOf_40 : decode cX2_rightsOf 40 = .ok (.istore_n 3, 1) := by decide +kernel
theorem dX2_rightsOf_41 : decode cX2_rightsOf 41 = .ok (.iinc 4 1, 3) := by decide +kernel
theorem dX2_rightsOf_44 : decode cX2_rightsOf 44 = .ok (.goto (-33), 3) := by decide +kernel
theorem dX2_rightsOf_47 : decode cX2_rightsOf 47 = .ok (.iload_n 3, 1) := by decide +kernel
theorem dX2_rightsOf_48 : decode cX2_rightsOf 48 = .ok (.ireturn, 1) := by decide +kernel
theorem dX3_init_0 : decode cX3_init 0 = .ok (.aload_n 0, 1) := by decide +kernel
theorem dX3_init_1 : decode cX3_init 1 = .ok (.invokespecial 3, 3) := by decide +kernel
theorem dX3_init_4 : decode cX3_init 4 = .ok (.aload_n 0, 1) := by decide +kernel
theorem dX3_init_5 : decode cX3_init 5 = .ok (.iconst 4, 1) := by decide +kernel
theorem dX3_init_6 : decode cX3_init 6 = .ok (.newarray .int, 2) := by decide +kernel
theorem dX3_init_8 : decode cX3_init 8 = .ok (.putfield 9, 3) := by decide +kernel
theorem dX3_init_11 : decode cX3_init 11 = .ok (.aload_n 0, 1) := by decide +kernel
theorem dX3_init_12 : decode cX3_init 12 = .ok (.bipush 20, 2) := by decide +kernel
theorem dX3_init_14 : decode cX3_init 14 = .ok (.newarray .int, 2) := by decide +kernel
theorem dX3_init_16 : decode cX3_init 16 = .ok (.putfield 15, 3) := by decide +kernel
theorem dX3_init_19 : decode cX3_init 19 = .ok (.aload_n 0, 1) := by decide +kernel
theorem dX3_init_20 : decode cX3_init 20 = .ok (.bipush 20, 2) := by decide +kernel
theorem dX3_init_22 : decode cX3_init 22 = .ok (.newarray .int, 2) := by decide +kernel
theorem dX3_init_24 : decode cX3_init 24 = .ok (.putfield 18, 3) := by decide +kernel
theorem dX3_init_27 : decode cX3_init 27 = .ok (.aload_n 0, 1) := by decide +kernel
theorem dX3_init_28 : decode cX3_init 28 = .ok (.bipush 20, 2) := by decide +kernel
theorem dX3_init_30 : decode cX3_init 30 = .ok (.newarray .int, 2) := by decide +kernel
theorem dX3_init_32 : decode cX3_init 32 = .ok (.putfield 21, 3) := by decide +kernel
theorem dX3_init_35 : decode cX3_init 35 = .ok (.return_, 1) := by decide +kernel
theorem dX3_hasPiece_0 : decode cX3_hasPiece 0 = .ok (.iload_n 1, 1) := by decide +kernel
theorem dX3_hasPiece_1 : decode cX3_hasPiece 1 = .ok (.ifCond .lt 21, 3) := by decide +kernel
theorem dX3_hasPiece_4 : decode cX3_hasPiece 4 = .ok (.iload_n 1, 1) := by decide +kernel
theorem dX3_hasPiece_5 : decode cX3_hasPiece 5 = .ok (.iconst 4, 1) := by decide +kernel
theorem dX3_hasPiece_6 : decode cX3_hasPiece 6 = .ok (.if_icmp .ge 16, 3) := by decide +kernel
theorem dX3_hasPiece_9 : decode cX3_hasPiece 9 = .ok (.aload_n 0, 1) := by decide +kernel
theorem dX3_hasPiece_10 : decode cX3_hasPiece 10 = .ok (.getfield 9, 3) := by decide +kernel
theorem dX3_hasPiece_13 : decode cX3_hasPiece 13 = .ok (.iload_n 1, 1) := by decide +kernel
theorem dX3_hasPiece_14 : decode cX3_hasPiece 14 = .ok (.iaload, 1) := by decide +kernel
theorem dX3_hasPiece_15 : decode cX3_hasPiece 15 = .ok (.ifCond .le 7, 3) := by decide +kernel
theorem dX3_hasPiece_18 : decode cX3_hasPiece 18 = .ok (.iconst 1, 1) := by decide +kernel
theorem dX3_hasPiece_19 : decode cX3_hasPiece 19 = .ok (.goto 4, 3) := by decide +kernel
theorem dX3_hasPiece_22 : decode cX3_hasPiece 22 = .ok (.iconst 0, 1) := by decide +kernel
theorem dX3_hasPiece_23 : decode cX3_hasPiece 23 = .ok (.ireturn, 1) := by decide +kernel
theorem dX3_putIn_0 : decode cX3_putIn 0 = .ok (.iload_n 1, 1) := by decide +kernel
theorem dX3_putIn_1 : decode cX3_putIn 1 = .ok (.ifCond .lt 18, 3) := by decide +kernel
theorem dX3_putIn_4 : decode cX3_putIn 4 = .ok (.iload_n 1, 1) := by decide +kernel
theorem dX3_putIn_5 : decode cX3_putIn 5 = .ok (.iconst 4, 1) := by decide +kernel
theorem dX3_putIn_6 : decode cX3_putIn 6 = .ok (.if_icmp .ge 13, 3) := by decide +kernel
theorem dX3_putIn_9 : decode cX3_putIn 9 = .ok (.aload_n 0, 1) := by decide +kernel
theorem dX3_putIn_10 : decode cX3_putIn 10 = .ok (.getfield 9, 3) := by decide +kernel
theorem dX3_putIn_13 : decode cX3_putIn 13 = .ok (.iload_n 1, 1) := by decide +kernel
theorem dX3_putIn_14 : decode cX3_putIn 14 = .ok (.dup2, 1) := by decide +kernel
theorem dX3_putIn_15 : decode cX3_putIn 15 = .ok (.iaload, 1) := by decide +kernel
theorem dX3_putIn_16 : decode cX3_putIn 16 = .ok (.iload_n 2, 1) := by decide +kernel
theorem dX3_putIn_17 : decode cX3_putIn 17 = .ok (.iadd, 1) := by decide +kernel
theorem dX3_putIn_18 : decode cX3_putIn 18 = .ok (.iastore, 1) := by decide +kernel
theorem dX3_putIn_19 : decode cX3_putIn 19 = .ok (.return_, 1) := by decide +kernel
theorem dX3_takeOne_0 : decode cX3_takeOne 0 = .ok (.aload_n 0, 1) := by decide +kernel
theorem dX3_takeOne_1 : decode cX3_takeOne 1 = .ok (.iload_n 1, 1) := by decide +kernel
theorem dX3_takeOne_2 : decode cX3_takeOne 2 = .ok (.invokevirtual 24, 3) := by decide +kernel
theorem dX3_takeOne_5 : decode cX3_takeOne 5 = .ok (.ifCond .eq 13, 3) := by decide +kernel
theorem dX3_takeOne_8 : decode cX3_takeOne 8 = .ok (.aload_n 0, 1) := by decide +kernel
theorem dX3_takeOne_9 : decode cX3_takeOne 9 = .ok (.getfield 9, 3) := by decide +kernel
theorem dX3_takeOne_12 : decode cX3_takeOne 12 = .ok (.iload_n 1, 1) := by decide +kernel
theorem dX3_takeOne_13 : decode cX3_takeOne 13 = .ok (.dup2, 1) := by decide +kernel
theorem dX3_takeOne_14 : decode cX3_takeOne 14 = .ok (.iaload, 1) := by decide +kernel
theorem dX3_takeOne_15 : decode cX3_takeOne 15 = .ok (.iconst 1, 1) := by decide +kernel
theorem dX3_takeOne_16 : decode cX3_takeOne 16 = .ok (.isub, 1) := by decide +kernel
theorem dX3_takeOne_17 : decode cX3_takeOne 17 = .ok (.iastore, 1) := by decide +kernel
theorem dX3_takeOne_18 : decode cX3_takeOne 18 = .ok (.return_, 1) := by decide +kernel
theorem dX3_addOrder_0 : decode cX3_addOrder 0 = .ok (.aload_n 0, 1) := by decide +kernel
theorem dX3_addOrder_1 : decode cX3_addOrder 1 = .ok (.getfield 28, 3) := by decide +kernel
theorem dX3_addOrder_4 : decode cX3_addOrder 4 = .ok (.bipush 20, 2) := by decide +kernel
theorem dX3_addOrder_6 : decode cX3_addOrder 6 = .ok (.if_icmp .lt 5, 3) := by decide +kernel
theorem dX3_addOrder_9 : decode cX3_addOrder 9 = .ok (.iconst (-1), 1) := by decide +kernel
theorem dX3_addOrder_10 : decode cX3_addOrder 10 = .ok (.ireturn, 1) := by decide +kernel
theorem dX3_addOrder_11 : decode cX3_addOrder 11 = .ok (.aload_n 0, 1) := by decide +kernel
theorem dX3_addOrder_12 : decode cX3_addOrder 12 = .ok (.getfield 15, 3) := by decide +kernel
theorem dX3_addOrder_15 : decode cX3_addOrder 15 = .ok (.aload_n 0, 1) := by decide +kernel
theorem dX3_addOrder_16 : decode cX3_addOrder 16 = .ok (.getfield 28, 3) := by decide +kernel
theorem dX3_addOrder_19 : decode cX3_addOrder 19 = .ok (.iload_n 1, 1) := by decide +kernel
theorem dX3_addOrder_20 : decode cX3_addOrder 20 = .ok (.iastore, 1) := by decide +kernel
theorem dX3_addOrder_21 : decode cX3_addOrder 21 = .ok (.aload_n 0, 1) := by decide +kernel
theorem dX3_addOrder_22 : decode cX3_addOrder 22 = .ok (.getfield 18, 3) := by decide +kernel
theorem dX3_addOrder_25 : decode cX3_addOrder 25 = .ok (.aload_n 0, 1) := by decide +kernel
theorem dX3_addOrder_26 : decode cX3_addOrder 26 = .ok (.getfield 28, 3) := by decide +kernel
theorem dX3_addOrder_29 : decode cX3_addOrder 29 = .ok (.iload_n 2, 1) := by decide +kernel
theorem dX3_addOrder_30 : decode cX3_addOrder 30 = .ok (.iastore, 1) := by decide +kernel
theorem dX3_addOrder_31 : decode cX3_addOrder 31 = .ok (.aload_n 0, 1) := by decide +kernel
theorem dX3_addOrder_32 : decode cX3_addOrder 32 = .ok (.getfield 21, 3) := by decide +kernel
theorem dX3_addOrder_35 : decode cX3_addOrder 35 = .ok (.aload_n 0, 1) := by decide +kernel
theorem dX3_addOrder_36 : decode cX3_addOrder 36 = .ok (.getfield 28, 3) := by decide +kernel
theorem dX3_addOrder_39 : decode cX3_addOrder 39 = .ok (.iload_n 3, 1) := by decide +kernel
theorem dX3_addOrder_40 : decode cX3_addOrder 40 = .ok (.iastore, 1) := by decide +kernel
theorem dX3_addOrder_41 : decode cX3_addOrder 41 = .ok (.aload_n 0, 1) := by decide +kernel
theorem dX3_addOrder_42 : decode cX3_addOrder 42 = .ok (.dup, 1) := by decide +kernel
theorem dX3_addOrder_43 : decode cX3_addOrder 43 = .ok (.getfield 28, 3) := by decide +kernel
theorem dX3_addOrder_46 : decode cX3_addOrder 46 = .ok (.iconst 1, 1) := by decide +kernel
theorem dX3_addOrder_47 : decode cX3_addOrder 47 = .ok (.iadd, 1) := by decide +kernel
theorem dX3_addOrder_48 : decode cX3_addOrder 48 = .ok (.putfield 28, 3) := by decide +kernel
theorem dX3_addOrder_51 : decode cX3_addOrder 51 = .ok (.aload_n 0, 1) := by decide +kernel
theorem dX3_addOrder_52 : decode cX3_addOrder 52 = .ok (.getfield 28, 3) := by decide +kernel
theorem dX3_addOrder_55 : decode cX3_addOrder 55 = .ok (.iconst 1, 1) := by decide +kernel
theorem dX3_addOrder_56 : decode cX3_addOrder 56 = .ok (.isub, 1) := by decide +kernel
theorem dX3_addOrder_57 : decode cX3_addOrder 57 = .ok (.ireturn, 1) := by decide +kernel
theorem dX3_delay_0 : decode cX3_delay 0 = .ok (.iload_n 1, 1) := by decide +kernel
theorem dX3_delay_1 : decode cX3_delay 1 = .ok (.ifCond .lt 11, 3) := by decide +kernel
theorem dX3_delay_4 : decode cX3_delay 4 = .ok (.iload_n 1, 1) := by decide +kernel
theorem dX3_delay_5 : decode cX3_delay 5 = .ok (.aload_n 0, 1) := by decide +kernel
theorem dX3_delay_6 : decode cX3_delay 6 = .ok (.getfield 28, 3) := by decide +kernel
theorem dX3_delay_9 : decode cX3_delay 9 = .ok (.if_icmp .lt 5, 3) := by decide +kernel
theorem dX3_delay_12 : decode cX3_delay 12 = .ok (.iconst (-1), 1) := by decide +kernel
theorem dX3_delay_13 : decode cX3_delay 13 = .ok (.ireturn, 1) := by decide +kernel
theorem dX3_delay_14 : decode cX3_delay 14 = .ok (.aload_n 0, 1) := by decide +kernel
theorem dX3_delay_15 : decode cX3_delay 15 = .ok (.getfield 21, 3) := by decide +kernel
theorem dX3_delay_18 : decode cX3_delay 18 = .ok (.iload_n 1, 1) := by decide +kernel
theorem dX3_delay_19 : decode cX3_delay 19 = .ok (.dup2, 1) := by decide +kernel
theorem dX3_delay_20 : decode cX3_delay 20 = .ok (.iaload, 1) := by decide +kernel
theorem dX3_delay_21 : decode cX3_delay 21 = .ok (.iload_n 2, 1) := by decide +kernel
theorem dX3_delay_22 : decode cX3_delay 22 = .ok (.iadd, 1) := by decide +kernel
theorem dX3_delay_23 : decode cX3_delay 23 = .ok (.iastore, 1) := by decide +kernel
theorem dX3_delay_24 : decode cX3_delay 24 = .ok (.aload_n 0, 1) := by decide +kernel
theorem dX3_delay_25 : decode cX3_delay 25 = .ok (.getfield 21, 3) := by decide +kernel
theorem dX3_delay_28 : decode cX3_delay 28 = .ok (.iload_n 1, 1) := by decide +kernel
theorem dX3_delay_29 : decode cX3_delay 29 = .ok (.iaload, 1) := by decide +kernel
theorem dX3_delay_30 : decode cX3_delay 30 = .ok (.ireturn, 1) := by decide +kernel
theorem dX3_receive_0 : decode cX3_receive 0 = .ok (.iconst 0, 1) := by decide +kernel
theorem dX3_receive_1 : decode cX3_receive 1 = .ok (.istore_n 2, 1) := by decide +kernel
theorem dX3_receive_2 : decode cX3_receive 2 = .ok (.iload_n 2, 1) := by decide +kernel
theorem dX3_receive_3 : decode cX3_receive 3 = .ok (.aload_n 0, 1) := by decide +kernel
theorem dX3_receive_4 : decode cX3_receive 4 = .ok (.getfield 28, 3) := by decide +kernel
theorem dX3_receive_7 : decode cX3_receive 7 = .ok (.if_icmp .ge 35, 3) := by decide +kernel
theorem dX3_receive_10 : decode cX3_receive 10 = .ok (.aload_n 0, 1) := by decide +kernel
theorem dX3_receive_11 : decode cX3_receive 11 = .ok (.getfield 21, 3) := by decide +kernel
theorem dX3_receive_14 : decode cX3_receive 14 = .ok (.iload_n 2, 1) := by decide +kernel
theorem dX3_receive_15 : decode cX3_receive 15 = .ok (.iaload, 1) := by decide +kernel
theorem dX3_receive_16 : decode cX3_receive 16 = .ok (.iload_n 1, 1) := by decide +kernel
theorem dX3_receive_17 : decode cX3_receive 17 = .ok (.if_icmp .ne 19, 3) := by decide +kernel
theorem dX3_receive_20 : decode cX3_receive 20 = .ok (.aload_n 0, 1) := by decide +kernel
theorem dX3_receive_21 : decode cX3_receive 21 = .ok (.aload_n 0, 1) := by decide +kernel
theorem dX3_receive_22 : decode cX3_receive 22 = .ok (.getfield 15, 3) := by decide +kernel
theorem dX3_receive_25 : decode cX3_receive 25 = .ok (.iload_n 2, 1) := by decide +kernel
theorem dX3_receive_26 : decode cX3_receive 26 = .ok (.iaload, 1) := by decide +kernel
theorem dX3_receive_27 : decode cX3_receive 27 = .ok (.aload_n 0, 1) := by decide +kernel
theorem dX3_receive_28 : decode cX3_receive 28 = .ok (.getfield 18, 3) := by decide +kernel
theorem dX3_receive_31 : decode cX3_receive 31 = .ok (.iload_n 2, 1) := by decide +kernel
theorem dX3_receive_32 : decode cX3_receive 32 = .ok (.iaload, 1) := by decide +kernel
theorem dX3_receive_33 : decode cX3_receive 33 = .ok (.invokevirtual 32, 3) := by decide +kernel
theorem dX3_receive_36 : decode cX3_receive 36 = .ok (.iinc 2 1, 3) := by decide +kernel
theorem dX3_receive_39 : decode cX3_receive 39 = .ok (.goto (-37), 3) := by decide +kernel
theorem dX3_receive_42 : decode cX3_receive 42 = .ok (.return_, 1) := by decide +kernel
theorem dX3_piecesToCome_0 : decode cX3_piecesToCome 0 = .ok (.iconst 0, 1) := by decide +kernel
theorem dX3_piecesToCome_1 : decode cX3_piecesToCome 1 = .ok (.istore_n 3, 1) := by decide +kernel
theorem dX3_piecesToCome_2 : decode cX3_piecesToCome 2 = .ok (.iconst 0, 1) := by decide +kernel
theorem dX3_piecesToCome_3 : decode cX3_piecesToCome 3 = .ok (.istore 4, 2) := by decide +kernel
theorem dX3_piecesToCome_5 : decode cX3_piecesToCome 5 = .ok (.iload 4, 2) := by decide +kernel
theorem dX3_piecesToCome_7 : decode cX3_piecesToCome 7 = .ok (.aload_n 0, 1) := by decide +kernel
theorem dX3_piecesToCome_8 : decode cX3_piecesToCome 8 = .ok (.getfield 28, 3) := by decide +kernel
theorem dX3_piecesToCome_11 : decode cX3_piecesToCome 11 = .ok (.if_icmp .ge 41, 3) := by decide +kernel
theorem dX3_piecesToCome_14 : decode cX3_piecesToCome 14 = .ok (.aload_n 0, 1) := by decide +kernel
theorem dX3_piecesToCome_15 : decode cX3_piecesToCome 15 = .ok (.getfield 15, 3) := by decide +kernel
theorem dX3_piecesToCome_18 : decode cX3_piecesToCome 18 = .ok (.iload 4, 2) := by decide +kernel
theorem dX3_piecesToCome_20 : decode cX3_piecesToCome 20 = .ok (.iaload, 1) := by decide +kernel
theorem dX3_piecesToCome_21 : decode cX3_piecesToCome 21 = .ok (.iload_n 1, 1) := by decide +kernel
theorem dX3_piecesToCome_22 : decode cX3_piecesToCome 22 = .ok (.if_icmp .ne 24, 3) := by decide +kernel
theorem dX3_piecesToCome_25 : decode cX3_piecesToCome 25 = .ok (.aload_n 0, 1) := by decide +kernel
theorem dX3_piecesToCome_26 : decode cX3_piecesToCome 26 = .ok (.getfield 21, 3) := by decide +kernel
theorem dX3_piecesToCome_29 : decode cX3_piecesToCome 29 = .ok (.iload 4, 2) := by decide +kernel
theorem dX3_piecesToCome_31 : decode cX3_piecesToCome 31 = .ok (.iaload, 1) := by decide +kernel
theorem dX3_piecesToCome_32 : decode cX3_piecesToCome 32 = .ok (.iload_n 2, 1) := by decide +kernel
theorem dX3_piecesToCome_33 : decode cX3_piecesToCome 33 = .ok (.if_icmp .le 13, 3) := by decide +kernel
theorem dX3_piecesToCome_36 : decode cX3_piecesToCome 36 = .ok (.iload_n 3, 1) := by decide +kernel
theorem dX3_piecesToCome_37 : decode cX3_piecesToCome 37 = .ok (.aload_n 0, 1) := by decide +kernel
theorem dX3_piecesToCome_38 : decode cX3_piecesToCome 38 = .ok (.getfield 18, 3) := by decide +kernel
theorem dX3_piecesToCome_41 : decode cX3_piecesToCome 41 = .ok (.iload 4, 2) := by decide +kernel
theorem dX3_piecesToCome_43 : decode cX3_piecesToCome 43 = .ok (.iaload, 1) := by decide +kernel
theorem dX3_piecesToCome_44 : decode cX3_piecesToCome 44 = .ok (.iadd, 1) := by decide +kernel
theorem dX3_piecesToCome_45 : decode cX3_piecesToCome 45 = .ok (.istore_n 3, 1) := by decide +kernel
theorem dX3_piecesToCome_46 : decode cX3_piecesToCome 46 = .ok (.iinc 4 1, 3) := by decide +kernel
theorem dX3_piecesToCome_49 : decode cX3_piecesToCome 49 = .ok (.goto (-44), 3) := by decide +kernel
theorem dX3_piecesToCome_52 : decode cX3_piecesToCome 52 = .ok (.iload_n 3, 1) := by decide +kernel
theorem dX3_piecesToCome_53 : decode cX3_piecesToCome 53 = .ok (.ireturn, 1) := by decide +kernel
theorem dX3_earliestToCome_0 : decode cX3_earliestToCome 0 = .ok (.iconst (-1), 1) := by decide +kernel
theorem dX3_earliestToCome_1 : decode cX3_earliestToCome 1 = .ok (.istore 5, 2) := by decide +kernel
theorem dX3_earliestToCome_3 : decode cX3_earliestToCome 3 = .ok (.iconst 0, 1) := by decide +kernel
theorem dX3_earliestToCome_4 : decode cX3_earliestToCome 4 = .ok (.istore 6, 2) := by decide +kernel
theorem dX3_earliestToCome_6 : decode cX3_earliestToCome 6 = .ok (.iload 6, 2) := by decide +kernel
theorem dX3_earliestToCome_8 : decode cX3_earliestToCome 8 = .ok (.aload_n 0, 1) := by decide +kernel
theorem dX3_earliestToCome_9 : decode cX3_earliestToCome 9 = .ok (.getfield 28, 3) := by decide +kernel
theorem dX3_earliestToCome_12 : decode cX3_earliestToCome 12 = .ok (.if_icmp .ge 79, 3) := by decide +kernel
theorem dX3_earliestToCome_15 : decode cX3_earliestToCome 15 = .ok (.aload_n 0, 1) := by decide +kernel
theorem dX3_earliestToCome_16 : decode cX3_earliestToCome 16 = .ok (.getfield 15, 3) := by decide +kernel
theorem dX3_earliestToCome_19 : decode cX3_earliestToCome 19 = .ok (.iload 6, 2) := by decide +kernel
theorem dX3_earliestToCome_21 : decode cX3_earliestToCome 21 = .ok (.iaload, 1) := by decide +kernel
theorem dX3_earliestToCome_22 : decode cX3_earliestToCome 22 = .ok (.iload_n 1, 1) := by decide +kernel
theorem dX3_earliestToCome_23 : decode cX3_earliestToCome 23 = .ok (.if_icmp .ne 62, 3) := by decide +kernel
theorem dX3_earliestToCome_26 : decode cX3_earliestToCome 26 = .ok (.aload_n 0, 1) := by decide +kernel
theorem dX3_earliestToCome_27 : decode cX3_earliestToCome 27 = .ok (.getfield 21, 3) := by decide +kernel
theorem dX3_earliestToCome_30 : decode cX3_earliestToCome 30 = .ok (.iload 6, 2) := by decide +kernel
theorem dX3_earliestToCome_32 : decode cX3_earliestToCome 32 = .ok (.iaload, 1) := by decide +kernel
theorem dX3_earliestToCome_33 : decode cX3_earliestToCome 33 = .ok (.iload_n 2, 1) := by decide +kernel
theorem dX3_earliestToCome_34 : decode cX3_earliestToCome 34 = .ok (.if_icmp .le 51, 3) := by decide +kernel
theorem dX3_earliestToCome_37 : decode cX3_earliestToCome 37 = .ok (.iload 6, 2) := by decide +kernel
theorem dX3_earliestToCome_39 : decode cX3_earliestToCome 39 = .ok (.iload_n 3, 1) := by decide +kernel
theorem dX3_earliestToCome_40 : decode cX3_earliestToCome 40 = .ok (.if_icmp .ne 16, 3) := by decide +kernel
theorem dX3_earliestToCome_43 : decode cX3_earliestToCome 43 = .ok (.aload_n 0, 1) := by decide +kernel
theorem dX3_earliestToCome_44 : decode cX3_earliestToCome 44 = .ok (.getfield 21, 3) := by decide +kernel
theorem dX3_earliestToCome_47 : decode cX3_earliestToCome 47 = .ok (.iload 6, 2) := by decide +kernel
theorem dX3_earliestToCome_49 : decode cX3_earliestToCome 49 = .ok (.iaload, 1) := by decide +kernel
theorem dX3_earliestToCome_50 : decode cX3_earliestToCome 50 = .ok (.iload 4, 2) := by decide +kernel
theorem dX3_earliestToCome_52 : decode cX3_earliestToCome 52 = .ok (.iadd, 1) := by decide +kernel
theorem dX3_earliestToCome_53 : decode cX3_earliestToCome 53 = .ok (.goto 10, 3) := by decide +kernel
theorem dX3_earliestToCome_56 : decode cX3_earliestToCome 56 = .ok (.aload_n 0, 1) := by decide +kernel
theorem dX3_earliestToCome_57 : decode cX3_earliestToCome 57 = .ok (.getfield 21, 3) := by decide +kernel
theorem dX3_earliestToCome_60 : decode cX3_earliestToCome 60 = .ok (.iload 6, 2) := by decide +kernel
theorem dX3_earliestToCome_62 : decode cX3_earliestToCome 62 = .ok (.iaload, 1) := by decide +kernel
theorem dX3_earliestToCome_63 : decode cX3_earliestToCome 63 = .ok (.istore 7, 2) := by decide +kernel
theorem dX3_earliestToCome_65 : decode cX3_earliestToCome 65 = .ok (.iload 5, 2) := by decide +kernel
theorem dX3_earliestToCome_67 : decode cX3_earliestToCome 67 = .ok (.iconst (-1), 1) := by decide +kernel
theorem dX3_earliestToCome_68 : decode cX3_earliestToCome 68 = .ok (.if_icmp .ne 8, 3) := by decide +kernel
theorem dX3_earliestToCome_71 : decode cX3_earliestToCome 71 = .ok (.iload 7, 2) := by decide +kernel
theorem dX3_earliestToCome_73 : decode cX3_earliestToCome 73 = .ok (.goto 10, 3) := by decide +kernel
theorem dX3_earliestToCome_76 : decode cX3_earliestToCome 76 = .ok (.iload 5, 2) := by decide +kernel
theorem dX3_earliestToCome_78 : decode cX3_earliestToCome 78 = .ok (.iload 7, 2) := by decide +kernel
theorem dX3_earliestToCome_80 : decode cX3_earliestToCome 80 = .ok (.invokestatic 36, 3) := by decide +kernel
theorem dX3_earliestToCome_83 : decode cX3_earliestToCome 83 = .ok (.istore 5, 2) := by decide +kernel
theorem dX3_earliestToCome_85 : decode cX3_earliestToCome 85 = .ok (.iinc 6 1, 3) := by decide +kernel
theorem dX3_earliestToCome_88 : decode cX3_earliestToCome 88 = .ok (.goto (-82), 3) := by decide +kernel
theorem dX3_earliestToCome_91 : decode cX3_earliestToCome 91 = .ok (.iload 5, 2) := by decide +kernel
theorem dX3_earliestToCome_93 : decode cX3_earliestToCome 93 = .ok (.ireturn, 1) := by decide +kernel
theorem dX4_init_0 : decode cX4_init 0 = .ok (.aload_n 0, 1) := by decide +kernel
theorem dX4_init_1 : decode cX4_init 1 = .ok (.invokespecial 3, 3) := by decide +kernel
theorem dX4_init_4 : decode cX4_init 4 = .ok (.aload_n 0, 1) := by decide +kernel
theorem dX4_init_5 : decode cX4_init 5 = .ok (.bipush 20, 2) := by decide +kernel
theorem dX4_init_7 : decode cX4_init 7 = .ok (.newarray .int, 2) := by decide +kernel
theorem dX4_init_9 : decode cX4_init 9 = .ok (.putfield 9, 3) := by decide +kernel
theorem dX4_init_12 : decode cX4_init 12 = .ok (.aload_n 0, 1) := by decide +kernel
theorem dX4_init_13 : decode cX4_init 13 = .ok (.bipush 20, 2) := by decide +kernel
theorem dX4_init_15 : decode cX4_init 15 = .ok (.newarray .int, 2) := by decide +kernel
theorem dX4_init_17 : decode cX4_init 17 = .ok (.putfield 15, 3) := by decide +kernel
theorem dX4_init_20 : decode cX4_init 20 = .ok (.aload_n 0, 1) := by decide +kernel
theorem dX4_init_21 : decode cX4_init 21 = .ok (.bipush 20, 2) := by decide +kernel
theorem dX4_init_23 : decode cX4_init 23 = .ok (.newarray .int, 2) := by decide +kernel
theorem dX4_init_25 : decode cX4_init 25 = .ok (.putfield 18, 3) := by decide +kernel
theorem dX4_init_28 : decode cX4_init 28 = .ok (.aload_n 0, 1) := by decide +kernel
theorem dX4_init_29 : decode cX4_init 29 = .ok (.bipush 20, 2) := by decide +kernel
theorem dX4_init_31 : decode cX4_init 31 = .ok (.newarray .int, 2) := by decide +kernel
theorem dX4_init_33 : decode cX4_init 33 = .ok (.putfield 21, 3) := by decide +kernel
theorem dX4_init_36 : decode cX4_init 36 = .ok (.return_, 1) := by decide +kernel
theorem dX4_addSession_0 : decode cX4_addSession 0 = .ok (.aload_n 0, 1) := by decide +kernel
theorem dX4_addSession_1 : decode cX4_addSession 1 = .ok (.getfield 24, 3) := by decide +kernel
theorem dX4_addSession_4 : decode cX4_addSession 4 = .ok (.bipush 20, 2) := by decide +kernel
theorem dX4_addSession_6 : decode cX4_addSession 6 = .ok (.if_icmp .lt 5, 3) := by decide +kernel
theorem dX4_addSession_9 : decode cX4_addSession 9 = .ok (.iconst (-1), 1) := by decide +kernel
theorem dX4_addSession_10 : decode cX4_addSession 10 = .ok (.ireturn, 1) := by decide +kernel
theorem dX4_addSession_11 : decode cX4_addSession 11 = .ok (.aload_n 0, 1) := by decide +kernel
theorem dX4_addSession_12 : decode cX4_addSession 12 = .ok (.getfield 9, 3) := by decide +kernel
theorem dX4_addSession_15 : decode cX4_addSession 15 = .ok (.aload_n 0, 1) := by decide +kernel
theorem dX4_addSession_16 : decode cX4_addSession 16 = .ok (.getfield 24, 3) := by decide +kernel
theorem dX4_addSession_19 : decode cX4_addSession 19 = .ok (.iload_n 1, 1) := by decide +kernel
theorem dX4_addSession_20 : decode cX4_addSession 20 = .ok (.iastore, 1) := by decide +kernel
theorem dX4_addSession_21 : decode cX4_addSession 21 = .ok (.aload_n 0, 1) := by decide +kernel
theorem dX4_addSession_22 : decode cX4_addSession 22 = .ok (.getfield 15, 3) := by decide +kernel
theorem dX4_addSession_25 : decode cX4_addSession 25 = .ok (.aload_n 0, 1) := by decide +kernel
theorem dX4_addSession_26 : decode cX4_addSession 26 = .ok (.getfield 24, 3) := by decide +kernel
theorem dX4_addSession_29 : decode cX4_addSession 29 = .ok (.iload_n 2, 1) := by decide +kernel
theorem dX4_addSession_30 : decode cX4_addSession 30 = .ok (.iastore, 1) := by decide +kernel
theorem dX4_addSession_31 : decode cX4_addSession 31 = .ok (.aload_n 0, 1) := by decide +kernel
theorem dX4_addSession_32 : decode cX4_addSession 32 = .ok (.getfield 18, 3) := by decide +kernel
theorem dX4_addSession_35 : decode cX4_addSession 35 = .ok (.aload_n 0, 1) := by decide +kernel
theorem dX4_addSession_36 : decode cX4_addSession 36 = .ok (.getfield 24, 3) := by decide +kernel
theorem dX4_addSession_39 : decode cX4_addSession 39 = .ok (.iload_n 3, 1) := by decide +kernel
theorem dX4_addSession_40 : decode cX4_addSession 40 = .ok (.iastore, 1) := by decide +kernel
theorem dX4_addSession_41 : decode cX4_addSession 41 = .ok (.aload_n 0, 1) := by decide +kernel
theorem dX4_addSession_42 : decode cX4_addSession 42 = .ok (.dup, 1) := by decide +kernel
theorem dX4_addSession_43 : decode cX4_addSession 43 = .ok (.getfield 24, 3) := by decide +kernel
theorem dX4_addSession_46 : decode cX4_addSession 46 = .ok (.iconst 1, 1) := by decide +kernel
theorem dX4_addSession_47 : decode cX4_addSession 47 = .ok (.iadd, 1) := by decide +kernel
theorem dX4_addSession_48 : decode cX4_addSession 48 = .ok (.putfield 24, 3) := by decide +kernel
theorem dX4_addSession_51 : decode cX4_addSession 51 = .ok (.aload_n 0, 1) := by decide +kernel
theorem dX4_addSession_52 : decode cX4_addSession 52 = .ok (.getfield 24, 3) := by decide +kernel
theorem dX4_addSession_55 : decode cX4_addSession 55 = .ok (.iconst 1, 1) := by decide +kernel
theorem dX4_addSession_56 : decode cX4_addSession 56 = .ok (.isub, 1) := by decide +kernel
theorem dX4_addSession_57 : decode cX4_addSession 57 = .ok (.ireturn, 1) := by decide +kernel
theorem dX4_dayOf_0 : decode cX4_dayOf 0 = .ok (.iload_n 1, 1) := by decide +kernel
theorem dX4_dayOf_1 : decode cX4_dayOf 1 = .ok (.ifCond .lt 11, 3) := by decide +kernel
theorem dX4_dayOf_4 : decode cX4_dayOf 4 = .ok (.iload_n 1, 1) := by decide +kernel
theorem dX4_dayOf_5 : decode cX4_dayOf 5 = .ok (.aload_n 0, 1) := by decide +kernel
theorem dX4_dayOf_6 : decode cX4_dayOf 6 = .ok (.getfield 24, 3) := by decide +kernel
theorem dX4_dayOf_9 : decode cX4_dayOf 9 = .ok (.if_icmp .lt 7, 3) := by decide +kernel
theorem dX4_dayOf_12 : decode cX4_dayOf 12 = .ok (.iconst (-1), 1) := by decide +kernel
theorem dX4_dayOf_13 : decode cX4_dayOf 13 = .ok (.goto 9, 3) := by decide +kernel
theorem dX4_dayOf_16 : decode cX4_dayOf 16 = .ok (.aload_n 0, 1) := by decide +kernel
theorem dX4_dayOf_17 : decode cX4_dayOf 17 = .ok (.getfield 15, 3) := by decide +kernel
theorem dX4_dayOf_20 : decode cX4_dayOf 20 = .ok (.iload_n 1, 1) := by decide +kernel
theorem dX4_dayOf_21 : decode cX4_dayOf 21 = .ok (.iaload, 1) := by decide +kernel
theorem dX4_dayOf_22 : decode cX4_dayOf 22 = .ok (.ireturn, 1) := by decide +kernel
theorem dX4_book_0 : decode cX4_book 0 = .ok (.iload_n 2, 1) := by decide +kernel
theorem dX4_book_1 : decode cX4_book 1 = .ok (.iconst (-1), 1) := by decide +kernel
theorem dX4_book_2 : decode cX4_book 2 = .ok (.if_icmp .ne 5, 3) := by decide +kernel
theorem dX4_book_5 : decode cX4_book 5 = .ok (.iconst (-1), 1) := by decide +kernel
theorem dX4_book_6 : decode cX4_book 6 = .ok (.ireturn, 1) := by decide +kernel
theorem dX4_book_7 : decode cX4_book 7 = .ok (.iconst (-1), 1) := by decide +kernel
theorem dX4_book_8 : decode cX4_book 8 = .ok (.istore_n 3, 1) := by decide +kernel
theorem dX4_book_9 : decode cX4_book 9 = .ok (.iconst 0, 1) := by decide +kernel
theorem dX4_book_10 : decode cX4_book 10 = .ok (.istore 4, 2) := by decide +kernel
theorem dX4_book_12 : decode cX4_book 12 = .ok (.iload 4, 2) := by decide +kernel
theorem dX4_book_14 : decode cX4_book 14 = .ok (.aload_n 0, 1) := by decide +kernel
theorem dX4_book_15 : decode cX4_book 15 = .ok (.getfield 24, 3) := by decide +kernel
theorem dX4_book_18 : decode cX4_book 18 = .ok (.if_icmp .ge 83, 3) := by decide +kernel
theorem dX4_book_21 : decode cX4_book 21 = .ok (.aload_n 0, 1) := by decide +kernel
theorem dX4_book_22 : decode cX4_book 22 = .ok (.getfield 9, 3) := by decide +kernel
theorem dX4_book_25 : decode cX4_book 25 = .ok (.iload 4, 2) := by decide +kernel
theorem dX4_book_27 : decode cX4_book 27 = .ok (.iaload, 1) := by decide +kernel
theorem dX4_book_28 : decode cX4_book 28 = .ok (.iload_n 1, 1) := by decide +kernel
theorem dX4_book_29 : decode cX4_book 29 = .ok (.if_icmp .ne 35, 3) := by decide +kernel
theorem dX4_book_32 : decode cX4_book 32 = .ok (.aload_n 0, 1) := by decide +kernel
theorem dX4_book_33 : decode cX4_book 33 = .ok (.getfield 21, 3) := by decide +kernel
theorem dX4_book_36 : decode cX4_book 36 = .ok (.iload 4, 2) := by decide +kernel
theorem dX4_book_38 : decode cX4_book 38 = .ok (.iaload, 1) := by decide +kernel
theorem dX4_book_39 : decode cX4_book 39 = .ok (.aload_n 0, 1) := by decide +kernel
theorem dX4_book_40 : decode cX4_book 40 = .ok (.getfield 18, 3) := by decide +kernel
theorem dX4_book_43 : decode cX4_book 43 = .ok (.iload 4, 2) := by decide +kernel
theorem dX4_book_45 : decode cX4_book 45 = .ok (.iaload, 1) := by decide +kernel
theorem dX4_book_46 : decode cX4_book 46 = .ok (.if_icmp .ge 18, 3) := by decide +kernel
theorem dX4_book_49 : decode cX4_book 49 = .ok (.aload_n 0, 1) := by decide +kernel
theorem dX4_book_50 : decode cX4_book 50 = .ok (.getfield 15, 3) := by decide +kernel
theorem dX4_book_53 : decode cX4_book 53 = .ok (.iload 4, 2) := by decide +kernel
theorem dX4_book_55 : decode cX4_book 55 = .ok (.iaload, 1) := by decide +kernel
theorem dX4_book_56 : decode cX4_book 56 = .ok (.iload_n 2, 1) := by decide +kernel
theorem dX4_book_57 : decode cX4_book 57 = .ok (.if_icmp .lt 7, 3) := by decide +kernel
theorem dX4_book_60 : decode cX4_book 60 = .ok (.iconst 1, 1) := by decide +kernel
theorem dX4_book_61 : decode cX4_book 61 = .ok (.goto 4, 3) := by decide +kernel
theorem dX4_book_64 : decode cX4_book 64 = .ok (.iconst 0, 1) := by decide +kernel
theorem dX4_book_65 : decode cX4_book 65 = .ok (.istore 5, 2) := by decide +kernel
theorem dX4_book_67 : decode cX4_book 67 = .ok (.iload 5, 2) := by decide +kernel
theorem dX4_book_69 : decode cX4_book 69 = .ok (.ifCond .eq 26, 3) := by decide +kernel
theorem dX4_book_72 : decode cX4_book 72 = .ok (.iload_n 3, 1) := by decide +kernel
theorem dX4_book_73 : decode cX4_book 73 = .ok (.iconst (-1), 1) := by decide +kernel
theorem dX4_book_74 : decode cX4_book 74 = .ok (.if_icmp .eq 18, 3) := by decide +kernel
theorem dX4_book_77 : decode cX4_book 77 = .ok (.aload_n 0, 1) := by decide +kernel
theorem dX4_book_78 : decode cX4_book 78 = .ok (.getfield 15, 3) := by decide +kernel
theorem dX4_book_81 : decode cX4_book 81 = .ok (.iload 4, 2) := by decide +kernel
theorem dX4_book_83 : decode cX4_book 83 = .ok (.iaload, 1) := by decide +kernel
theorem dX4_book_84 : decode cX4_book 84 = .ok (.aload_n 0, 1) := by decide +kernel
theorem dX4_book_85 : decode cX4_book 85 = .ok (.iload_n 3, 1) := by decide +kernel
theorem dX4_book_86 : decode cX4_book 86 = .ok (.invokevirtual 28, 3) := by decide +kernel
theorem dX4_book_89 : decode cX4_book 89 = .ok (.if_icmp .ge 6, 3) := by decide +kernel
theorem dX4_book_92 : decode cX4_book 92 = .ok (.iload 4, 2) := by decide +kernel
theorem dX4_book_94 : decode cX4_book 94 = .ok (.istore_n 3, 1) := by decide +kernel
theorem dX4_book_95 : decode cX4_book 95 = .ok (.iinc 4 1, 3) := by decide +kernel
theorem dX4_book_98 : decode cX4_book 98 = .ok (.goto (-86), 3) := by decide +kernel
theorem dX4_book_101 : decode cX4_book 101 = .ok (.iload_n 3, 1) := by decide +kernel
theorem dX4_book_102 : decode cX4_book 102 = .ok (.ifCond .lt 21, 3) := by decide +kernel
theorem dX4_book_105 : decode cX4_book 105 = .ok (.iload_n 3, 1) := by decide +kernel
theorem dX4_book_106 : decode cX4_book 106 = .ok (.aload_n 0, 1) := by decide +kernel
theorem dX4_book_107 : decode cX4_book 107 = .ok (.getfield 24, 3) := by decide +kernel
theorem dX4_book_110 : decode cX4_book 110 = .ok (.if_icmp .ge 13, 3) := by decide +kernel
theorem dX4_book_113 : decode cX4_book 113 = .ok (.aload_n 0, 1) := by decide +kernel
theorem dX4_book_114 : decode cX4_book 114 = .ok (.getfield 21, 3) := by decide +kernel
theorem dX4_book_117 : decode cX4_book 117 = .ok (.iload_n 3, 1) := by decide +kernel
theorem dX4_book_118 : decode cX4_book 118 = .ok (.dup2, 1) := by decide +kernel
theorem dX4_book_119 : decode cX4_book 119 = .ok (.iaload, 1) := by decide +kernel
theorem dX4_book_120 : decode cX4_book 120 = .ok (.iconst 1, 1) := by decide +kernel
theorem dX4_book_121 : decode cX4_book 121 = .ok (.iadd, 1) := by decide +kernel
theorem dX4_book_122 : decode cX4_book 122 = .ok (.iastore, 1) := by decide +kernel
theorem dX4_book_123 : decode cX4_book 123 = .ok (.iload_n 3, 1) := by decide +kernel
theorem dX4_book_124 : decode cX4_book 124 = .ok (.ireturn, 1) := by decide +kernel
theorem dX4_release_0 : decode cX4_release 0 = .ok (.iload_n 1, 1) := by decide +kernel
theorem dX4_release_1 : decode cX4_release 1 = .ok (.ifCond .lt 21, 3) := by decide +kernel
theorem dX4_release_4 : decode cX4_release 4 = .ok (.iload_n 1, 1) := by decide +kernel
theorem dX4_release_5 : decode cX4_release 5 = .ok (.aload_n 0, 1) := by decide +kernel
theorem dX4_release_6 : decode cX4_release 6 = .ok (.getfield 24, 3) := by decide +kernel
theorem dX4_release_9 : decode cX4_release 9 = .ok (.if_icmp .ge 13, 3) := by decide +kernel
theorem dX4_release_12 : decode cX4_release 12 = .ok (.aload_n 0, 1) := by decide +kernel
theorem dX4_release_13 : decode cX4_release 13 = .ok (.getfield 21, 3) := by decide +kernel
theorem dX4_release_16 : decode cX4_release 16 = .ok (.iload_n 1, 1) := by decide +kernel
theorem dX4_release_17 : decode cX4_release 17 = .ok (.dup2, 1) := by decide +kernel
theorem dX4_release_18 : decode cX4_release 18 = .ok (.iaload, 1) := by decide +kernel
theorem dX4_release_19 : decode cX4_release 19 = .ok (.iconst 1, 1) := by decide +kernel
theorem dX4_release_20 : decode cX4_release 20 = .ok (.isub, 1) := by decide +kernel
theorem dX4_release_21 : decode cX4_release 21 = .ok (.iastore, 1) := by decide +kernel
theorem dX4_release_22 : decode cX4_release 22 = .ok (.return_, 1) := by decide +kernel
theorem dX4_seatsTaken_0 : decode cX4_seatsTaken 0 = .ok (.iconst 0, 1) := by decide +kernel
theorem dX4_seatsTaken_1 : decode cX4_seatsTaken 1 = .ok (.istore_n 1, 1) := by decide +kernel
theorem dX4_seatsTaken_2 : decode cX4_seatsTaken 2 = .ok (.iconst 0, 1) := by decide +kernel
theorem dX4_seatsTaken_3 : decode cX4_seatsTaken 3 = .ok (.istore_n 2, 1) := by decide +kernel
theorem dX4_seatsTaken_4 : decode cX4_seatsTaken 4 = .ok (.iload_n 2, 1) := by decide +kernel
theorem dX4_seatsTaken_5 : decode cX4_seatsTaken 5 = .ok (.aload_n 0, 1) := by decide +kernel
theorem dX4_seatsTaken_6 : decode cX4_seatsTaken 6 = .ok (.getfield 24, 3) := by decide +kernel
theorem dX4_seatsTaken_9 : decode cX4_seatsTaken 9 = .ok (.if_icmp .ge 18, 3) := by decide +kernel
theorem dX4_seatsTaken_12 : decode cX4_seatsTaken 12 = .ok (.iload_n 1, 1) := by decide +kernel
theorem dX4_seatsTaken_13 : decode cX4_seatsTaken 13 = .ok (.aload_n 0, 1) := by decide +kernel
theorem dX4_seatsTaken_14 : decode cX4_seatsTaken 14 = .ok (.getfield 21, 3) := by decide +kernel
theorem dX4_seatsTaken_17 : decode cX4_seatsTaken 17 = .ok (.iload_n 2, 1) := by decide +kernel
theorem dX4_seatsTaken_18 : decode cX4_seatsTaken 18 = .ok (.iaload, 1) := by decide +kernel
theorem dX4_seatsTaken_19 : decode cX4_seatsTaken 19 = .ok (.iadd, 1) := by decide +kernel
theorem dX4_seatsTaken_20 : decode cX4_seatsTaken 20 = .ok (.istore_n 1, 1) := by decide +kernel
theorem dX4_seatsTaken_21 : decode cX4_seatsTaken 21 = .ok (.iinc 2 1, 3) := by decide +kernel
theorem dX4_seatsTaken_24 : decode cX4_seatsTaken 24 = .ok (.goto (-20), 3) := by decide +kernel
theorem dX4_seatsTaken_27 : decode cX4_seatsTaken 27 = .ok (.iload_n 1, 1) := by decide +kernel
theorem dX4_seatsTaken_28 : decode cX4_seatsTaken 28 = .ok (.ireturn, 1) := by decide +kernel
theorem dX5_init_0 : decode cX5_init 0 = .ok (.aload_n 0, 1) := by decide +kernel
theorem dX5_init_1 : decode cX5_init 1 = .ok (.invokespecial 1, 3) := by decide +kernel
theorem dX5_init_4 : decode cX5_init 4 = .ok (.aload_n 0, 1) := by decide +kernel
theorem dX5_init_5 : decode cX5_init 5 = .ok (.new 7, 3) := by decide +kernel
theorem dX5_init_8 : decode cX5_init 8 = .ok (.dup, 1) := by decide +kernel
theorem dX5_init_9 : decode cX5_init 9 = .ok (.invokespecial 9, 3) := by decide +kernel
theorem dX5_init_12 : decode cX5_init 12 = .ok (.putfield 10, 3) := by decide +kernel
theorem dX5_init_15 : decode cX5_init 15 = .ok (.aload_n 0, 1) := by decide +kernel
theorem dX5_init_16 : decode cX5_init 16 = .ok (.new 16, 3) := by decide +kernel
theorem dX5_init_19 : decode cX5_init 19 = .ok (.dup, 1) := by decide +kernel
theorem dX5_init_20 : decode cX5_init 20 = .ok (.invokespecial 18, 3) := by decide +kernel
theorem dX5_init_23 : decode cX5_init 23 = .ok (.putfield 19, 3) := by decide +kernel
theorem dX5_init_26 : decode cX5_init 26 = .ok (.aload_n 0, 1) := by decide +kernel
theorem dX5_init_27 : decode cX5_init 27 = .ok (.new 23, 3) := by decide +kernel
theorem dX5_init_30 : decode cX5_init 30 = .ok (.dup, 1) := by decide +kernel
theorem dX5_init_31 : decode cX5_init 31 = .ok (.invokespecial 25, 3) := by decide +kernel
theorem dX5_init_34 : decode cX5_init 34 = .ok (.putfield 26, 3) := by decide +kernel
theorem dX5_init_37 : decode cX5_init 37 = .ok (.aload_n 0, 1) := by decide +kernel
theorem dX5_init_38 : decode cX5_init 38 = .ok (.new 30, 3) := by decide +kernel
theorem dX5_init_41 : decode cX5_init 41 = .ok (.dup, 1) := by decide +kernel
theorem dX5_init_42 : decode cX5_init 42 = .ok (.aload_n 0, 1) := by decide +kernel
theorem dX5_init_43 : decode cX5_init 43 = .ok (.getfield 10, 3) := by decide +kernel
theorem dX5_init_46 : decode cX5_init 46 = .ok (.aload_n 0, 1) := by decide +kernel
theorem dX5_init_47 : decode cX5_init 47 = .ok (.getfield 19, 3) := by decide +kernel
theorem dX5_init_50 : decode cX5_init 50 = .ok (.aload_n 0, 1) := by decide +kernel
theorem dX5_init_51 : decode cX5_init 51 = .ok (.getfield 26, 3) := by decide +kernel
theorem dX5_init_54 : decode cX5_init 54 = .ok (.invokespecial 32, 3) := by decide +kernel
theorem dX5_init_57 : decode cX5_init 57 = .ok (.putfield 35, 3) := by decide +kernel
theorem dX5_init_60 : decode cX5_init 60 = .ok (.aload_n 0, 1) := by decide +kernel
theorem dX5_init_61 : decode cX5_init 61 = .ok (.bipush 8, 2) := by decide +kernel
theorem dX5_init_63 : decode cX5_init 63 = .ok (.anewarray 39, 3) := by decide +kernel
theorem dX5_init_66 : decode cX5_init 66 = .ok (.putfield 41, 3) := by decide +kernel
theorem dX5_init_69 : decode cX5_init 69 = .ok (.iconst 0, 1) := by decide +kernel
theorem dX5_init_70 : decode cX5_init 70 = .ok (.istore_n 1, 1) := by decide +kernel
theorem dX5_init_71 : decode cX5_init 71 = .ok (.iload_n 1, 1) := by decide +kernel
theorem dX5_init_72 : decode cX5_init 72 = .ok (.bipush 8, 2) := by decide +kernel
theorem dX5_init_74 : decode cX5_init 74 = .ok (.if_icmp .ge 22, 3) := by decide +kernel
theorem dX5_init_77 : decode cX5_init 77 = .ok (.aload_n 0, 1) := by decide +kernel
theorem dX5_init_78 : decode cX5_init 78 = .ok (.getfield 41, 3) := by decide +kernel
theorem dX5_init_81 : decode cX5_init 81 = .ok (.iload_n 1, 1) := by decide +kernel
theorem dX5_init_82 : decode cX5_init 82 = .ok (.new 39, 3) := by decide +kernel
theorem dX5_init_85 : decode cX5_init 85 = .ok (.dup, 1) := by decide +kernel
theorem dX5_init_86 : decode cX5_init 86 = .ok (.invokespecial 45, 3) := by decide +kernel
theorem dX5_init_89 : decode cX5_init 89 = .ok (.aastore, 1) := by decide +kernel
theorem dX5_init_90 : decode cX5_init 90 = .ok (.iinc 1 1, 3) := by decide +kernel
theorem dX5_init_93 : decode cX5_init 93 = .ok (.goto (-22), 3) := by decide +kernel
theorem dX5_init_96 : decode cX5_init 96 = .ok (.return_, 1) := by decide +kernel
theorem dX5_step_0 : decode cX5_step 0 = .ok (.iload_n 1, 1) := by decide +kernel
theorem dX5_step_1 : decode cX5_step 1 = .ok (.iconst 0, 1) := by decide +kernel
theorem dX5_step_2 : decode cX5_step 2 = .ok (.iconst 3, 1) := by decide +kernel
theorem dX5_step_3 : decode cX5_step 3 = .ok (.invokestatic 46, 3) := by decide +kernel
theorem dX5_step_6 : decode cX5_step 6 = .ok (.ifCond .eq 33, 3) := by decide +kernel
theorem dX5_step_9 : decode cX5_step 9 = .ok (.iload_n 2, 1) := by decide +kernel
theorem dX5_step_10 : decode cX5_step 10 = .ok (.iconst 1, 1) := by decide +kernel
theorem dX5_step_11 : decode cX5_step 11 = .ok (.bipush 9, 2) := by decide +kernel
theorem dX5_step_13 : decode cX5_step 13 = .ok (.invokestatic 46, 3) := by decide +kernel
theorem dX5_step_16 : decode cX5_step 16 = .ok (.ifCond .eq 23, 3) := by decide +kernel
theorem dX5_step_19 : decode cX5_step 19 = .ok (.aload_n 0, 1) := by decide +kernel
theorem dX5_step_20 : decode cX5_step 20 = .ok (.getfield 10, 3) := by decide +kernel
theorem dX5_step_23 : decode cX5_step 23 = .ok (.iload_n 3, 1) := by decide +kernel
theorem dX5_step_24 : decode cX5_step 24 = .ok (.invokevirtual 50, 3) := by decide +kernel
theorem dX5_step_27 : decode cX5_step 27 = .ok (.ifCond .eq 12, 3) := by decide +kernel
theorem dX5_step_30 : decode cX5_step 30 = .ok (.iload_n 1, 1) := by decide +kernel
theorem dX5_step_31 : decode cX5_step 31 = .ok (.iload 4, 2) := by decide +kernel
theorem dX5_step_33 : decode cX5_step 33 = .ok (.invokestatic 54, 3) := by decide +kernel
theorem dX5_step_36 : decode cX5_step 36 = .ok (.ifCond .ne 13, 3) := by decide +kernel
theorem dX5_step_39 : decode cX5_step 39 = .ok (.new 58, 3) := by decide +kernel
theorem dX5_step_42 : decode cX5_step 42 = .ok (.dup, 1) := by decide +kernel
theorem dX5_step_43 : decode cX5_step 43 = .ok (.ldc 60, 2) := by decide +kernel
theorem dX5_step_45 : decode cX5_step 45 = .ok (.invokespecial 62, 3) := by decide +kernel
theorem dX5_step_48 : decode cX5_step 48 = .ok (.athrow, 1) := by decide +kernel
theorem dX5_step_49 : decode cX5_step 49 = .ok (.aload_n 0, 1) := by decide +kernel
theorem dX5_step_50 : decode cX5_step 50 = .ok (.getfield 10, 3) := by decide +kernel
theorem dX5_step_53 : decode cX5_step 53 = .ok (.iload_n 1, 1) := by decide +kernel
theorem dX5_step_54 : decode cX5_step 54 = .ok (.iload_n 2, 1) := by decide +kernel
theorem dX5_step_55 : decode cX5_step 55 = .ok (.iload_n 3, 1) := by decide +kernel
theorem dX5_step_56 : decode cX5_step 56 = .ok (.iload 4, 2) := by decide +kernel
theorem dX5_step_58 : decode cX5_step 58 = .ok (.invokevirtual 65, 3) := by decide +kernel
theorem dX5_step_61 : decode cX5_step 61 = .ok (.istore 5, 2) := by decide +kernel
theorem dX5_step_63 : decode cX5_step 63 = .ok (.iload 5, 2) := by decide +kernel
theorem dX5_step_65 : decode cX5_step 65 = .ok (.iconst (-1), 1) := by decide +kernel
theorem dX5_step_66 : decode cX5_step 66 = .ok (.if_icmp .ne 13, 3) := by decide +kernel
theorem dX5_step_69 : decode cX5_step 69 = .ok (.new 69, 3) := by decide +kernel
theorem dX5_step_72 : decode cX5_step 72 = .ok (.dup, 1) := by decide +kernel
theorem dX5_step_73 : decode cX5_step 73 = .ok (.ldc 71, 2) := by decide +kernel
theorem dX5_step_75 : decode cX5_step 75 = .ok (.invokespecial 73, 3) := by decide +kernel
theorem dX5_step_78 : decode cX5_step 78 = .ok (.athrow, 1) := by decide +kernel
theorem dX5_step_79 : decode cX5_step 79 = .ok (.iload 5, 2) := by decide +kernel
theorem dX5_step_81 : decode cX5_step 81 = .ok (.ireturn, 1) := by decide +kernel
theorem dX5_role_0 : decode cX5_role 0 = .ok (.iload_n 1, 1) := by decide +kernel
theorem dX5_role_1 : decode cX5_role 1 = .ok (.ifCond .lt 8, 3) := by decide +kernel
theorem dX5_role_4 : decode cX5_role 4 = .ok (.iload_n 1, 1) := by decide +kernel
theorem dX5_role_5 : decode cX5_role 5 = .ok (.iconst 4, 1) := by decide +kernel
theorem dX5_role_6 : decode cX5_role 6 = .ok (.if_icmp .lt 13, 3) := by decide +kernel
theorem dX5_role_9 : decode cX5_role 9 = .ok (.new 74, 3) := by decide +kernel
theorem dX5_role_12 : decode cX5_role 12 = .ok (.dup, 1) := by decide +kernel
theorem dX5_role_13 : decode cX5_role 13 = .ok (.ldc 76, 2) := by decide +kernel
theorem dX5_role_15 : decode cX5_role 15 = .ok (.invokespecial 78, 3) := by decide +kernel
theorem dX5_role_18 : decode cX5_role 18 = .ok (.athrow, 1) := by decide +kernel
theorem dX5_role_19 : decode cX5_role 19 = .ok (.aload_n 0, 1) := by decide +kernel
theorem dX5_role_20 : decode cX5_role 20 = .ok (.getfield 10, 3) := by decide +kernel
theorem dX5_role_23 : decode cX5_role 23 = .ok (.iload_n 2, 1) := by decide +kernel
theorem dX5_role_24 : decode cX5_role 24 = .ok (.invokevirtual 50, 3) := by decide +kernel
theorem dX5_role_27 : decode cX5_role 27 = .ok (.ifCond .ne 13, 3) := by decide +kernel
theorem dX5_role_30 : decode cX5_role 30 = .ok (.new 58, 3) := by decide +kernel
theorem dX5_role_33 : decode cX5_role 33 = .ok (.dup, 1) := by decide +kernel
theorem dX5_role_34 : decode cX5_role 34 = .ok (.ldc 79, 2) := by decide +kernel
theorem dX5_role_36 : decode cX5_role 36 = .ok (.invokespecial 62, 3) := by decide +kernel
theorem dX5_role_39 : decode cX5_role 39 = .ok (.athrow, 1) := by decide +kernel
theorem dX5_role_40 : decode cX5_role 40 = .ok (.aload_n 0, 1) := by decide +kernel
theorem dX5_role_41 : decode cX5_role 41 = .ok (.getfield 10, 3) := by decide +kernel
theorem dX5_role_44 : decode cX5_role 44 = .ok (.getfield 81, 3) := by decide +kernel
theorem dX5_role_47 : decode cX5_role 47 = .ok (.iload_n 1, 1) := by decide +kernel
theorem dX5_role_48 : decode cX5_role 48 = .ok (.iaload, 1) := by decide +kernel
theorem dX5_role_49 : decode cX5_role 49 = .ok (.istore_n 3, 1) := by decide +kernel
theorem dX5_role_50 : decode cX5_role 50 = .ok (.aload_n 0, 1) := by decide +kernel
theorem dX5_role_51 : decode cX5_role 51 = .ok (.getfield 10, 3) := by decide +kernel
theorem dX5_role_54 : decode cX5_role 54 = .ok (.getfield 81, 3) := by decide +kernel
theorem dX5_role_57 : decode cX5_role 57 = .ok (.iload_n 1, 1) := by decide +kernel
theorem dX5_role_58 : decode cX5_role 58 = .ok (.iload_n 2, 1) := by decide +kernel
theorem dX5_role_59 : decode cX5_role 59 = .ok (.iastore, 1) := by decide +kernel
theorem dX5_role_60 : decode cX5_role 60 = .ok (.iload_n 3, 1) := by decide +kernel
theorem dX5_role_61 : decode cX5_role 61 = .ok (.ireturn, 1) := by decide +kernel
theorem dX5_right_0 : decode cX5_right 0 = .ok (.iload_n 1, 1) := by decide +kernel
theorem dX5_right_1 : decode cX5_right 1 = .ok (.iconst 1, 1) := by decide +kernel
theorem dX5_right_2 : decode cX5_right 2 = .ok (.if_icmp .lt 14, 3) := by decide +kernel
theorem dX5_right_5 : decode cX5_right 5 = .ok (.aload_n 0, 1) := by decide +kernel
theorem dX5_right_6 : decode cX5_right 6 = .ok (.getfield 10, 3) := by decide +kernel
theorem dX5_right_9 : decode cX5_right 9 = .ok (.iload_n 1, 1) := by decide +kernel
theorem dX5_right_10 : decode cX5_right 10 = .ok (.invokevirtual 50, 3) := by decide +kernel
theorem dX5_right_13 : decode cX5_right 13 = .ok (.ifCond .ne 13, 3) := by decide +kernel
theorem dX5_right_16 : decode cX5_right 16 = .ok (.new 58, 3) := by decide +kernel
theorem dX5_right_19 : decode cX5_right 19 = .ok (.dup, 1) := by decide +kernel
theorem dX5_right_20 : decode cX5_right 20 = .ok (.ldc 79, 2) := by decide +kernel
theorem dX5_right_22 : decode cX5_right 22 = .ok (.invokespecial 62, 3) := by decide +kernel
theorem dX5_right_25 : decode cX5_right 25 = .ok (.athrow, 1) := by decide +kernel
theorem dX5_right_26 : decode cX5_right 26 = .ok (.aload_n 0, 1) := by decide +kernel
theorem dX5_right_27 : decode cX5_right 27 = .ok (.getfield 10, 3) := by decide +kernel
theorem dX5_right_30 : decode cX5_right 30 = .ok (.iload_n 1, 1) := by decide +kernel
theorem dX5_right_31 : decode cX5_right 31 = .ok (.invokevirtual 85, 3) := by decide +kernel
theorem dX5_right_34 : decode cX5_right 34 = .ok (.istore_n 2, 1) := by decide +kernel
theorem dX5_right_35 : decode cX5_right 35 = .ok (.iload_n 2, 1) := by decide +kernel
theorem dX5_right_36 : decode cX5_right 36 = .ok (.iconst (-1), 1) := by decide +kernel
theorem dX5_right_37 : decode cX5_right 37 = .ok (.if_icmp .ne 13, 3) := by decide +kernel
theorem dX5_right_40 : decode cX5_right 40 = .ok (.new 69, 3) := by decide +kernel
theorem dX5_right_43 : decode cX5_right 43 = .ok (.dup, 1) := by decide +kernel
theorem dX5_right_44 : decode cX5_right 44 = .ok (.ldc 89, 2) := by decide +kernel
theorem dX5_right_46 : decode cX5_right 46 = .ok (.invokespecial 73, 3) := by decide +kernel
theorem dX5_right_49 : decode cX5_right 49 = .ok (.athrow, 1) := by decide +kernel
theorem dX5_right_50 : decode cX5_right 50 = .ok (.iload_n 2, 1) := by decide +kernel
theorem dX5_right_51 : decode cX5_right 51 = .ok (.ireturn, 1) := by decide +kernel
theorem dX5_stock_0 : decode cX5_stock 0 = .ok (.iload_n 1, 1) := by decide +kernel
theorem dX5_stock_1 : decode cX5_stock 1 = .ok (.ifCond .lt 8, 3) := by decide +kernel
theorem dX5_stock_4 : decode cX5_stock 4 = .ok (.iload_n 1, 1) := by decide +kernel
theorem dX5_stock_5 : decode cX5_stock 5 = .ok (.iconst 4, 1) := by decide +kernel
theorem dX5_stock_6 : decode cX5_stock 6 = .ok (.if_icmp .lt 13, 3) := by decide +kernel
theorem dX5_stock_9 : decode cX5_stock 9 = .ok (.new 74, 3) := by decide +kernel
theorem dX5_stock_12 : decode cX5_stock 12 = .ok (.dup, 1) := by decide +kernel
theorem dX5_stock_13 : decode cX5_stock 13 = .ok (.ldc 91, 2) := by decide +kernel
theorem dX5_stock_15 : decode cX5_stock 15 = .ok (.invokespecial 78, 3) := by decide +kernel
theorem dX5_stock_18 : decode cX5_stock 18 = .ok (.athrow, 1) := by decide +kernel
theorem dX5_stock_19 : decode cX5_stock 19 = .ok (.iload_n 2, 1) := by decide +kernel
theorem dX5_stock_20 : decode cX5_stock 20 = .ok (.iconst 1, 1) := by decide +kernel
theorem dX5_stock_21 : decode cX5_stock 21 = .ok (.bipush 20, 2) := by decide +kernel
theorem dX5_stock_23 : decode cX5_stock 23 = .ok (.invokestatic 46, 3) := by decide +kernel
theorem dX5_stock_26 : decode cX5_stock 26 = .ok (.ifCond .ne 13, 3) := by decide +kernel
theorem dX5_stock_29 : decode cX5_stock 29 = .ok (.new 58, 3) := by decide +kernel
theorem dX5_stock_32 : decode cX5_stock 32 = .ok (.dup, 1) := by decide +kernel
theorem dX5_stock_33 : decode cX5_stock 33 = .ok (.ldc 93, 2) := by decide +kernel
theorem dX5_stock_35 : decode cX5_stock 35 = .ok (.invokespecial 62, 3) := by decide +kernel
theorem dX5_stock_38 : decode cX5_stock 38 = .ok (.athrow, 1) := by decide +kernel
theorem dX5_stock_39 : decode cX5_stock 39 = .ok (.aload_n 0, 1) := by decide +kernel
theorem dX5_stock_40 : decode cX5_stock 40 = .ok (.getfield 19, 3) := by decide +kernel
theorem dX5_stock_43 : decode cX5_stock 43 = .ok (.iload_n 1, 1) := by decide +kernel
theorem dX5_stock_44 : decode cX5_stock 44 = .ok (.iload_n 2, 1) := by decide +kernel
theorem dX5_stock_45 : decode cX5_stock 45 = .ok (.invokevirtual 95, 3) := by decide +kernel
theorem dX5_stock_48 : decode cX5_stock 48 = .ok (.aload_n 0, 1) := by decide +kernel
theorem dX5_stock_49 : decode cX5_stock 49 = .ok (.getfield 19, 3) := by decide +kernel
theorem dX5_stock_52 : decode cX5_stock 52 = .ok (.getfield 99, 3) := by decide +kernel
theorem dX5_stock_55 : decode cX5_stock 55 = .ok (.iload_n 1, 1) := by decide +kernel
theorem dX5_stock_56 : decode cX5_stock 56 = .ok (.iaload, 1) := by decide +kernel
theorem dX5_stock_57 : decode cX5_stock 57 = .ok (.ireturn, 1) := by decide +kernel
theorem dX5_order_0 : decode cX5_order 0 = .ok (.iload_n 1, 1) := by decide +kernel
theorem dX5_order_1 : decode cX5_order 1 = .ok (.ifCond .lt 8, 3) := by decide +kernel
theorem dX5_order_4 : decode cX5_order 4 = .ok (.iload_n 1, 1) := by decide +kernel
theorem dX5_order_5 : decode cX5_order 5 = .ok (.iconst 4, 1) := by decide +kernel
theorem dX5_order_6 : decode cX5_order 6 = .ok (.if_icmp .lt 13, 3) := by decide +kernel
theorem dX5_order_9 : decode cX5_order 9 = .ok (.new 74, 3) := by decide +kernel
theorem dX5_order_12 : decode cX5_order 12 = .ok (.dup, 1) := by decide +kernel
theorem dX5_order_13 : decode cX5_order 13 = .ok (.ldc 91, 2) := by decide +kernel
theorem dX5_order_15 : decode cX5_order 15 = .ok (.invokespecial 78, 3) := by decide +kernel
theorem dX5_order_18 : decode cX5_order 18 = .ok (.athrow, 1) := by decide +kernel
theorem dX5_order_19 : decode cX5_order 19 = .ok (.iload_n 2, 1) := by decide +kernel
theorem dX5_order_20 : decode cX5_order 20 = .ok (.iconst 1, 1) := by decide +kernel
theorem dX5_order_21 : decode cX5_order 21 = .ok (.bipush 20, 2) := by decide +kernel
theorem dX5_order_23 : decode cX5_order 23 = .ok (.invokestatic 46, 3) := by decide +kernel
theorem dX5_order_26 : decode cX5_order 26 = .ok (.ifCond .eq 11, 3) := by decide +kernel
theorem dX5_order_29 : decode cX5_order 29 = .ok (.aload_n 0, 1) := by decide +kernel
theorem dX5_order_30 : decode cX5_order 30 = .ok (.iload_n 3, 1) := by decide +kernel
theorem dX5_order_31 : decode cX5_order 31 = .ok (.invokevirtual 102, 3) := by decide +kernel
theorem dX5_order_34 : decode cX5_order 34 = .ok (.ifCond .ne 13, 3) := by decide +kernel
theorem dX5_order_37 : decode cX5_order 37 = .ok (.new 58, 3) := by decide +kernel
theorem dX5_order_40 : decode cX5_order 40 = .ok (.dup, 1) := by decide +kernel
theorem dX5_order_41 : decode cX5_order 41 = .ok (.ldc 105, 2) := by decide +kernel
theorem dX5_order_43 : decode cX5_order 43 = .ok (.invokespecial 62, 3) := by decide +kernel
theorem dX5_order_46 : decode cX5_order 46 = .ok (.athrow, 1) := by decide +kernel
theorem dX5_order_47 : decode cX5_order 47 = .ok (.aload_n 0, 1) := by decide +kernel
theorem dX5_order_48 : decode cX5_order 48 = .ok (.getfield 19, 3) := by decide +kernel
theorem dX5_order_51 : decode cX5_order 51 = .ok (.iload_n 1, 1) := by decide +kernel
theorem dX5_order_52 : decode cX5_order 52 = .ok (.iload_n 2, 1) := by decide +kernel
theorem dX5_order_53 : decode cX5_order 53 = .ok (.iload_n 3, 1) := by decide +kernel
theorem dX5_order_54 : decode cX5_order 54 = .ok (.invokevirtual 107, 3) := by decide +kernel
theorem dX5_order_57 : decode cX5_order 57 = .ok (.istore 4, 2) := by decide +kernel
theorem dX5_order_59 : decode cX5_order 59 = .ok (.iload 4, 2) := by decide +kernel
theorem dX5_order_61 : decode cX5_order 61 = .ok (.iconst (-1), 1) := by decide +kernel
theorem dX5_order_62 : decode cX5_order 62 = .ok (.if_icmp .ne 13, 3) := by decide +kernel
theorem dX5_order_65 : decode cX5_order 65 = .ok (.new 69, 3) := by decide +kernel
theorem dX5_order_68 : decode cX5_order 68 = .ok (.dup, 1) := by decide +kernel
theorem dX5_order_69 : decode cX5_order 69 = .ok (.ldc 111, 2) := by decide +kernel
theorem dX5_order_71 : decode cX5_order 71 = .ok (.invokespecial 73, 3) := by decide +kernel
theorem dX5_order_74 : decode cX5_order 74 = .ok (.athrow, 1) := by decide +kernel
theorem dX5_order_75 : decode cX5_order 75 = .ok (.iload 4, 2) := by decide +kernel
theorem dX5_order_77 : decode cX5_order 77 = .ok (.ireturn, 1) := by decide +kernel
theorem dX5_late_0 : decode cX5_late 0 = .ok (.aload_n 0, 1) := by decide +kernel
theorem dX5_late_1 : decode cX5_late 1 = .ok (.iload_n 1, 1) := by decide +kernel
theorem dX5_late_2 : decode cX5_late 2 = .ok (.iload_n 2, 1) := by decide +kernel
theorem dX5_late_3 : decode cX5_late 3 = .ok (.invokevirtual 113, 3) := by decide +kernel
theorem dX5_late_6 : decode cX5_late 6 = .ok (.aload_n 0, 1) := by decide +kernel
theorem dX5_late_7 : decode cX5_late 7 = .ok (.getfield 19, 3) := by decide +kernel
theorem dX5_late_10 : decode cX5_late 10 = .ok (.iload_n 1, 1) := by decide +kernel
theorem dX5_late_11 : decode cX5_late 11 = .ok (.iload_n 2, 1) := by decide +kernel
theorem dX5_late_12 : decode cX5_late 12 = .ok (.invokevirtual 116, 3) := by decide +kernel
theorem dX5_late_15 : decode cX5_late 15 = .ok (.ireturn, 1) := by decide +kernel
theorem dX5_session_0 : decode cX5_session 0 = .ok (.iload_n 1, 1) := by decide +kernel
theorem dX5_session_1 : decode cX5_session 1 = .ok (.ifCond .lt 14, 3) := by decide +kernel
theorem dX5_session_4 : decode cX5_session 4 = .ok (.iload_n 1, 1) := by decide +kernel
theorem dX5_session_5 : decode cX5_session 5 = .ok (.aload_n 0, 1) := by decide +kernel
theorem dX5_session_6 : decode cX5_session 6 = .ok (.getfield 10, 3) := by decide +kernel
theorem dX5_session_9 : decode cX5_session 9 = .ok (.getfield 120, 3) := by decide +kernel
theorem dX5_session_12 : decode cX5_session 12 = .ok (.if_icmp .lt 13, 3) := by decide +kernel
theorem dX5_session_15 : decode cX5_session 15 = .ok (.new 74, 3) := by decide +kernel
theorem dX5_session_18 : decode cX5_session 18 = .ok (.dup, 1) := by decide +kernel
theorem dX5_session_19 : decode cX5_session 19 = .ok (.ldc 124, 2) := by decide +kernel
theorem dX5_session_21 : decode cX5_session 21 = .ok (.invokespecial 78, 3) := by decide +kernel
theorem dX5_session_24 : decode cX5_session 24 = .ok (.athrow, 1) := by decide +kernel
theorem dX5_session_25 : decode cX5_session 25 = .ok (.aload_n 0, 1) := by decide +kernel
theorem dX5_session_26 : decode cX5_session 26 = .ok (.getfield 10, 3) := by decide +kernel
theorem dX5_session_29 : decode cX5_session 29 = .ok (.getfield 126, 3) := by decide +kernel
theorem dX5_session_32 : decode cX5_session 32 = .ok (.iload_n 1, 1) := by decide +kernel
theorem dX5_session_33 : decode cX5_session 33 = .ok (.iaload, 1) := by decide +kernel
theorem dX5_session_34 : decode cX5_session 34 = .ok (.iconst 2, 1) := by decide +kernel
theorem dX5_session_35 : decode cX5_session 35 = .ok (.if_icmp .ne 21, 3) := by decide +kernel
theorem dX5_session_38 : decode cX5_session 38 = .ok (.aload_n 0, 1) := by decide +kernel
theorem dX5_session_39 : decode cX5_session 39 = .ok (.iload_n 2, 1) := by decide +kernel
theorem dX5_session_40 : decode cX5_session 40 = .ok (.invokevirtual 102, 3) := by decide +kernel
theorem dX5_session_43 : decode cX5_session 43 = .ok (.ifCond .eq 13, 3) := by decide +kernel
theorem dX5_session_46 : decode cX5_session 46 = .ok (.iload_n 3, 1) := by decide +kernel
theorem dX5_session_47 : decode cX5_session 47 = .ok (.iconst 1, 1) := by decide +kernel
theorem dX5_session_48 : decode cX5_session 48 = .ok (.bipush 9, 2) := by decide +kernel
theorem dX5_session_50 : decode cX5_session 50 = .ok (.invokestatic 46, 3) := by decide +kernel
theorem dX5_session_53 : decode cX5_session 53 = .ok (.ifCond .ne 13, 3) := by decide +kernel
theorem dX5_session_56 : decode cX5_session 56 = .ok (.new 58, 3) := by decide +kernel
theorem dX5_session_59 : decode cX5_session 59 = .ok (.dup, 1) := by decide +kernel
theorem dX5_session_60 : decode cX5_session 60 = .ok (.ldc 129, 2) := by decide +kernel
theorem dX5_session_62 : decode cX5_session 62 = .ok (.invokespecial 62, 3) := by decide +kernel
theorem dX5_session_65 : decode cX5_session 65 = .ok (.athrow, 1) := by decide +kernel
theorem dX5_session_66 : decode cX5_session 66 = .ok (.aload_n 0, 1) := by decide +kernel
theorem dX5_session_67 : decode cX5_session 67 = .ok (.getfield 26, 3) := by decide +kernel
theorem dX5_session_70 : decode cX5_session 70 = .ok (.iload_n 1, 1) := by decide +kernel
theorem dX5_session_71 : decode cX5_session 71 = .ok (.iload_n 2, 1) := by decide +kernel
theorem dX5_session_72 : decode cX5_session 72 = .ok (.iload_n 3, 1) := by decide +kernel
theorem dX5_session_73 : decode cX5_session 73 = .ok (.invokevirtual 131, 3) := by decide +kernel
theorem dX5_session_76 : decode cX5_session 76 = .ok (.istore 4, 2) := by decide +kernel
theorem dX5_session_78 : decode cX5_session 78 = .ok (.iload 4, 2) := by decide +kernel
theorem dX5_session_80 : decode cX5_session 80 = .ok (.iconst (-1), 1) := by decide +kernel
theorem dX5_session_81 : decode cX5_session 81 = .ok (.if_icmp .ne 13, 3) := by decide +kernel
theorem dX5_session_84 : decode cX5_session 84 = .ok (.new 69, 3) := by decide +kernel
theorem dX5_session_87 : decode cX5_session 87 = .ok (.dup, 1) := by decide +kernel
theorem dX5_session_88 : decode cX5_session 88 = .ok (.ldc 134, 2) := by decide +kernel
theorem dX5_session_90 : decode cX5_session 90 = .ok (.invokespecial 73, 3) := by decide +kernel
theorem dX5_session_93 : decode cX5_session 93 = .ok (.athrow, 1) := by decide +kernel
theorem dX5_session_94 : decode cX5_session 94 = .ok (.aload_n 0, 1) := by decide +kernel
theorem dX5_session_95 : decode cX5_session 95 = .ok (.invokevirtual 136, 3) := by decide +kernel
theorem dX5_session_98 : decode cX5_session 98 = .ok (.iload 4, 2) := by decide +kernel
theorem dX5_session_100 : decode cX5_session 100 = .ok (.ireturn, 1) := by decide +kernel
theorem dX5_ofSession_0 : decode cX5_ofSession 0 = .ok (.iload_n 1, 1) := by decide +kernel
theorem dX5_ofSession_1 : decode cX5_ofSession 1 = .ok (.ifCond .lt 14, 3) := by decide +kernel
theorem dX5_ofSession_4 : decode cX5_ofSession 4 = .ok (.iload_n 1, 1) := by decide +kernel
theorem dX5_ofSession_5 : decode cX5_ofSession 5 = .ok (.aload_n 0, 1) := by decide +kernel
theorem dX5_ofSession_6 : decode cX5_ofSession 6 = .ok (.getfield 26, 3) := by decide +kernel
theorem dX5_ofSession_9 : decode cX5_ofSession 9 = .ok (.getfield 139, 3) := by decide +kernel
theorem dX5_ofSession_12 : decode cX5_ofSession 12 = .ok (.if_icmp .lt 13, 3) := by decide +kernel
theorem dX5_ofSession_15 : decode cX5_ofSession 15 = .ok (.new 74, 3) := by decide +kernel
theorem dX5_ofSession_18 : decode cX5_ofSession 18 = .ok (.dup, 1) := by decide +kernel
theorem dX5_ofSession_19 : decode cX5_ofSession 19 = .ok (.ldc 142, 2) := by decide +kernel
theorem dX5_ofSession_21 : decode cX5_ofSession 21 = .ok (.invokespecial 78, 3) := by decide +kernel
theorem dX5_ofSession_24 : decode cX5_ofSession 24 = .ok (.athrow, 1) := by decide +kernel
theorem dX5_ofSession_25 : decode cX5_ofSession 25 = .ok (.iload_n 2, 1) := by decide +kernel
theorem dX5_ofSession_26 : decode cX5_ofSession 26 = .ok (.iconst 0, 1) := by decide +kernel
theorem dX5_ofSession_27 : decode cX5_ofSession 27 = .ok (.iconst 3, 1) := by decide +kernel
theorem dX5_ofSession_28 : decode cX5_ofSession 28 = .ok (.invokestatic 46, 3) := by decide +kernel
theorem dX5_ofSession_31 : decode cX5_ofSession 31 = .ok (.ifCond .ne 13, 3) := by decide +kernel
theorem dX5_ofSession_34 : decode cX5_ofSession 34 = .ok (.new 58, 3) := by decide +kernel
theorem dX5_ofSession_37 : decode cX5_ofSession 37 = .ok (.dup, 1) := by decide +kernel
theorem dX5_ofSession_38 : decode cX5_ofSession 38 = .ok (.ldc 144, 2) := by decide +kernel
theorem dX5_ofSession_40 : decode cX5_ofSession 40 = .ok (.invokespecial 62, 3) := by decide +kernel
theorem dX5_ofSession_43 : decode cX5_ofSession 43 = .ok (.athrow, 1) := by decide +kernel
theorem dX5_ofSession_44 : decode cX5_ofSession 44 = .ok (.iload_n 2, 1) := by decide +kernel
theorem dX5_ofSession_45 : decode cX5_ofSession 45 = .ok (.tableswitch 57 0 2 #[27, 37, 47], 27) := by decide +kernel
theorem dX5_ofSession_72 : decode cX5_ofSession 72 = .ok (.aload_n 0, 1) := by decide +kernel
theorem dX5_ofSession_73 : decode cX5_ofSession 73 = .ok (.getfield 26, 3) := by decide +kernel
theorem dX5_ofSession_76 : decode cX5_ofSession 76 = .ok (.getfield 146, 3) := by decide +kernel
theorem dX5_ofSession_79 : decode cX5_ofSession 79 = .ok (.iload_n 1, 1) := by decide +kernel
theorem dX5_ofSession_80 : decode cX5_ofSession 80 = .ok (.iaload, 1) := by decide +kernel
theorem dX5_ofSession_81 : decode cX5_ofSession 81 = .ok (.ireturn, 1) := by decide +kernel
theorem dX5_ofSession_82 : decode cX5_ofSession 82 = .ok (.aload_n 0, 1) := by decide +kernel
theorem dX5_ofSession_83 : decode cX5_ofSession 83 = .ok (.getfield 26, 3) := by decide +kernel
theorem dX5_ofSession_86 : decode cX5_ofSession 86 = .ok (.getfield 149, 3) := by decide +kernel
theorem dX5_ofSession_89 : decode cX5_ofSession 89 = .ok (.iload_n 1, 1) := by decide +kernel
theorem dX5_ofSession_90 : decode cX5_ofSession 90 = .ok (.iaload, 1) := by decide +kernel
theorem dX5_ofSession_91 : decode cX5_ofSession 91 = .ok (.ireturn, 1) := by decide +kernel
theorem dX5_ofSession_92 : decode cX5_ofSession 92 = .ok (.aload_n 0, 1) := by decide +kernel
theorem dX5_ofSession_93 : decode cX5_ofSession 93 = .ok (.getfield 26, 3) := by decide +kernel
theorem dX5_ofSession_96 : decode cX5_ofSession 96 = .ok (.getfield 152, 3) := by decide +kernel
theorem dX5_ofSession_99 : decode cX5_ofSession 99 = .ok (.iload_n 1, 1) := by decide +kernel
theorem dX5_ofSession_100 : decode cX5_ofSession 100 = .ok (.iaload, 1) := by decide +kernel
theorem dX5_ofSession_101 : decode cX5_ofSession 101 = .ok (.ireturn, 1) := by decide +kernel
theorem dX5_ofSession_102 : decode cX5_ofSession 102 = .ok (.aload_n 0, 1) := by decide +kernel
theorem dX5_ofSession_103 : decode cX5_ofSession 103 = .ok (.getfield 26, 3) := by decide +kernel
theorem dX5_ofSession_106 : decode cX5_ofSession 106 = .ok (.getfield 155, 3) := by decide +kernel
theorem dX5_ofSession_109 : decode cX5_ofSession 109 = .ok (.iload_n 1, 1) := by decide +kernel
theorem dX5_ofSession_110 : decode cX5_ofSession 110 = .ok (.iaload, 1) := by decide +kernel
theorem dX5_ofSession_111 : decode cX5_ofSession 111 = .ok (.ireturn, 1) := by decide +kernel
theorem dX5_ofItem_0 : decode cX5_ofItem 0 = .ok (.iload_n 1, 1) := by decide +kernel
theorem dX5_ofItem_1 : decode cX5_ofItem 1 = .ok (.ifCond .lt 8, 3) := by decide +kernel
theorem dX5_ofItem_4 : decode cX5_ofItem 4 = .ok (.iload_n 1, 1) := by decide +kernel
theorem dX5_ofItem_5 : decode cX5_ofItem 5 = .ok (.iconst 4, 1) := by decide +kernel
theorem dX5_ofItem_6 : decode cX5_ofItem 6 = .ok (.if_icmp .lt 13, 3) := by decide +kernel
theorem dX5_ofItem_9 : decode cX5_ofItem 9 = .ok (.new 74, 3) := by decide +kernel
theorem dX5_ofItem_12 : decode cX5_ofItem 12 = .ok (.dup, 1) := by decide +kernel
theorem dX5_ofItem_13 : decode cX5_ofItem 13 = .ok (.ldc 91, 2) := by decide +kernel
theorem dX5_ofItem_15 : decode cX5_ofItem 15 = .ok (.invokespecial 78, 3) := by decide +kernel
theorem dX5_ofItem_18 : decode cX5_ofItem 18 = .ok (.athrow, 1) := by decide +kernel
theorem dX5_ofItem_19 : decode cX5_ofItem 19 = .ok (.iload_n 2, 1) := by decide +kernel
theorem dX5_ofItem_20 : decode cX5_ofItem 20 = .ok (.iconst 0, 1) := by decide +kernel
theorem dX5_ofItem_21 : decode cX5_ofItem 21 = .ok (.iconst 3, 1) := by decide +kernel
theorem dX5_ofItem_22 : decode cX5_ofItem 22 = .ok (.invokestatic 46, 3) := by decide +kernel
theorem dX5_ofItem_25 : decode cX5_ofItem 25 = .ok (.ifCond .ne 13, 3) := by decide +kernel
theorem dX5_ofItem_28 : decode cX5_ofItem 28 = .ok (.new 58, 3) := by decide +kernel
theorem dX5_ofItem_31 : decode cX5_ofItem 31 = .ok (.dup, 1) := by decide +kernel
theorem dX5_ofItem_32 : decode cX5_ofItem 32 = .ok (.ldc 158, 2) := by decide +kernel
theorem dX5_ofItem_34 : decode cX5_ofItem 34 = .ok (.invokespecial 62, 3) := by decide +kernel
theorem dX5_ofItem_37 : decode cX5_ofItem 37 = .ok (.athrow, 1) := by decide +kernel
theorem dX5_ofItem_38 : decode cX5_ofItem 38 = .ok (.iload_n 2, 1) := by decide +kernel
theorem dX5_ofItem_39 : decode cX5_ofItem 39 = .ok (.tableswitch 63 0 2 #[25, 35, 48], 25) := by decide +kernel
theorem dX5_ofItem_64 : decode cX5_ofItem 64 = .ok (.aload_n 0, 1) := by decide +kernel
theorem dX5_ofItem_65 : decode cX5_ofItem 65 = .ok (.getfield 19, 3) := by decide +kernel
theorem dX5_ofItem_68 : decode cX5_ofItem 68 = .ok (.getfield 99, 3) := by decide +kernel
theorem dX5_ofItem_71 : decode cX5_ofItem 71 = .ok (.iload_n 1, 1) := by decide +kernel
theorem dX5_ofItem_72 : decode cX5_ofItem 72 = .ok (.iaload, 1) := by decide +kernel
theorem dX5_ofItem_73 : decode cX5_ofItem 73 = .ok (.ireturn, 1) := by decide +kernel
theorem dX5_ofItem_74 : decode cX5_ofItem 74 = .ok (.aload_n 0, 1) := by decide +kernel
theorem dX5_ofItem_75 : decode cX5_ofItem 75 = .ok (.getfield 19, 3) := by decide +kernel
theorem dX5_ofItem_78 : decode cX5_ofItem 78 = .ok (.iload_n 1, 1) := by decide +kernel
theorem dX5_ofItem_79 : decode cX5_ofItem 79 = .ok (.aload_n 0, 1) := by decide +kernel
theorem dX5_ofItem_80 : decode cX5_ofItem 80 = .ok (.getfield 160, 3) := by decide +kernel
theorem dX5_ofItem_83 : decode cX5_ofItem 83 = .ok (.invokevirtual 163, 3) := by decide +kernel
theorem dX5_ofItem_86 : decode cX5_ofItem 86 = .ok (.ireturn, 1) := by decide +kernel
theorem dX5_ofItem_87 : decode cX5_ofItem 87 = .ok (.aload_n 0, 1) := by decide +kernel
theorem dX5_ofItem_88 : decode cX5_ofItem 88 = .ok (.getfield 19, 3) := by decide +kernel
theorem dX5_ofItem_91 : decode cX5_ofItem 91 = .ok (.iload_n 1, 1) := by decide +kernel
theorem dX5_ofItem_92 : decode cX5_ofItem 92 = .ok (.aload_n 0, 1) := by decide +kernel
theorem dX5_ofItem_93 : decode cX5_ofItem 93 = .ok (.getfield 160, 3) := by decide +kernel
theorem dX5_ofItem_96 : decode cX5_ofItem 96 = .ok (.iconst (-1), 1) := by decide +kernel
theorem dX5_ofItem_97 : decode cX5_ofItem 97 = .ok (.iconst 0, 1) := by decide +kernel
theorem dX5_ofItem_98 : decode cX5_ofItem 98 = .ok (.invokevirtual 166, 3) := by decide +kernel
theorem dX5_ofItem_101 : decode cX5_ofItem 101 = .ok (.ireturn, 1) := by decide +kernel
theorem dX5_ofItem_102 : decode cX5_ofItem 102 = .ok (.aload_n 0, 1) := by decide +kernel
theorem dX5_ofItem_103 : decode cX5_ofItem 103 = .ok (.iload_n 1, 1) := by decide +kernel
theorem dX5_ofItem_104 : decode cX5_ofItem 104 = .ok (.invokevirtual 169, 3) := by decide +kernel
theorem dX5_ofItem_107 : decode cX5_ofItem 107 = .ok (.ireturn, 1) := by decide +kernel
theorem dX5_join_0 : decode cX5_join 0 = .ok (.iload_n 1, 1) := by decide +kernel
theorem dX5_join_1 : decode cX5_join 1 = .ok (.ifCond .lt 8, 3) := by decide +kernel
theorem dX5_join_4 : decode cX5_join 4 = .ok (.iload_n 1, 1) := by decide +kernel
theorem dX5_join_5 : decode cX5_join 5 = .ok (.iconst 4, 1) := by decide +kernel
theorem dX5_join_6 : decode cX5_join 6 = .ok (.if_icmp .lt 13, 3) := by decide +kernel
theorem dX5_join_9 : decode cX5_join 9 = .ok (.new 74, 3) := by decide +kernel
theorem dX5_join_12 : decode cX5_join 12 = .ok (.dup, 1) := by decide +kernel
theorem dX5_join_13 : decode cX5_join 13 = .ok (.ldc 76, 2) := by decide +kernel
theorem dX5_join_15 : decode cX5_join 15 = .ok (.invokespecial 78, 3) := by decide +kernel
theorem dX5_join_18 : decode cX5_join 18 = .ok (.athrow, 1) := by decide +kernel
theorem dX5_join_19 : decode cX5_join 19 = .ok (.aload_n 0, 1) := by decide +kernel
theorem dX5_join_20 : decode cX5_join 20 = .ok (.iload_n 2, 1) := by decide +kernel
theorem dX5_join_21 : decode cX5_join 21 = .ok (.invokevirtual 102, 3) := by decide +kernel
theorem dX5_join_24 : decode cX5_join 24 = .ok (.ifCond .ne 13, 3) := by decide +kernel
theorem dX5_join_27 : decode cX5_join 27 = .ok (.new 58, 3) := by decide +kernel
theorem dX5_join_30 : decode cX5_join 30 = .ok (.dup, 1) := by decide +kernel
theorem dX5_join_31 : decode cX5_join 31 = .ok (.ldc 172, 2) := by decide +kernel
theorem dX5_join_33 : decode cX5_join 33 = .ok (.invokespecial 62, 3) := by decide +kernel
theorem dX5_join_36 : decode cX5_join 36 = .ok (.athrow, 1) := by decide +kernel
theorem dX5_join_37 : decode cX5_join 37 = .ok (.aload_n 0, 1) := by decide +kernel
theorem dX5_join_38 : decode cX5_join 38 = .ok (.getfield 174, 3) := by decide +kernel
theorem dX5_join_41 : decode cX5_join 41 = .ok (.bipush 8, 2) := by decide +kernel
theorem dX5_join_43 : decode cX5_join 43 = .ok (.if_icmp .ge 15, 3) := by decide +kernel
theorem dX5_join_46 : decode cX5_join 46 = .ok (.aload_n 0, 1) := by decide +kernel
theorem dX5_join_47 : decode cX5_join 47 = .ok (.getfield 10, 3) := by decide +kernel
theorem dX5_join_50 : decode cX5_join 50 = .ok (.getfield 81, 3) := by decide +kernel
theorem dX5_join_53 : decode cX5_join 53 = .ok (.iload_n 1, 1) := by decide +kernel
theorem dX5_join_54 : decode cX5_join 54 = .ok (.iaload, 1) := by decide +kernel
theorem dX5_join_55 : decode cX5_join 55 = .ok (.ifCond .ne 13, 3) := by decide +kernel
theorem dX5_join_58 : decode cX5_join 58 = .ok (.new 69, 3) := by decide +kernel
theorem dX5_join_61 : decode cX5_join 61 = .ok (.dup, 1) := by decide +kernel
theorem dX5_join_62 : decode cX5_join 62 = .ok (.ldc 177, 2) := by decide +kernel
theorem dX5_join_64 : decode cX5_join 64 = .ok (.invokespecial 73, 3) := by decide +kernel
theorem dX5_join_67 : decode cX5_join 67 = .ok (.athrow, 1) := by decide +kernel
theorem dX5_join_68 : decode cX5_join 68 = .ok (.aload_n 0, 1) := by decide +kernel
theorem dX5_join_69 : decode cX5_join 69 = .ok (.getfield 174, 3) := by decide +kernel
theorem dX5_join_72 : decode cX5_join 72 = .ok (.istore_n 3, 1) := by decide +kernel
theorem dX5_join_73 : decode cX5_join 73 = .ok (.aload_n 0, 1) := by decide +kernel
theorem dX5_join_74 : decode cX5_join 74 = .ok (.dup, 1) := by decide +kernel
theorem dX5_join_75 : decode cX5_join 75 = .ok (.getfield 174, 3) := by decide +kernel
theorem dX5_join_78 : decode cX5_join 78 = .ok (.iconst 1, 1) := by decide +kernel
theorem dX5_join_79 : decode cX5_join 79 = .ok (.iadd, 1) := by decide +kernel
theorem dX5_join_80 : decode cX5_join 80 = .ok (.putfield 174, 3) := by decide +kernel
theorem dX5_join_83 : decode cX5_join 83 = .ok (.aload_n 0, 1) := by decide +kernel
theorem dX5_join_84 : decode cX5_join 84 = .ok (.iload_n 3, 1) := by decide +kernel
theorem dX5_join_85 : decode cX5_join 85 = .ok (.invokevirtual 179, 3) := by decide +kernel
theorem dX5_join_88 : decode cX5_join 88 = .ok (.astore 4, 2) := by decide +kernel
theorem dX5_join_90 : decode cX5_join 90 = .ok (.aload 4, 2) := by decide +kernel
theorem dX5_join_92 : decode cX5_join 92 = .ok (.aload_n 0, 1) := by decide +kernel
theorem dX5_join_93 : decode cX5_join 93 = .ok (.getfield 10, 3) := by decide +kernel
theorem dX5_join_96 : decode cX5_join 96 = .ok (.getfield 81, 3) := by decide +kernel
theorem dX5_join_99 : decode cX5_join 99 = .ok (.iload_n 1, 1) := by decide +kernel
theorem dX5_join_100 : decode cX5_join 100 = .ok (.iaload, 1) := by decide +kernel
theorem dX5_join_101 : decode cX5_join 101 = .ok (.putfield 183, 3) := by decide +kernel
theorem dX5_join_104 : decode cX5_join 104 = .ok (.aload 4, 2) := by decide +kernel
theorem dX5_join_106 : decode cX5_join 106 = .ok (.iload_n 2, 1) := by decide +kernel
theorem dX5_join_107 : decode cX5_join 107 = .ok (.putfield 186, 3) := by decide +kernel
theorem dX5_join_110 : decode cX5_join 110 = .ok (.aload_n 0, 1) := by decide +kernel
theorem dX5_join_111 : decode cX5_join 111 = .ok (.invokevirtual 136, 3) := by decide +kernel
theorem dX5_join_114 : decode cX5_join 114 = .ok (.iload_n 3, 1) := by decide +kernel
theorem dX5_join_115 : decode cX5_join 115 = .ok (.ireturn, 1) := by decide +kernel
theorem dX5_leave_0 : decode cX5_leave 0 = .ok (.aload_n 0, 1) := by decide +kernel
theorem dX5_leave_1 : decode cX5_leave 1 = .ok (.iload_n 1, 1) := by decide +kernel
theorem dX5_leave_2 : decode cX5_leave 2 = .ok (.invokevirtual 179, 3) := by decide +kernel
theorem dX5_leave_5 : decode cX5_leave 5 = .ok (.astore_n 2, 1) := by decide +kernel
theorem dX5_leave_6 : decode cX5_leave 6 = .ok (.aload_n 2, 1) := by decide +kernel
theorem dX5_leave_7 : decode cX5_leave 7 = .ok (.getfield 189, 3) := by decide +kernel
theorem dX5_leave_10 : decode cX5_leave 10 = .ok (.ifCond .eq 13, 3) := by decide +kernel
theorem dX5_leave_13 : decode cX5_leave 13 = .ok (.new 69, 3) := by decide +kernel
theorem dX5_leave_16 : decode cX5_leave 16 = .ok (.dup, 1) := by decide +kernel
theorem dX5_leave_17 : decode cX5_leave 17 = .ok (.ldc 193, 2) := by decide +kernel
theorem dX5_leave_19 : decode cX5_leave 19 = .ok (.invokespecial 73, 3) := by decide +kernel
theorem dX5_leave_22 : decode cX5_leave 22 = .ok (.athrow, 1) := by decide +kernel
theorem dX5_leave_23 : decode cX5_leave 23 = .ok (.aload_n 2, 1) := by decide +kernel
theorem dX5_leave_24 : decode cX5_leave 24 = .ok (.iconst 1, 1) := by decide +kernel
theorem dX5_leave_25 : decode cX5_leave 25 = .ok (.putfield 189, 3) := by decide +kernel
theorem dX5_leave_28 : decode cX5_leave 28 = .ok (.iconst 0, 1) := by decide +kernel
theorem dX5_leave_29 : decode cX5_leave 29 = .ok (.istore_n 3, 1) := by decide +kernel
theorem dX5_leave_30 : decode cX5_leave 30 = .ok (.iload_n 3, 1) := by decide +kernel
theorem dX5_leave_31 : decode cX5_leave 31 = .ok (.bipush 12, 2) := by decide +kernel
theorem dX5_leave_33 : decode cX5_leave 33 = .ok (.if_icmp .ge 38, 3) := by decide +kernel
theorem dX5_leave_36 : decode cX5_leave 36 = .ok (.aload_n 2, 1) := by decide +kernel
theorem dX5_leave_37 : decode cX5_leave 37 = .ok (.getfield 195, 3) := by decide +kernel
theorem dX5_leave_40 : decode cX5_leave 40 = .ok (.iload_n 3, 1) := by decide +kernel
theorem dX5_leave_41 : decode cX5_leave 41 = .ok (.iaload, 1) := by decide +kernel
theorem dX5_leave_42 : decode cX5_leave 42 = .ok (.ifCond .ne 23, 3) := by decide +kernel
theorem dX5_leave_45 : decode cX5_leave 45 = .ok (.aload_n 0, 1) := by decide +kernel
theorem dX5_leave_46 : decode cX5_leave 46 = .ok (.getfield 26, 3) := by decide +kernel
theorem dX5_leave_49 : decode cX5_leave 49 = .ok (.aload_n 2, 1) := by decide +kernel
theorem dX5_leave_50 : decode cX5_leave 50 = .ok (.getfield 198, 3) := by decide +kernel
theorem dX5_leave_53 : decode cX5_leave 53 = .ok (.iload_n 3, 1) := by decide +kernel
theorem dX5_leave_54 : decode cX5_leave 54 = .ok (.iaload, 1) := by decide +kernel
theorem dX5_leave_55 : decode cX5_leave 55 = .ok (.invokevirtual 201, 3) := by decide +kernel
theorem dX5_leave_58 : decode cX5_leave 58 = .ok (.aload_n 2, 1) := by decide +kernel
theorem dX5_leave_59 : decode cX5_leave 59 = .ok (.getfield 198, 3) := by decide +kernel
theorem dX5_leave_62 : decode cX5_leave 62 = .ok (.iload_n 3, 1) := by decide +kernel
theorem dX5_leave_63 : decode cX5_leave 63 = .ok (.iconst (-1), 1) := by decide +kernel
theorem dX5_leave_64 : decode cX5_leave 64 = .ok (.iastore, 1) := by decide +kernel
theorem dX5_leave_65 : decode cX5_leave 65 = .ok (.iinc 3 1, 3) := by decide +kernel
theorem dX5_leave_68 : decode cX5_leave 68 = .ok (.goto (-38), 3) := by decide +kernel
theorem dX5_leave_71 : decode cX5_leave 71 = .ok (.aload_n 0, 1) := by decide +kernel
theorem dX5_leave_72 : decode cX5_leave 72 = .ok (.invokevirtual 136, 3) := by decide +kernel
theorem dX5_leave_75 : decode cX5_leave 75 = .ok (.aload_n 2, 1) := by decide +kernel
theorem dX5_leave_76 : decode cX5_leave 76 = .ok (.iconst 1, 1) := by decide +kernel
theorem dX5_leave_77 : decode cX5_leave 77 = .ok (.invokevirtual 205, 3) := by decide +kernel
theorem dX5_leave_80 : decode cX5_leave 80 = .ok (.aload_n 2, 1) := by decide +kernel
theorem dX5_leave_81 : decode cX5_leave 81 = .ok (.iconst 2, 1) := by decide +kernel
theorem dX5_leave_82 : decode cX5_leave 82 = .ok (.invokevirtual 205, 3) := by decide +kernel
theorem dX5_leave_85 : decode cX5_leave 85 = .ok (.iadd, 1) := by decide +kernel
theorem dX5_leave_86 : decode cX5_leave 86 = .ok (.ireturn, 1) := by decide +kernel
theorem dX5_day_0 : decode cX5_day 0 = .ok (.aload_n 0, 1) := by decide +kernel
theorem dX5_day_1 : decode cX5_day 1 = .ok (.getfield 160, 3) := by decide +kernel
theorem dX5_day_4 : decode cX5_day 4 = .ok (.sipush 199, 3) := by decide +kernel
theorem dX5_day_7 : decode cX5_day 7 = .ok (.if_icmp .lt 13, 3) := by decide +kernel
theorem dX5_day_10 : decode cX5_day 10 = .ok (.new 69, 3) := by decide +kernel
theorem dX5_day_13 : decode cX5_day 13 = .ok (.dup, 1) := by decide +kernel
theorem dX5_day_14 : decode cX5_day 14 = .ok (.ldc 208, 2) := by decide +kernel
theorem dX5_day_16 : decode cX5_day 16 = .ok (.invokespecial 73, 3) := by decide +kernel
theorem dX5_day_19 : decode cX5_day 19 = .ok (.athrow, 1) := by decide +kernel
theorem dX5_day_20 : decode cX5_day 20 = .ok (.aload_n 0, 1) := by decide +kernel
theorem dX5_day_21 : decode cX5_day 21 = .ok (.dup, 1) := by decide +kernel
theorem dX5_day_22 : decode cX5_day 22 = .ok (.getfield 160, 3) := by decide +kernel
theorem dX5_day_25 : decode cX5_day 25 = .ok (.iconst 1, 1) := by decide +kernel
theorem dX5_day_26 : decode cX5_day 26 = .ok (.iadd, 1) := by decide +kernel
theorem dX5_day_27 : decode cX5_day 27 = .ok (.putfield 160, 3) := by decide +kernel
theorem dX5_day_30 : decode cX5_day 30 = .ok (.aload_n 0, 1) := by decide +kernel
theorem dX5_day_31 : decode cX5_day 31 = .ok (.getfield 19, 3) := by decide +kernel
theorem dX5_day_34 : decode cX5_day 34 = .ok (.aload_n 0, 1) := by decide +kernel
theorem dX5_day_35 : decode cX5_day 35 = .ok (.getfield 160, 3) := by decide +kernel
theorem dX5_day_38 : decode cX5_day 38 = .ok (.invokevirtual 210, 3) := by decide +kernel
theorem dX5_day_41 : decode cX5_day 41 = .ok (.iconst 0, 1) := by decide +kernel
theorem dX5_day_42 : decode cX5_day 42 = .ok (.istore_n 1, 1) := by decide +kernel
theorem dX5_day_43 : decode cX5_day 43 = .ok (.iconst 0, 1) := by decide +kernel
theorem dX5_day_44 : decode cX5_day 44 = .ok (.istore_n 2, 1) := by decide +kernel
theorem dX5_day_45 : decode cX5_day 45 = .ok (.iload_n 2, 1) := by decide +kernel
theorem dX5_day_46 : decode cX5_day 46 = .ok (.aload_n 0, 1) := by decide +kernel
theorem dX5_day_47 : decode cX5_day 47 = .ok (.getfield 174, 3) := by decide +kernel
theorem dX5_day_50 : decode cX5_day 50 = .ok (.if_icmp .ge 24, 3) := by decide +kernel
theorem dX5_day_53 : decode cX5_day 53 = .ok (.iload_n 1, 1) := by decide +kernel
theorem dX5_day_54 : decode cX5_day 54 = .ok (.aload_n 0, 1) := by decide +kernel
theorem dX5_day_55 : decode cX5_day 55 = .ok (.iload_n 2, 1) := by decide +kernel
theorem dX5_day_56 : decode cX5_day 56 = .ok (.invokevirtual 179, 3) := by decide +kernel
theorem dX5_day_59 : decode cX5_day 59 = .ok (.aload_n 0, 1) := by decide +kernel
theorem dX5_day_60 : decode cX5_day 60 = .ok (.getfield 160, 3) := by decide +kernel
theorem dX5_day_63 : decode cX5_day 63 = .ok (.invokevirtual 213, 3) := by decide +kernel
theorem dX5_day_66 : decode cX5_day 66 = .ok (.iadd, 1) := by decide +kernel
theorem dX5_day_67 : decode cX5_day 67 = .ok (.istore_n 1, 1) := by decide +kernel
theorem dX5_day_68 : decode cX5_day 68 = .ok (.iinc 2 1, 3) := by decide +kernel
theorem dX5_day_71 : decode cX5_day 71 = .ok (.goto (-26), 3) := by decide +kernel
theorem dX5_day_74 : decode cX5_day 74 = .ok (.iconst 0, 1) := by decide +kernel
theorem dX5_day_75 : decode cX5_day 75 = .ok (.istore_n 2, 1) := by decide +kernel
theorem dX5_day_76 : decode cX5_day 76 = .ok (.iload_n 2, 1) := by decide +kernel
theorem dX5_day_77 : decode cX5_day 77 = .ok (.aload_n 0, 1) := by decide +kernel
theorem dX5_day_78 : decode cX5_day 78 = .ok (.getfield 174, 3) := by decide +kernel
theorem dX5_day_81 : decode cX5_day 81 = .ok (.if_icmp .ge 18, 3) := by decide +kernel
theorem dX5_day_84 : decode cX5_day 84 = .ok (.aload_n 0, 1) := by decide +kernel
theorem dX5_day_85 : decode cX5_day 85 = .ok (.aload_n 0, 1) := by decide +kernel
theorem dX5_day_86 : decode cX5_day 86 = .ok (.iload_n 2, 1) := by decide +kernel
theorem dX5_day_87 : decode cX5_day 87 = .ok (.invokevirtual 179, 3) := by decide +kernel
theorem dX5_day_90 : decode cX5_day 90 = .ok (.invokevirtual 216, 3) := by decide +kernel
theorem dX5_day_93 : decode cX5_day 93 = .ok (.iinc 2 1, 3) := by decide +kernel
theorem dX5_day_96 : decode cX5_day 96 = .ok (.goto (-20), 3) := by decide +kernel
theorem dX5_day_99 : decode cX5_day 99 = .ok (.iconst 0, 1) := by decide +kernel
theorem dX5_day_100 : decode cX5_day 100 = .ok (.istore_n 2, 1) := by decide +kernel
theorem dX5_day_101 : decode cX5_day 101 = .ok (.iload_n 2, 1) := by decide +kernel
theorem dX5_day_102 : decode cX5_day 102 = .ok (.aload_n 0, 1) := by decide +kernel
theorem dX5_day_103 : decode cX5_day 103 = .ok (.getfield 174, 3) := by decide +kernel
theorem dX5_day_106 : decode cX5_day 106 = .ok (.if_icmp .ge 18, 3) := by decide +kernel
theorem dX5_day_109 : decode cX5_day 109 = .ok (.aload_n 0, 1) := by decide +kernel
theorem dX5_day_110 : decode cX5_day 110 = .ok (.aload_n 0, 1) := by decide +kernel
theorem dX5_day_111 : decode cX5_day 111 = .ok (.iload_n 2, 1) := by decide +kernel
theorem dX5_day_112 : decode cX5_day 112 = .ok (.invokevirtual 179, 3) := by decide +kernel
theorem dX5_day_115 : decode cX5_day 115 = .ok (.invokevirtual 220, 3) := by decide +kernel
theorem dX5_day_118 : decode cX5_day 118 = .ok (.iinc 2 1, 3) := by decide +kernel
theorem dX5_day_121 : decode cX5_day 121 = .ok (.goto (-20), 3) := by decide +kernel
theorem dX5_day_124 : decode cX5_day 124 = .ok (.aload_n 0, 1) := by decide +kernel
theorem dX5_day_125 : decode cX5_day 125 = .ok (.invokevirtual 136, 3) := by decide +kernel
theorem dX5_day_128 : decode cX5_day 128 = .ok (.iconst 0, 1) := by decide +kernel
theorem dX5_day_129 : decode cX5_day 129 = .ok (.istore_n 2, 1) := by decide +kernel
theorem dX5_day_130 : decode cX5_day 130 = .ok (.iload_n 2, 1) := by decide +kernel
theorem dX5_day_131 : decode cX5_day 131 = .ok (.aload_n 0, 1) := by decide +kernel
theorem dX5_day_132 : decode cX5_day 132 = .ok (.getfield 174, 3) := by decide +kernel
theorem dX5_day_135 : decode cX5_day 135 = .ok (.if_icmp .ge 18, 3) := by decide +kernel
theorem dX5_day_138 : decode cX5_day 138 = .ok (.aload_n 0, 1) := by decide +kernel
theorem dX5_day_139 : decode cX5_day 139 = .ok (.aload_n 0, 1) := by decide +kernel
theorem dX5_day_140 : decode cX5_day 140 = .ok (.iload_n 2, 1) := by decide +kernel
theorem dX5_day_141 : decode cX5_day 141 = .ok (.invokevirtual 179, 3) := by decide +kernel
theorem dX5_day_144 : decode cX5_day 144 = .ok (.invokevirtual 223, 3) := by decide +kernel
theorem dX5_day_147 : decode cX5_day 147 = .ok (.iinc 2 1, 3) := by decide +kernel
theorem dX5_day_150 : decode cX5_day 150 = .ok (.goto (-20), 3) := by decide +kernel
theorem dX5_day_153 : decode cX5_day 153 = .ok (.iload_n 1, 1) := by decide +kernel
theorem dX5_day_154 : decode cX5_day 154 = .ok (.ireturn, 1) := by decide +kernel
theorem dX5_ofStep_0 : decode cX5_ofStep 0 = .ok (.aload_n 0, 1) := by decide +kernel
theorem dX5_ofStep_1 : decode cX5_ofStep 1 = .ok (.iload_n 1, 1) := by decide +kernel
theorem dX5_ofStep_2 : decode cX5_ofStep 2 = .ok (.invokevirtual 179, 3) := by decide +kernel
theorem dX5_ofStep_5 : decode cX5_ofStep 5 = .ok (.astore 4, 2) := by decide +kernel
theorem dX5_ofStep_7 : decode cX5_ofStep 7 = .ok (.iload_n 2, 1) := by decide +kernel
theorem dX5_ofStep_8 : decode cX5_ofStep 8 = .ok (.ifCond .lt 21, 3) := by decide +kernel
theorem dX5_ofStep_11 : decode cX5_ofStep 11 = .ok (.iload_n 2, 1) := by decide +kernel
theorem dX5_ofStep_12 : decode cX5_ofStep 12 = .ok (.bipush 12, 2) := by decide +kernel
theorem dX5_ofStep_14 : decode cX5_ofStep 14 = .ok (.if_icmp .ge 15, 3) := by decide +kernel
theorem dX5_ofStep_17 : decode cX5_ofStep 17 = .ok (.aload 4, 2) := by decide +kernel
theorem dX5_ofStep_19 : decode cX5_ofStep 19 = .ok (.getfield 183, 3) := by decide +kernel
theorem dX5_ofStep_22 : decode cX5_ofStep 22 = .ok (.iload_n 2, 1) := by decide +kernel
theorem dX5_ofStep_23 : decode cX5_ofStep 23 = .ok (.invokestatic 226, 3) := by decide +kernel
theorem dX5_ofStep_26 : decode cX5_ofStep 26 = .ok (.ifCond .ne 13, 3) := by decide +kernel
theorem dX5_ofStep_29 : decode cX5_ofStep 29 = .ok (.new 74, 3) := by decide +kernel
theorem dX5_ofStep_32 : decode cX5_ofStep 32 = .ok (.dup, 1) := by decide +kernel
theorem dX5_ofStep_33 : decode cX5_ofStep 33 = .ok (.ldc 229, 2) := by decide +kernel
theorem dX5_ofStep_35 : decode cX5_ofStep 35 = .ok (.invokespecial 78, 3) := by decide +kernel
theorem dX5_ofStep_38 : decode cX5_ofStep 38 = .ok (.athrow, 1) := by decide +kernel
theorem dX5_ofStep_39 : decode cX5_ofStep 39 = .ok (.iload_n 3, 1) := by decide +kernel
theorem dX5_ofStep_40 : decode cX5_ofStep 40 = .ok (.iconst 0, 1) := by decide +kernel
theorem dX5_ofStep_41 : decode cX5_ofStep 41 = .ok (.iconst 5, 1) := by decide +kernel
theorem dX5_ofStep_42 : decode cX5_ofStep 42 = .ok (.invokestatic 46, 3) := by decide +kernel
theorem dX5_ofStep_45 : decode cX5_ofStep 45 = .ok (.ifCond .ne 13, 3) := by decide +kernel
theorem dX5_ofStep_48 : decode cX5_ofStep 48 = .ok (.new 58, 3) := by decide +kernel
theorem dX5_ofStep_51 : decode cX5_ofStep 51 = .ok (.dup, 1) := by decide +kernel
theorem dX5_ofStep_52 : decode cX5_ofStep 52 = .ok (.ldc 231, 2) := by decide +kernel
theorem dX5_ofStep_54 : decode cX5_ofStep 54 = .ok (.invokespecial 62, 3) := by decide +kernel
theorem dX5_ofStep_57 : decode cX5_ofStep 57 = .ok (.athrow, 1) := by decide +kernel
theorem dX5_ofStep_58 : decode cX5_ofStep 58 = .ok (.aload_n 0, 1) := by decide +kernel
theorem dX5_ofStep_59 : decode cX5_ofStep 59 = .ok (.getfield 35, 3) := by decide +kernel
theorem dX5_ofStep_62 : decode cX5_ofStep 62 = .ok (.aload 4, 2) := by decide +kernel
theorem dX5_ofStep_64 : decode cX5_ofStep 64 = .ok (.aload_n 0, 1) := by decide +kernel
theorem dX5_ofStep_65 : decode cX5_ofStep 65 = .ok (.getfield 160, 3) := by decide +kernel
theorem dX5_ofStep_68 : decode cX5_ofStep 68 = .ok (.iconst (-1), 1) := by decide +kernel
theorem dX5_ofStep_69 : decode cX5_ofStep 69 = .ok (.iconst 0, 1) := by decide +kernel
theorem dX5_ofStep_70 : decode cX5_ofStep 70 = .ok (.invokevirtual 233, 3) := by decide +kernel
theorem dX5_ofStep_73 : decode cX5_ofStep 73 = .ok (.aload_n 0, 1) := by decide +kernel
theorem dX5_ofStep_74 : decode cX5_ofStep 74 = .ok (.aload 4, 2) := by decide +kernel
theorem dX5_ofStep_76 : decode cX5_ofStep 76 = .ok (.iload_n 2, 1) := by decide +kernel
theorem dX5_ofStep_77 : decode cX5_ofStep 77 = .ok (.iload_n 3, 1) := by decide +kernel
theorem dX5_ofStep_78 : decode cX5_ofStep 78 = .ok (.invokevirtual 237, 3) := by decide +kernel
theorem dX5_ofStep_81 : decode cX5_ofStep 81 = .ok (.ireturn, 1) := by decide +kernel
theorem dX5_ofJoiner_0 : decode cX5_ofJoiner 0 = .ok (.aload_n 0, 1) := by decide +kernel
theorem dX5_ofJoiner_1 : decode cX5_ofJoiner 1 = .ok (.iload_n 1, 1) := by decide +kernel
theorem dX5_ofJoiner_2 : decode cX5_ofJoiner 2 = .ok (.invokevirtual 179, 3) := by decide +kernel
theorem dX5_ofJoiner_5 : decode cX5_ofJoiner 5 = .ok (.astore_n 3, 1) := by decide +kernel
theorem dX5_ofJoiner_6 : decode cX5_ofJoiner 6 = .ok (.iload_n 2, 1) := by decide +kernel
theorem dX5_ofJoiner_7 : decode cX5_ofJoiner 7 = .ok (.iconst 0, 1) := by decide +kernel
theorem dX5_ofJoiner_8 : decode cX5_ofJoiner 8 = .ok (.bipush 6, 2) := by decide +kernel
theorem dX5_ofJoiner_10 : decode cX5_ofJoiner 10 = .ok (.invokestatic 46, 3) := by decide +kernel
theorem dX5_ofJoiner_13 : decode cX5_ofJoiner 13 = .ok (.ifCond .ne 13, 3) := by decide +kernel
theorem dX5_ofJoiner_16 : decode cX5_ofJoiner 16 = .ok (.new 58, 3) := by decide +kernel
theorem dX5_ofJoiner_19 : decode cX5_ofJoiner 19 = .ok (.dup, 1) := by decide +kernel
theorem dX5_ofJoiner_20 : decode cX5_ofJoiner 20 = .ok (.ldc 241, 2) := by decide +kernel
theorem dX5_ofJoiner_22 : decode cX5_ofJoiner 22 = .ok (.invokespecial 62, 3) := by decide +kernel
theorem dX5_ofJoiner_25 : decode cX5_ofJoiner 25 = .ok (.athrow, 1) := by decide +kernel
theorem dX5_ofJoiner_26 : decode cX5_ofJoiner 26 = .ok (.aload_n 0, 1) := by decide +kernel
theorem dX5_ofJoiner_27 : decode cX5_ofJoiner 27 = .ok (.getfield 35, 3) := by decide +kernel
theorem dX5_ofJoiner_30 : decode cX5_ofJoiner 30 = .ok (.aload_n 3, 1) := by decide +kernel
theorem dX5_ofJoiner_31 : decode cX5_ofJoiner 31 = .ok (.aload_n 0, 1) := by decide +kernel
theorem dX5_ofJoiner_32 : decode cX5_ofJoiner 32 = .ok (.getfield 160, 3) := by decide +kernel
theorem dX5_ofJoiner_35 : decode cX5_ofJoiner 35 = .ok (.iconst (-1), 1) := by decide +kernel
theorem dX5_ofJoiner_36 : decode cX5_ofJoiner 36 = .ok (.iconst 0, 1) := by decide +kernel
theorem dX5_ofJoiner_37 : decode cX5_ofJoiner 37 = .ok (.invokevirtual 233, 3) := by decide +kernel
theorem dX5_ofJoiner_40 : decode cX5_ofJoiner 40 = .ok (.aload_n 0, 1) := by decide +kernel
theorem dX5_ofJoiner_41 : decode cX5_ofJoiner 41 = .ok (.aload_n 3, 1) := by decide +kernel
theorem dX5_ofJoiner_42 : decode cX5_ofJoiner 42 = .ok (.iload_n 2, 1) := by decide +kernel
theorem dX5_ofJoiner_43 : decode cX5_ofJoiner 43 = .ok (.invokevirtual 243, 3) := by decide +kernel
theorem dX5_ofJoiner_46 : decode cX5_ofJoiner 46 = .ok (.ireturn, 1) := by decide +kernel
theorem dX5_many_0 : decode cX5_many 0 = .ok (.iload_n 1, 1) := by decide +kernel
theorem dX5_many_1 : decode cX5_many 1 = .ok (.iconst 0, 1) := by decide +kernel
theorem dX5_many_2 : decode cX5_many 2 = .ok (.bipush 10, 2) := by decide +kernel
theorem dX5_many_4 : decode cX5_many 4 = .ok (.invokestatic 46, 3) := by decide +kernel
theorem dX5_many_7 : decode cX5_many 7 = .ok (.ifCond .ne 13, 3) := by decide +kernel
theorem dX5_many_10 : decode cX5_many 10 = .ok (.new 58, 3) := by decide +kernel
theorem dX5_many_13 : decode cX5_many 13 = .ok (.dup, 1) := by decide +kernel
theorem dX5_many_14 : decode cX5_many 14 = .ok (.ldc 247, 2) := by decide +kernel
theorem dX5_many_16 : decode cX5_many 16 = .ok (.invokespecial 62, 3) := by decide +kernel
theorem dX5_many_19 : decode cX5_many 19 = .ok (.athrow, 1) := by decide +kernel
theorem dX5_many_20 : decode cX5_many 20 = .ok (.iload_n 1, 1) := by decide +kernel
theorem dX5_many_21 : decode cX5_many 21 = .ok (.tableswitch 122 0 9 #[55, 63, 71, 79, 87, 92, 97, 103, 109, 114], 55) := by decide +kernel
theorem dX5_many_76 : decode cX5_many 76 = .ok (.aload_n 0, 1) := by decide +kernel
theorem dX5_many_77 : decode cX5_many 77 = .ok (.getfield 10, 3) := by decide +kernel
theorem dX5_many_80 : decode cX5_many 80 = .ok (.getfield 120, 3) := by decide +kernel
theorem dX5_many_83 : decode cX5_many 83 = .ok (.ireturn, 1) := by decide +kernel
theorem dX5_many_84 : decode cX5_many 84 = .ok (.aload_n 0, 1) := by decide +kernel
theorem dX5_many_85 : decode cX5_many 85 = .ok (.getfield 10, 3) := by decide +kernel
theorem dX5_many_88 : decode cX5_many 88 = .ok (.getfield 249, 3) := by decide +kernel
theorem dX5_many_91 : decode cX5_many 91 = .ok (.ireturn, 1) := by decide +kernel
theorem dX5_many_92 : decode cX5_many 92 = .ok (.aload_n 0, 1) := by decide +kernel
theorem dX5_many_93 : decode cX5_many 93 = .ok (.getfield 19, 3) := by decide +kernel
theorem dX5_many_96 : decode cX5_many 96 = .ok (.getfield 252, 3) := by decide +kernel
theorem dX5_many_99 : decode cX5_many 99 = .ok (.ireturn, 1) := by decide +kernel
theorem dX5_many_100 : decode cX5_many 100 = .ok (.aload_n 0, 1) := by decide +kernel
theorem dX5_many_101 : decode cX5_many 101 = .ok (.getfield 26, 3) := by decide +kernel
theorem dX5_many_104 : decode cX5_many 104 = .ok (.getfield 139, 3) := by decide +kernel
theorem dX5_many_107 : decode cX5_many 107 = .ok (.ireturn, 1) := by decide +kernel
theorem dX5_many_108 : decode cX5_many 108 = .ok (.aload_n 0, 1) := by decide +kernel
theorem dX5_many_109 : decode cX5_many 109 = .ok (.getfield 174, 3) := by decide +kernel
theorem dX5_many_112 : decode cX5_many 112 = .ok (.ireturn, 1) := by decide +kernel
theorem dX5_many_113 : decode cX5_many 113 = .ok (.aload_n 0, 1) := by decide +kernel
theorem dX5_many_114 : decode cX5_many 114 = .ok (.invokevirtual 255, 3) := by decide +kernel
theorem dX5_many_117 : decode cX5_many 117 = .ok (.ireturn, 1) := by decide +kernel
theorem dX5_many_118 : decode cX5_many 118 = .ok (.aload_n 0, 1) := by decide +kernel
theorem dX5_many_119 : decode cX5_many 119 = .ok (.iconst 2, 1) := by decide +kernel
theorem dX5_many_120 : decode cX5_many 120 = .ok (.invokevirtual 259, 3) := by decide +kernel
theorem dX5_many_123 : decode cX5_many 123 = .ok (.ireturn, 1) := by decide +kernel
theorem dX5_many_124 : decode cX5_many 124 = .ok (.aload_n 0, 1) := by decide +kernel
theorem dX5_many_125 : decode cX5_many 125 = .ok (.iconst 1, 1) := by decide +kernel
theorem dX5_many_126 : decode cX5_many 126 = .ok (.invokevirtual 259, 3) := by decide +kernel
theorem dX5_many_129 : decode cX5_many 129 = .ok (.ireturn, 1) := by decide +kernel
theorem dX5_many_130 : decode cX5_many 130 = .ok (.aload_n 0, 1) := by decide +kernel
theorem dX5_many_131 : decode cX5_many 131 = .ok (.invokevirtual 262, 3) := by decide +kernel
theorem dX5_many_134 : decode cX5_many 134 = .ok (.ireturn, 1) := by decide +kernel
theorem dX5_many_135 : decode cX5_many 135 = .ok (.aload_n 0, 1) := by decide +kernel
theorem dX5_many_136 : decode cX5_many 136 = .ok (.getfield 26, 3) := by decide +kernel
theorem dX5_many_139 : decode cX5_many 139 = .ok (.invokevirtual 265, 3) := by decide +kernel
theorem dX5_many_142 : decode cX5_many 142 = .ok (.ireturn, 1) := by decide +kernel
theorem dX5_many_143 : decode cX5_many 143 = .ok (.aload_n 0, 1) := by decide +kernel
theorem dX5_many_144 : decode cX5_many 144 = .ok (.getfield 160, 3) := by decide +kernel
theorem dX5_many_147 : decode cX5_many 147 = .ok (.ireturn, 1) := by decide +kernel
theorem dX5_meanDays_0 : decode cX5_meanDays 0 = .ok (.iconst 0, 1) := by decide +kernel
theorem dX5_meanDays_1 : decode cX5_meanDays 1 = .ok (.istore_n 1, 1) := by decide +kernel
theorem dX5_meanDays_2 : decode cX5_meanDays 2 = .ok (.iconst 0, 1) := by decide +kernel
theorem dX5_meanDays_3 : decode cX5_meanDays 3 = .ok (.istore_n 2, 1) := by decide +kernel
theorem dX5_meanDays_4 : decode cX5_meanDays 4 = .ok (.iconst 0, 1) := by decide +kernel
theorem dX5_meanDays_5 : decode cX5_meanDays 5 = .ok (.istore_n 3, 1) := by decide +kernel
theorem dX5_meanDays_6 : decode cX5_meanDays 6 = .ok (.iload_n 3, 1) := by decide +kernel
theorem dX5_meanDays_7 : decode cX5_meanDays 7 = .ok (.aload_n 0, 1) := by decide +kernel
theorem dX5_meanDays_8 : decode cX5_meanDays 8 = .ok (.getfield 174, 3) := by decide +kernel
theorem dX5_meanDays_11 : decode cX5_meanDays 11 = .ok (.if_icmp .ge 65, 3) := by decide +kernel
theorem dX5_meanDays_14 : decode cX5_meanDays 14 = .ok (.aload_n 0, 1) := by decide +kernel
theorem dX5_meanDays_15 : decode cX5_meanDays 15 = .ok (.iload_n 3, 1) := by decide +kernel
theorem dX5_meanDays_16 : decode cX5_meanDays 16 = .ok (.invokevirtual 179, 3) := by decide +kernel
theorem dX5_meanDays_19 : decode cX5_meanDays 19 = .ok (.astore 4, 2) := by decide +kernel
theorem dX5_meanDays_21 : decode cX5_meanDays 21 = .ok (.aload_n 0, 1) := by decide +kernel
theorem dX5_meanDays_22 : decode cX5_meanDays 22 = .ok (.getfield 35, 3) := by decide +kernel
theorem dX5_meanDays_25 : decode cX5_meanDays 25 = .ok (.aload 4, 2) := by decide +kernel
theorem dX5_meanDays_27 : decode cX5_meanDays 27 = .ok (.aload_n 0, 1) := by decide +kernel
theorem dX5_meanDays_28 : decode cX5_meanDays 28 = .ok (.getfield 160, 3) := by decide +kernel
theorem dX5_meanDays_31 : decode cX5_meanDays 31 = .ok (.iconst (-1), 1) := by decide +kernel
theorem dX5_meanDays_32 : decode cX5_meanDays 32 = .ok (.iconst 0, 1) := by decide +kernel
theorem dX5_meanDays_33 : decode cX5_meanDays 33 = .ok (.invokevirtual 233, 3) := by decide +kernel
theorem dX5_meanDays_36 : decode cX5_meanDays 36 = .ok (.aload_n 0, 1) := by decide +kernel
theorem dX5_meanDays_37 : decode cX5_meanDays 37 = .ok (.getfield 35, 3) := by decide +kernel
theorem dX5_meanDays_40 : decode cX5_meanDays 40 = .ok (.aload 4, 2) := by decide +kernel
theorem dX5_meanDays_42 : decode cX5_meanDays 42 = .ok (.getfield 183, 3) := by decide +kernel
theorem dX5_meanDays_45 : decode cX5_meanDays 45 = .ok (.invokevirtual 268, 3) := by decide +kernel
theorem dX5_meanDays_48 : decode cX5_meanDays 48 = .ok (.istore 5, 2) := by decide +kernel
theorem dX5_meanDays_50 : decode cX5_meanDays 50 = .ok (.iload 5, 2) := by decide +kernel
theorem dX5_meanDays_52 : decode cX5_meanDays 52 = .ok (.iconst (-1), 1) := by decide +kernel
theorem dX5_meanDays_53 : decode cX5_meanDays 53 = .ok (.if_icmp .eq 17, 3) := by decide +kernel
theorem dX5_meanDays_56 : decode cX5_meanDays 56 = .ok (.iload_n 1, 1) := by decide +kernel
theorem dX5_meanDays_57 : decode cX5_meanDays 57 = .ok (.iload 5, 2) := by decide +kernel
theorem dX5_meanDays_59 : decode cX5_meanDays 59 = .ok (.aload 4, 2) := by decide +kernel
theorem dX5_meanDays_61 : decode cX5_meanDays 61 = .ok (.getfield 186, 3) := by decide +kernel
theorem dX5_meanDays_64 : decode cX5_meanDays 64 = .ok (.isub, 1) := by decide +kernel
theorem dX5_meanDays_65 : decode cX5_meanDays 65 = .ok (.iadd, 1) := by decide +kernel
theorem dX5_meanDays_66 : decode cX5_meanDays 66 = .ok (.istore_n 1, 1) := by decide +kernel
theorem dX5_meanDays_67 : decode cX5_meanDays 67 = .ok (.iinc 2 1, 3) := by decide +kernel
theorem dX5_meanDays_70 : decode cX5_meanDays 70 = .ok (.iinc 3 1, 3) := by decide +kernel
end
section
theorem dX5_meanDays_73 : decode cX5_meanDays 73 = .ok (.goto (-67), 3) := by decide +kernel
theorem dX5_meanDays_76 : decode cX5_meanDays 76 = .ok (.iload_n 2, 1) := by decide +kernel
theorem dX5_meanDays_77 : decode cX5_meanDays 77 = .ok (.ifCond .ne 7, 3) := by decide +kernel
theorem dX5_meanDays_80 : decode cX5_meanDays 80 = .ok (.dconst 0, 1) := by decide +kernel
theorem dX5_meanDays_81 : decode cX5_meanDays 81 = .ok (.goto 8, 3) := by decide +kernel
theorem dX5_meanDays_84 : decode cX5_meanDays 84 = .ok (.iload_n 1, 1) := by decide +kernel
theorem dX5_meanDays_85 : decode cX5_meanDays 85 = .ok (.i2d, 1) := by decide +kernel
theorem dX5_meanDays_86 : decode cX5_meanDays 86 = .ok (.iload_n 2, 1) := by decide +kernel
theorem dX5_meanDays_87 : decode cX5_meanDays 87 = .ok (.i2d, 1) := by decide +kernel
theorem dX5_meanDays_88 : decode cX5_meanDays 88 = .ok (.ddiv, 1) := by decide +kernel
theorem dX5_meanDays_89 : decode cX5_meanDays 89 = .ok (.dreturn, 1) := by decide +kernel
theorem dX5_rightOn_0 : decode cX5_rightOn 0 = .ok (.aload_n 0, 1) := by decide +kernel
theorem dX5_rightOn_1 : decode cX5_rightOn 1 = .ok (.iload_n 1, 1) := by decide +kernel
theorem dX5_rightOn_2 : decode cX5_rightOn 2 = .ok (.invokevirtual 179, 3) := by decide +kernel
theorem dX5_rightOn_5 : decode cX5_rightOn 5 = .ok (.astore_n 3, 1) := by decide +kernel
theorem dX5_rightOn_6 : decode cX5_rightOn 6 = .ok (.iload_n 2, 1) := by decide +kernel
theorem dX5_rightOn_7 : decode cX5_rightOn 7 = .ok (.ifCond .lt 14, 3) := by decide +kernel
theorem dX5_rightOn_10 : decode cX5_rightOn 10 = .ok (.iload_n 2, 1) := by decide +kernel
theorem dX5_rightOn_11 : decode cX5_rightOn 11 = .ok (.aload_n 0, 1) := by decide +kernel
theorem dX5_rightOn_12 : decode cX5_rightOn 12 = .ok (.getfield 10, 3) := by decide +kernel
theorem dX5_rightOn_15 : decode cX5_rightOn 15 = .ok (.getfield 249, 3) := by decide +kernel
theorem dX5_rightOn_18 : decode cX5_rightOn 18 = .ok (.if_icmp .lt 14, 3) := by decide +kernel
theorem dX5_rightOn_21 : decode cX5_rightOn 21 = .ok (.new 74, 3) := by decide +kernel
theorem dX5_rightOn_24 : decode cX5_rightOn 24 = .ok (.dup, 1) := by decide +kernel
theorem dX5_rightOn_25 : decode cX5_rightOn 25 = .ok (.ldc_w 271, 3) := by decide +kernel
theorem dX5_rightOn_28 : decode cX5_rightOn 28 = .ok (.invokespecial 78, 3) := by decide +kernel
theorem dX5_rightOn_31 : decode cX5_rightOn 31 = .ok (.athrow, 1) := by decide +kernel
theorem dX5_rightOn_32 : decode cX5_rightOn 32 = .ok (.aload_n 0, 1) := by decide +kernel
theorem dX5_rightOn_33 : decode cX5_rightOn 33 = .ok (.getfield 35, 3) := by decide +kernel
theorem dX5_rightOn_36 : decode cX5_rightOn 36 = .ok (.aload_n 3, 1) := by decide +kernel
theorem dX5_rightOn_37 : decode cX5_rightOn 37 = .ok (.aload_n 0, 1) := by decide +kernel
theorem dX5_rightOn_38 : decode cX5_rightOn 38 = .ok (.getfield 160, 3) := by decide +kernel
theorem dX5_rightOn_41 : decode cX5_rightOn 41 = .ok (.iconst (-1), 1) := by decide +kernel
theorem dX5_rightOn_42 : decode cX5_rightOn 42 = .ok (.iconst 0, 1) := by decide +kernel
theorem dX5_rightOn_43 : decode cX5_rightOn 43 = .ok (.invokevirtual 233, 3) := by decide +kernel
theorem dX5_rightOn_46 : decode cX5_rightOn 46 = .ok (.aload_n 0, 1) := by decide +kernel
theorem dX5_rightOn_47 : decode cX5_rightOn 47 = .ok (.getfield 35, 3) := by decide +kernel
theorem dX5_rightOn_50 : decode cX5_rightOn 50 = .ok (.aload_n 0, 1) := by decide +kernel
theorem dX5_rightOn_51 : decode cX5_rightOn 51 = .ok (.getfield 10, 3) := by decide +kernel
theorem dX5_rightOn_54 : decode cX5_rightOn 54 = .ok (.getfield 273, 3) := by decide +kernel
theorem dX5_rightOn_57 : decode cX5_rightOn 57 = .ok (.iload_n 2, 1) := by decide +kernel
theorem dX5_rightOn_58 : decode cX5_rightOn 58 = .ok (.iaload, 1) := by decide +kernel
theorem dX5_rightOn_59 : decode cX5_rightOn 59 = .ok (.invokevirtual 276, 3) := by decide +kernel
theorem dX5_rightOn_62 : decode cX5_rightOn 62 = .ok (.ireturn, 1) := by decide +kernel
theorem dX5_shiftBy_0 : decode cX5_shiftBy 0 = .ok (.aload_n 0, 1) := by decide +kernel
theorem dX5_shiftBy_1 : decode cX5_shiftBy 1 = .ok (.iload_n 1, 1) := by decide +kernel
theorem dX5_shiftBy_2 : decode cX5_shiftBy 2 = .ok (.iload_n 2, 1) := by decide +kernel
theorem dX5_shiftBy_3 : decode cX5_shiftBy 3 = .ok (.invokevirtual 113, 3) := by decide +kernel
theorem dX5_shiftBy_6 : decode cX5_shiftBy 6 = .ok (.iconst 0, 1) := by decide +kernel
theorem dX5_shiftBy_7 : decode cX5_shiftBy 7 = .ok (.istore_n 3, 1) := by decide +kernel
theorem dX5_shiftBy_8 : decode cX5_shiftBy 8 = .ok (.iconst 0, 1) := by decide +kernel
theorem dX5_shiftBy_9 : decode cX5_shiftBy 9 = .ok (.istore 4, 2) := by decide +kernel
theorem dX5_shiftBy_11 : decode cX5_shiftBy 11 = .ok (.iload 4, 2) := by decide +kernel
theorem dX5_shiftBy_13 : decode cX5_shiftBy 13 = .ok (.aload_n 0, 1) := by decide +kernel
theorem dX5_shiftBy_14 : decode cX5_shiftBy 14 = .ok (.getfield 174, 3) := by decide +kernel
theorem dX5_shiftBy_17 : decode cX5_shiftBy 17 = .ok (.if_icmp .ge 95, 3) := by decide +kernel
theorem dX5_shiftBy_20 : decode cX5_shiftBy 20 = .ok (.aload_n 0, 1) := by decide +kernel
theorem dX5_shiftBy_21 : decode cX5_shiftBy 21 = .ok (.iload 4, 2) := by decide +kernel
theorem dX5_shiftBy_23 : decode cX5_shiftBy 23 = .ok (.invokevirtual 179, 3) := by decide +kernel
theorem dX5_shiftBy_26 : decode cX5_shiftBy 26 = .ok (.astore 5, 2) := by decide +kernel
theorem dX5_shiftBy_28 : decode cX5_shiftBy 28 = .ok (.aload_n 0, 1) := by decide +kernel
theorem dX5_shiftBy_29 : decode cX5_shiftBy 29 = .ok (.getfield 35, 3) := by decide +kernel
theorem dX5_shiftBy_32 : decode cX5_shiftBy 32 = .ok (.aload 5, 2) := by decide +kernel
theorem dX5_shiftBy_34 : decode cX5_shiftBy 34 = .ok (.aload_n 0, 1) := by decide +kernel
theorem dX5_shiftBy_35 : decode cX5_shiftBy 35 = .ok (.getfield 160, 3) := by decide +kernel
theorem dX5_shiftBy_38 : decode cX5_shiftBy 38 = .ok (.iconst (-1), 1) := by decide +kernel
theorem dX5_shiftBy_39 : decode cX5_shiftBy 39 = .ok (.iconst 0, 1) := by decide +kernel
theorem dX5_shiftBy_40 : decode cX5_shiftBy 40 = .ok (.invokevirtual 233, 3) := by decide +kernel
theorem dX5_shiftBy_43 : decode cX5_shiftBy 43 = .ok (.aload_n 0, 1) := by decide +kernel
theorem dX5_shiftBy_44 : decode cX5_shiftBy 44 = .ok (.getfield 35, 3) := by decide +kernel
theorem dX5_shiftBy_47 : decode cX5_shiftBy 47 = .ok (.aload 5, 2) := by decide +kernel
theorem dX5_shiftBy_49 : decode cX5_shiftBy 49 = .ok (.getfield 183, 3) := by decide +kernel
theorem dX5_shiftBy_52 : decode cX5_shiftBy 52 = .ok (.invokevirtual 268, 3) := by decide +kernel
theorem dX5_shiftBy_55 : decode cX5_shiftBy 55 = .ok (.istore 6, 2) := by decide +kernel
theorem dX5_shiftBy_57 : decode cX5_shiftBy 57 = .ok (.aload_n 0, 1) := by decide +kernel
theorem dX5_shiftBy_58 : decode cX5_shiftBy 58 = .ok (.getfield 35, 3) := by decide +kernel
theorem dX5_shiftBy_61 : decode cX5_shiftBy 61 = .ok (.aload 5, 2) := by decide +kernel
theorem dX5_shiftBy_63 : decode cX5_shiftBy 63 = .ok (.aload_n 0, 1) := by decide +kernel
theorem dX5_shiftBy_64 : decode cX5_shiftBy 64 = .ok (.getfield 160, 3) := by decide +kernel
theorem dX5_shiftBy_67 : decode cX5_shiftBy 67 = .ok (.iload_n 1, 1) := by decide +kernel
theorem dX5_shiftBy_68 : decode cX5_shiftBy 68 = .ok (.iload_n 2, 1) := by decide +kernel
theorem dX5_shiftBy_69 : decode cX5_shiftBy 69 = .ok (.invokevirtual 233, 3) := by decide +kernel
theorem dX5_shiftBy_72 : decode cX5_shiftBy 72 = .ok (.aload_n 0, 1) := by decide +kernel
theorem dX5_shiftBy_73 : decode cX5_shiftBy 73 = .ok (.getfield 35, 3) := by decide +kernel
theorem dX5_shiftBy_76 : decode cX5_shiftBy 76 = .ok (.aload 5, 2) := by decide +kernel
theorem dX5_shiftBy_78 : decode cX5_shiftBy 78 = .ok (.getfield 183, 3) := by decide +kernel
theorem dX5_shiftBy_81 : decode cX5_shiftBy 81 = .ok (.invokevirtual 268, 3) := by decide +kernel
theorem dX5_shiftBy_84 : decode cX5_shiftBy 84 = .ok (.istore 7, 2) := by decide +kernel
theorem dX5_shiftBy_86 : decode cX5_shiftBy 86 = .ok (.iload 6, 2) := by decide +kernel
theorem dX5_shiftBy_88 : decode cX5_shiftBy 88 = .ok (.iconst (-1), 1) := by decide +kernel
theorem dX5_shiftBy_89 : decode cX5_shiftBy 89 = .ok (.if_icmp .eq 17, 3) := by decide +kernel
theorem dX5_shiftBy_92 : decode cX5_shiftBy 92 = .ok (.iload 7, 2) := by decide +kernel
theorem dX5_shiftBy_94 : decode cX5_shiftBy 94 = .ok (.iconst (-1), 1) := by decide +kernel
theorem dX5_shiftBy_95 : decode cX5_shiftBy 95 = .ok (.if_icmp .eq 11, 3) := by decide +kernel
theorem dX5_shiftBy_98 : decode cX5_shiftBy 98 = .ok (.iload_n 3, 1) := by decide +kernel
theorem dX5_shiftBy_99 : decode cX5_shiftBy 99 = .ok (.iload 7, 2) := by decide +kernel
theorem dX5_shiftBy_101 : decode cX5_shiftBy 101 = .ok (.iload 6, 2) := by decide +kernel
theorem dX5_shiftBy_103 : decode cX5_shiftBy 103 = .ok (.isub, 1) := by decide +kernel
theorem dX5_shiftBy_104 : decode cX5_shiftBy 104 = .ok (.iadd, 1) := by decide +kernel
theorem dX5_shiftBy_105 : decode cX5_shiftBy 105 = .ok (.istore_n 3, 1) := by decide +kernel
theorem dX5_shiftBy_106 : decode cX5_shiftBy 106 = .ok (.iinc 4 1, 3) := by decide +kernel
theorem dX5_shiftBy_109 : decode cX5_shiftBy 109 = .ok (.goto (-98), 3) := by decide +kernel
theorem dX5_shiftBy_112 : decode cX5_shiftBy 112 = .ok (.iload_n 3, 1) := by decide +kernel
theorem dX5_shiftBy_113 : decode cX5_shiftBy 113 = .ok (.ireturn, 1) := by decide +kernel
theorem dX5_next_0 : decode cX5_next 0 = .ok (.aload_n 0, 1) := by decide +kernel
theorem dX5_next_1 : decode cX5_next 1 = .ok (.aload_n 0, 1) := by decide +kernel
theorem dX5_next_2 : decode cX5_next 2 = .ok (.iload_n 1, 1) := by decide +kernel
theorem dX5_next_3 : decode cX5_next 3 = .ok (.invokevirtual 179, 3) := by decide +kernel
theorem dX5_next_6 : decode cX5_next 6 = .ok (.invokevirtual 279, 3) := by decide +kernel
theorem dX5_next_9 : decode cX5_next 9 = .ok (.ireturn, 1) := by decide +kernel
theorem dX5_waitFor_0 : decode cX5_waitFor 0 = .ok (.aload_n 0, 1) := by decide +kernel
theorem dX5_waitFor_1 : decode cX5_waitFor 1 = .ok (.iload_n 1, 1) := by decide +kernel
theorem dX5_waitFor_2 : decode cX5_waitFor 2 = .ok (.invokevirtual 179, 3) := by decide +kernel
theorem dX5_waitFor_5 : decode cX5_waitFor 5 = .ok (.astore_n 3, 1) := by decide +kernel
theorem dX5_waitFor_6 : decode cX5_waitFor 6 = .ok (.iload_n 2, 1) := by decide +kernel
theorem dX5_waitFor_7 : decode cX5_waitFor 7 = .ok (.ifCond .lt 20, 3) := by decide +kernel
theorem dX5_waitFor_10 : decode cX5_waitFor 10 = .ok (.iload_n 2, 1) := by decide +kernel
theorem dX5_waitFor_11 : decode cX5_waitFor 11 = .ok (.bipush 12, 2) := by decide +kernel
theorem dX5_waitFor_13 : decode cX5_waitFor 13 = .ok (.if_icmp .ge 14, 3) := by decide +kernel
theorem dX5_waitFor_16 : decode cX5_waitFor 16 = .ok (.aload_n 3, 1) := by decide +kernel
theorem dX5_waitFor_17 : decode cX5_waitFor 17 = .ok (.getfield 183, 3) := by decide +kernel
theorem dX5_waitFor_20 : decode cX5_waitFor 20 = .ok (.iload_n 2, 1) := by decide +kernel
theorem dX5_waitFor_21 : decode cX5_waitFor 21 = .ok (.invokestatic 226, 3) := by decide +kernel
theorem dX5_waitFor_24 : decode cX5_waitFor 24 = .ok (.ifCond .ne 13, 3) := by decide +kernel
theorem dX5_waitFor_27 : decode cX5_waitFor 27 = .ok (.new 74, 3) := by decide +kernel
theorem dX5_waitFor_30 : decode cX5_waitFor 30 = .ok (.dup, 1) := by decide +kernel
theorem dX5_waitFor_31 : decode cX5_waitFor 31 = .ok (.ldc 229, 2) := by decide +kernel
theorem dX5_waitFor_33 : decode cX5_waitFor 33 = .ok (.invokespecial 78, 3) := by decide +kernel
theorem dX5_waitFor_36 : decode cX5_waitFor 36 = .ok (.athrow, 1) := by decide +kernel
theorem dX5_waitFor_37 : decode cX5_waitFor 37 = .ok (.aload_n 0, 1) := by decide +kernel
theorem dX5_waitFor_38 : decode cX5_waitFor 38 = .ok (.aload_n 3, 1) := by decide +kernel
theorem dX5_waitFor_39 : decode cX5_waitFor 39 = .ok (.iload_n 2, 1) := by decide +kernel
theorem dX5_waitFor_40 : decode cX5_waitFor 40 = .ok (.invokevirtual 283, 3) := by decide +kernel
theorem dX5_waitFor_43 : decode cX5_waitFor 43 = .ok (.ireturn, 1) := by decide +kernel
theorem dX5_digest_0 : decode cX5_digest 0 = .ok (.ldc2_w 286, 3) := by decide +kernel
theorem dX5_digest_3 : decode cX5_digest 3 = .ok (.lstore_n 1, 1) := by decide +kernel
theorem dX5_digest_4 : decode cX5_digest 4 = .ok (.iconst 0, 1) := by decide +kernel
theorem dX5_digest_5 : decode cX5_digest 5 = .ok (.istore_n 3, 1) := by decide +kernel
theorem dX5_digest_6 : decode cX5_digest 6 = .ok (.iload_n 3, 1) := by decide +kernel
theorem dX5_digest_7 : decode cX5_digest 7 = .ok (.bipush 10, 2) := by decide +kernel
theorem dX5_digest_9 : decode cX5_digest 9 = .ok (.if_icmp .gt 22, 3) := by decide +kernel
theorem dX5_digest_12 : decode cX5_digest 12 = .ok (.lload_n 1, 1) := by decide +kernel
theorem dX5_digest_13 : decode cX5_digest 13 = .ok (.ldc2_w 288, 3) := by decide +kernel
theorem dX5_digest_16 : decode cX5_digest 16 = .ok (.lmul, 1) := by decide +kernel
theorem dX5_digest_17 : decode cX5_digest 17 = .ok (.aload_n 0, 1) := by decide +kernel
theorem dX5_digest_18 : decode cX5_digest 18 = .ok (.iload_n 3, 1) := by decide +kernel
theorem dX5_digest_19 : decode cX5_digest 19 = .ok (.invokevirtual 290, 3) := by decide +kernel
theorem dX5_digest_22 : decode cX5_digest 22 = .ok (.i2l, 1) := by decide +kernel
theorem dX5_digest_23 : decode cX5_digest 23 = .ok (.ladd, 1) := by decide +kernel
theorem dX5_digest_24 : decode cX5_digest 24 = .ok (.lstore_n 1, 1) := by decide +kernel
theorem dX5_digest_25 : decode cX5_digest 25 = .ok (.iinc 3 1, 3) := by decide +kernel
theorem dX5_digest_28 : decode cX5_digest 28 = .ok (.goto (-22), 3) := by decide +kernel
theorem dX5_digest_31 : decode cX5_digest 31 = .ok (.iconst 0, 1) := by decide +kernel
theorem dX5_digest_32 : decode cX5_digest 32 = .ok (.istore_n 3, 1) := by decide +kernel
theorem dX5_digest_33 : decode cX5_digest 33 = .ok (.iload_n 3, 1) := by decide +kernel
theorem dX5_digest_34 : decode cX5_digest 34 = .ok (.iconst 4, 1) := by decide +kernel
theorem dX5_digest_35 : decode cX5_digest 35 = .ok (.if_icmp .ge 39, 3) := by decide +kernel
theorem dX5_digest_38 : decode cX5_digest 38 = .ok (.iconst 0, 1) := by decide +kernel
theorem dX5_digest_39 : decode cX5_digest 39 = .ok (.istore 4, 2) := by decide +kernel
theorem dX5_digest_41 : decode cX5_digest 41 = .ok (.iload 4, 2) := by decide +kernel
theorem dX5_digest_43 : decode cX5_digest 43 = .ok (.iconst 3, 1) := by decide +kernel
theorem dX5_digest_44 : decode cX5_digest 44 = .ok (.if_icmp .gt 24, 3) := by decide +kernel
theorem dX5_digest_47 : decode cX5_digest 47 = .ok (.lload_n 1, 1) := by decide +kernel
theorem dX5_digest_48 : decode cX5_digest 48 = .ok (.ldc2_w 288, 3) := by decide +kernel
theorem dX5_digest_51 : decode cX5_digest 51 = .ok (.lmul, 1) := by decide +kernel
theorem dX5_digest_52 : decode cX5_digest 52 = .ok (.aload_n 0, 1) := by decide +kernel
theorem dX5_digest_53 : decode cX5_digest 53 = .ok (.iload_n 3, 1) := by decide +kernel
theorem dX5_digest_54 : decode cX5_digest 54 = .ok (.iload 4, 2) := by decide +kernel
theorem dX5_digest_56 : decode cX5_digest 56 = .ok (.invokevirtual 293, 3) := by decide +kernel
theorem dX5_digest_59 : decode cX5_digest 59 = .ok (.i2l, 1) := by decide +kernel
theorem dX5_digest_60 : decode cX5_digest 60 = .ok (.ladd, 1) := by decide +kernel
theorem dX5_digest_61 : decode cX5_digest 61 = .ok (.lstore_n 1, 1) := by decide +kernel
theorem dX5_digest_62 : decode cX5_digest 62 = .ok (.iinc 4 1, 3) := by decide +kernel
theorem dX5_digest_65 : decode cX5_digest 65 = .ok (.goto (-24), 3) := by decide +kernel
theorem dX5_digest_68 : decode cX5_digest 68 = .ok (.iinc 3 1, 3) := by decide +kernel
theorem dX5_digest_71 : decode cX5_digest 71 = .ok (.goto (-38), 3) := by decide +kernel
theorem dX5_digest_74 : decode cX5_digest 74 = .ok (.iconst 0, 1) := by decide +kernel
theorem dX5_digest_75 : decode cX5_digest 75 = .ok (.istore_n 3, 1) := by decide +kernel
theorem dX5_digest_76 : decode cX5_digest 76 = .ok (.iload_n 3, 1) := by decide +kernel
theorem dX5_digest_77 : decode cX5_digest 77 = .ok (.aload_n 0, 1) := by decide +kernel
theorem dX5_digest_78 : decode cX5_digest 78 = .ok (.getfield 26, 3) := by decide +kernel
theorem dX5_digest_81 : decode cX5_digest 81 = .ok (.getfield 139, 3) := by decide +kernel
theorem dX5_digest_84 : decode cX5_digest 84 = .ok (.if_icmp .ge 39, 3) := by decide +kernel
theorem dX5_digest_87 : decode cX5_digest 87 = .ok (.iconst 0, 1) := by decide +kernel
theorem dX5_digest_88 : decode cX5_digest 88 = .ok (.istore 4, 2) := by decide +kernel
theorem dX5_digest_90 : decode cX5_digest 90 = .ok (.iload 4, 2) := by decide +kernel
theorem dX5_digest_92 : decode cX5_digest 92 = .ok (.iconst 3, 1) := by decide +kernel
theorem dX5_digest_93 : decode cX5_digest 93 = .ok (.if_icmp .gt 24, 3) := by decide +kernel
theorem dX5_digest_96 : decode cX5_digest 96 = .ok (.lload_n 1, 1) := by decide +kernel
theorem dX5_digest_97 : decode cX5_digest 97 = .ok (.ldc2_w 288, 3) := by decide +kernel
theorem dX5_digest_100 : decode cX5_digest 100 = .ok (.lmul, 1) := by decide +kernel
theorem dX5_digest_101 : decode cX5_digest 101 = .ok (.aload_n 0, 1) := by decide +kernel
theorem dX5_digest_102 : decode cX5_digest 102 = .ok (.iload_n 3, 1) := by decide +kernel
theorem dX5_digest_103 : decode cX5_digest 103 = .ok (.iload 4, 2) := by decide +kernel
theorem dX5_digest_105 : decode cX5_digest 105 = .ok (.invokevirtual 296, 3) := by decide +kernel
theorem dX5_digest_108 : decode cX5_digest 108 = .ok (.i2l, 1) := by decide +kernel
theorem dX5_digest_109 : decode cX5_digest 109 = .ok (.ladd, 1) := by decide +kernel
theorem dX5_digest_110 : decode cX5_digest 110 = .ok (.lstore_n 1, 1) := by decide +kernel
theorem dX5_digest_111 : decode cX5_digest 111 = .ok (.iinc 4 1, 3) := by decide +kernel
theorem dX5_digest_114 : decode cX5_digest 114 = .ok (.goto (-24), 3) := by decide +kernel
theorem dX5_digest_117 : decode cX5_digest 117 = .ok (.iinc 3 1, 3) := by decide +kernel
theorem dX5_digest_120 : decode cX5_digest 120 = .ok (.goto (-44), 3) := by decide +kernel
theorem dX5_digest_123 : decode cX5_digest 123 = .ok (.iconst 0, 1) := by decide +kernel
theorem dX5_digest_124 : decode cX5_digest 124 = .ok (.istore_n 3, 1) := by decide +kernel
theorem dX5_digest_125 : decode cX5_digest 125 = .ok (.iload_n 3, 1) := by decide +kernel
theorem dX5_digest_126 : decode cX5_digest 126 = .ok (.aload_n 0, 1) := by decide +kernel
theorem dX5_digest_127 : decode cX5_digest 127 = .ok (.getfield 174, 3) := by decide +kernel
theorem dX5_digest_130 : decode cX5_digest 130 = .ok (.if_icmp .ge 20, 3) := by decide +kernel
theorem dX5_digest_133 : decode cX5_digest 133 = .ok (.aload_n 0, 1) := by decide +kernel
theorem dX5_digest_134 : decode cX5_digest 134 = .ok (.lload_n 1, 1) := by decide +kernel
theorem dX5_digest_135 : decode cX5_digest 135 = .ok (.aload_n 0, 1) := by decide +kernel
theorem dX5_digest_136 : decode cX5_digest 136 = .ok (.iload_n 3, 1) := by decide +kernel
theorem dX5_digest_137 : decode cX5_digest 137 = .ok (.invokevirtual 179, 3) := by decide +kernel
theorem dX5_digest_140 : decode cX5_digest 140 = .ok (.invokevirtual 299, 3) := by decide +kernel
theorem dX5_digest_143 : decode cX5_digest 143 = .ok (.lstore_n 1, 1) := by decide +kernel
theorem dX5_digest_144 : decode cX5_digest 144 = .ok (.iinc 3 1, 3) := by decide +kernel
theorem dX5_digest_147 : decode cX5_digest 147 = .ok (.goto (-22), 3) := by decide +kernel
theorem dX5_digest_150 : decode cX5_digest 150 = .ok (.lload_n 1, 1) := by decide +kernel
theorem dX5_digest_151 : decode cX5_digest 151 = .ok (.lreturn, 1) := by decide +kernel
theorem dX5_has_0 : decode cX5_has 0 = .ok (.iload_n 0, 1) := by decide +kernel
theorem dX5_has_1 : decode cX5_has 1 = .ok (.iload_n 1, 1) := by decide +kernel
theorem dX5_has_2 : decode cX5_has 2 = .ok (.ishr, 1) := by decide +kernel
theorem dX5_has_3 : decode cX5_has 3 = .ok (.iconst 1, 1) := by decide +kernel
theorem dX5_has_4 : decode cX5_has 4 = .ok (.iand, 1) := by decide +kernel
theorem dX5_has_5 : decode cX5_has 5 = .ok (.iconst 1, 1) := by decide +kernel
theorem dX5_has_6 : decode cX5_has 6 = .ok (.if_icmp .ne 7, 3) := by decide +kernel
theorem dX5_has_9 : decode cX5_has 9 = .ok (.iconst 1, 1) := by decide +kernel
theorem dX5_has_10 : decode cX5_has 10 = .ok (.goto 4, 3) := by decide +kernel
theorem dX5_has_13 : decode cX5_has 13 = .ok (.iconst 0, 1) := by decide +kernel
theorem dX5_has_14 : decode cX5_has 14 = .ok (.ireturn, 1) := by decide +kernel
theorem dX5_isWithin_0 : decode cX5_isWithin 0 = .ok (.iload_n 0, 1) := by decide +kernel
theorem dX5_isWithin_1 : decode cX5_isWithin 1 = .ok (.iload_n 1, 1) := by decide +kernel
theorem dX5_isWithin_2 : decode cX5_isWithin 2 = .ok (.if_icmp .lt 12, 3) := by decide +kernel
theorem dX5_isWithin_5 : decode cX5_isWithin 5 = .ok (.iload_n 0, 1) := by decide +kernel
theorem dX5_isWithin_6 : decode cX5_isWithin 6 = .ok (.iload_n 2, 1) := by decide +kernel
theorem dX5_isWithin_7 : decode cX5_isWithin 7 = .ok (.if_icmp .gt 7, 3) := by decide +kernel
theorem dX5_isWithin_10 : decode cX5_isWithin 10 = .ok (.iconst 1, 1) := by decide +kernel
theorem dX5_isWithin_11 : decode cX5_isWithin 11 = .ok (.goto 4, 3) := by decide +kernel
theorem dX5_isWithin_14 : decode cX5_isWithin 14 = .ok (.iconst 0, 1) := by decide +kernel
theorem dX5_isWithin_15 : decode cX5_isWithin 15 = .ok (.ireturn, 1) := by decide +kernel
theorem dX5_isOfKind_0 : decode cX5_isOfKind 0 = .ok (.iload_n 0, 1) := by decide +kernel
theorem dX5_isOfKind_1 : decode cX5_isOfKind 1 = .ok (.ifCond .ne 12, 3) := by decide +kernel
theorem dX5_isOfKind_4 : decode cX5_isOfKind 4 = .ok (.iload_n 1, 1) := by decide +kernel
theorem dX5_isOfKind_5 : decode cX5_isOfKind 5 = .ok (.iconst 0, 1) := by decide +kernel
theorem dX5_isOfKind_6 : decode cX5_isOfKind 6 = .ok (.sipush 255, 3) := by decide +kernel
theorem dX5_isOfKind_9 : decode cX5_isOfKind 9 = .ok (.invokestatic 46, 3) := by decide +kernel
theorem dX5_isOfKind_12 : decode cX5_isOfKind 12 = .ok (.ireturn, 1) := by decide +kernel
theorem dX5_isOfKind_13 : decode cX5_isOfKind 13 = .ok (.iload_n 0, 1) := by decide +kernel
theorem dX5_isOfKind_14 : decode cX5_isOfKind 14 = .ok (.iconst 1, 1) := by decide +kernel
theorem dX5_isOfKind_15 : decode cX5_isOfKind 15 = .ok (.if_icmp .ne 12, 3) := by decide +kernel
theorem dX5_isOfKind_18 : decode cX5_isOfKind 18 = .ok (.iload_n 1, 1) := by decide +kernel
theorem dX5_isOfKind_19 : decode cX5_isOfKind 19 = .ok (.iconst 0, 1) := by decide +kernel
theorem dX5_isOfKind_20 : decode cX5_isOfKind 20 = .ok (.iconst 3, 1) := by decide +kernel
theorem dX5_isOfKind_21 : decode cX5_isOfKind 21 = .ok (.invokestatic 46, 3) := by decide +kernel
theorem dX5_isOfKind_24 : decode cX5_isOfKind 24 = .ok (.ifCond .eq 7, 3) := by decide +kernel
theorem dX5_isOfKind_27 : decode cX5_isOfKind 27 = .ok (.iconst 1, 1) := by decide +kernel
theorem dX5_isOfKind_28 : decode cX5_isOfKind 28 = .ok (.goto 4, 3) := by decide +kernel
theorem dX5_isOfKind_31 : decode cX5_isOfKind 31 = .ok (.iconst 0, 1) := by decide +kernel
theorem dX5_isOfKind_32 : decode cX5_isOfKind 32 = .ok (.ireturn, 1) := by decide +kernel
theorem dX5_isAhead_0 : decode cX5_isAhead 0 = .ok (.iload_n 1, 1) := by decide +kernel
theorem dX5_isAhead_1 : decode cX5_isAhead 1 = .ok (.aload_n 0, 1) := by decide +kernel
theorem dX5_isAhead_2 : decode cX5_isAhead 2 = .ok (.getfield 160, 3) := by decide +kernel
theorem dX5_isAhead_5 : decode cX5_isAhead 5 = .ok (.if_icmp .le 14, 3) := by decide +kernel
theorem dX5_isAhead_8 : decode cX5_isAhead 8 = .ok (.iload_n 1, 1) := by decide +kernel
theorem dX5_isAhead_9 : decode cX5_isAhead 9 = .ok (.sipush 199, 3) := by decide +kernel
theorem dX5_isAhead_12 : decode cX5_isAhead 12 = .ok (.if_icmp .gt 7, 3) := by decide +kernel
theorem dX5_isAhead_15 : decode cX5_isAhead 15 = .ok (.iconst 1, 1) := by decide +kernel
theorem dX5_isAhead_16 : decode cX5_isAhead 16 = .ok (.goto 4, 3) := by decide +kernel
theorem dX5_isAhead_19 : decode cX5_isAhead 19 = .ok (.iconst 0, 1) := by decide +kernel
theorem dX5_isAhead_20 : decode cX5_isAhead 20 = .ok (.ireturn, 1) := by decide +kernel
theorem dX5_checkDelay_0 : decode cX5_checkDelay 0 = .ok (.iload_n 1, 1) := by decide +kernel
theorem dX5_checkDelay_1 : decode cX5_checkDelay 1 = .ok (.ifCond .lt 14, 3) := by decide +kernel
theorem dX5_checkDelay_4 : decode cX5_checkDelay 4 = .ok (.iload_n 1, 1) := by decide +kernel
theorem dX5_checkDelay_5 : decode cX5_checkDelay 5 = .ok (.aload_n 0, 1) := by decide +kernel
theorem dX5_checkDelay_6 : decode cX5_checkDelay 6 = .ok (.getfield 19, 3) := by decide +kernel
theorem dX5_checkDelay_9 : decode cX5_checkDelay 9 = .ok (.getfield 252, 3) := by decide +kernel
theorem dX5_checkDelay_12 : decode cX5_checkDelay 12 = .ok (.if_icmp .lt 14, 3) := by decide +kernel
theorem dX5_checkDelay_15 : decode cX5_checkDelay 15 = .ok (.new 74, 3) := by decide +kernel
theorem dX5_checkDelay_18 : decode cX5_checkDelay 18 = .ok (.dup, 1) := by decide +kernel
theorem dX5_checkDelay_19 : decode cX5_checkDelay 19 = .ok (.ldc_w 303, 3) := by decide +kernel
theorem dX5_checkDelay_22 : decode cX5_checkDelay 22 = .ok (.invokespecial 78, 3) := by decide +kernel
theorem dX5_checkDelay_25 : decode cX5_checkDelay 25 = .ok (.athrow, 1) := by decide +kernel
theorem dX5_checkDelay_26 : decode cX5_checkDelay 26 = .ok (.iload_n 2, 1) := by decide +kernel
theorem dX5_checkDelay_27 : decode cX5_checkDelay 27 = .ok (.iconst 1, 1) := by decide +kernel
theorem dX5_checkDelay_28 : decode cX5_checkDelay 28 = .ok (.bipush 30, 2) := by decide +kernel
theorem dX5_checkDelay_30 : decode cX5_checkDelay 30 = .ok (.invokestatic 46, 3) := by decide +kernel
theorem dX5_checkDelay_33 : decode cX5_checkDelay 33 = .ok (.ifCond .ne 14, 3) := by decide +kernel
theorem dX5_checkDelay_36 : decode cX5_checkDelay 36 = .ok (.new 58, 3) := by decide +kernel
theorem dX5_checkDelay_39 : decode cX5_checkDelay 39 = .ok (.dup, 1) := by decide +kernel
theorem dX5_checkDelay_40 : decode cX5_checkDelay 40 = .ok (.ldc_w 305, 3) := by decide +kernel
theorem dX5_checkDelay_43 : decode cX5_checkDelay 43 = .ok (.invokespecial 62, 3) := by decide +kernel
theorem dX5_checkDelay_46 : decode cX5_checkDelay 46 = .ok (.athrow, 1) := by decide +kernel
theorem dX5_checkDelay_47 : decode cX5_checkDelay 47 = .ok (.aload_n 0, 1) := by decide +kernel
theorem dX5_checkDelay_48 : decode cX5_checkDelay 48 = .ok (.getfield 19, 3) := by decide +kernel
theorem dX5_checkDelay_51 : decode cX5_checkDelay 51 = .ok (.getfield 307, 3) := by decide +kernel
theorem dX5_checkDelay_54 : decode cX5_checkDelay 54 = .ok (.iload_n 1, 1) := by decide +kernel
theorem dX5_checkDelay_55 : decode cX5_checkDelay 55 = .ok (.iaload, 1) := by decide +kernel
theorem dX5_checkDelay_56 : decode cX5_checkDelay 56 = .ok (.aload_n 0, 1) := by decide +kernel
theorem dX5_checkDelay_57 : decode cX5_checkDelay 57 = .ok (.getfield 160, 3) := by decide +kernel
theorem dX5_checkDelay_60 : decode cX5_checkDelay 60 = .ok (.if_icmp .gt 14, 3) := by decide +kernel
theorem dX5_checkDelay_63 : decode cX5_checkDelay 63 = .ok (.new 69, 3) := by decide +kernel
theorem dX5_checkDelay_66 : decode cX5_checkDelay 66 = .ok (.dup, 1) := by decide +kernel
theorem dX5_checkDelay_67 : decode cX5_checkDelay 67 = .ok (.ldc_w 310, 3) := by decide +kernel
theorem dX5_checkDelay_70 : decode cX5_checkDelay 70 = .ok (.invokespecial 73, 3) := by decide +kernel
theorem dX5_checkDelay_73 : decode cX5_checkDelay 73 = .ok (.athrow, 1) := by decide +kernel
theorem dX5_checkDelay_74 : decode cX5_checkDelay 74 = .ok (.return_, 1) := by decide +kernel
theorem dX5_joinerAt_0 : decode cX5_joinerAt 0 = .ok (.iload_n 1, 1) := by decide +kernel
theorem dX5_joinerAt_1 : decode cX5_joinerAt 1 = .ok (.ifCond .lt 17, 3) := by decide +kernel
theorem dX5_joinerAt_4 : decode cX5_joinerAt 4 = .ok (.iload_n 1, 1) := by decide +kernel
theorem dX5_joinerAt_5 : decode cX5_joinerAt 5 = .ok (.aload_n 0, 1) := by decide +kernel
theorem dX5_joinerAt_6 : decode cX5_joinerAt 6 = .ok (.getfield 174, 3) := by decide +kernel
theorem dX5_joinerAt_9 : decode cX5_joinerAt 9 = .ok (.if_icmp .ge 9, 3) := by decide +kernel
theorem dX5_joinerAt_12 : decode cX5_joinerAt 12 = .ok (.iload_n 1, 1) := by decide +kernel
theorem dX5_joinerAt_13 : decode cX5_joinerAt 13 = .ok (.bipush 8, 2) := by decide +kernel
theorem dX5_joinerAt_15 : decode cX5_joinerAt 15 = .ok (.if_icmp .lt 14, 3) := by decide +kernel
theorem dX5_joinerAt_18 : decode cX5_joinerAt 18 = .ok (.new 74, 3) := by decide +kernel
theorem dX5_joinerAt_21 : decode cX5_joinerAt 21 = .ok (.dup, 1) := by decide +kernel
theorem dX5_joinerAt_22 : decode cX5_joinerAt 22 = .ok (.ldc_w 312, 3) := by decide +kernel
theorem dX5_joinerAt_25 : decode cX5_joinerAt 25 = .ok (.invokespecial 78, 3) := by decide +kernel
theorem dX5_joinerAt_28 : decode cX5_joinerAt 28 = .ok (.athrow, 1) := by decide +kernel
theorem dX5_joinerAt_29 : decode cX5_joinerAt 29 = .ok (.aload_n 0, 1) := by decide +kernel
theorem dX5_joinerAt_30 : decode cX5_joinerAt 30 = .ok (.getfield 41, 3) := by decide +kernel
theorem dX5_joinerAt_33 : decode cX5_joinerAt 33 = .ok (.iload_n 1, 1) := by decide +kernel
theorem dX5_joinerAt_34 : decode cX5_joinerAt 34 = .ok (.aaload, 1) := by decide +kernel
theorem dX5_joinerAt_35 : decode cX5_joinerAt 35 = .ok (.astore_n 2, 1) := by decide +kernel
theorem dX5_joinerAt_36 : decode cX5_joinerAt 36 = .ok (.aload_n 2, 1) := by decide +kernel
theorem dX5_joinerAt_37 : decode cX5_joinerAt 37 = .ok (.ifnonnull 14, 3) := by decide +kernel
theorem dX5_joinerAt_40 : decode cX5_joinerAt 40 = .ok (.new 74, 3) := by decide +kernel
theorem dX5_joinerAt_43 : decode cX5_joinerAt 43 = .ok (.dup, 1) := by decide +kernel
theorem dX5_joinerAt_44 : decode cX5_joinerAt 44 = .ok (.ldc_w 312, 3) := by decide +kernel
theorem dX5_joinerAt_47 : decode cX5_joinerAt 47 = .ok (.invokespecial 78, 3) := by decide +kernel
theorem dX5_joinerAt_50 : decode cX5_joinerAt 50 = .ok (.athrow, 1) := by decide +kernel
theorem dX5_joinerAt_51 : decode cX5_joinerAt 51 = .ok (.aload_n 2, 1) := by decide +kernel
theorem dX5_joinerAt_52 : decode cX5_joinerAt 52 = .ok (.areturn, 1) := by decide +kernel
theorem dX5_beginSteps_0 : decode cX5_beginSteps 0 = .ok (.iconst 0, 1) := by decide +kernel
theorem dX5_beginSteps_1 : decode cX5_beginSteps 1 = .ok (.istore_n 2, 1) := by decide +kernel
theorem dX5_beginSteps_2 : decode cX5_beginSteps 2 = .ok (.iload_n 2, 1) := by decide +kernel
theorem dX5_beginSteps_3 : decode cX5_beginSteps 3 = .ok (.bipush 12, 2) := by decide +kernel
theorem dX5_beginSteps_5 : decode cX5_beginSteps 5 = .ok (.if_icmp .ge 88, 3) := by decide +kernel
theorem dX5_beginSteps_8 : decode cX5_beginSteps 8 = .ok (.aload_n 0, 1) := by decide +kernel
theorem dX5_beginSteps_9 : decode cX5_beginSteps 9 = .ok (.aload_n 1, 1) := by decide +kernel
theorem dX5_beginSteps_10 : decode cX5_beginSteps 10 = .ok (.iload_n 2, 1) := by decide +kernel
theorem dX5_beginSteps_11 : decode cX5_beginSteps 11 = .ok (.invokevirtual 314, 3) := by decide +kernel
theorem dX5_beginSteps_14 : decode cX5_beginSteps 14 = .ok (.ifCond .eq 73, 3) := by decide +kernel
theorem dX5_beginSteps_17 : decode cX5_beginSteps 17 = .ok (.aload_n 0, 1) := by decide +kernel
theorem dX5_beginSteps_18 : decode cX5_beginSteps 18 = .ok (.aload_n 1, 1) := by decide +kernel
theorem dX5_beginSteps_19 : decode cX5_beginSteps 19 = .ok (.iload_n 2, 1) := by decide +kernel
theorem dX5_beginSteps_20 : decode cX5_beginSteps 20 = .ok (.invokevirtual 318, 3) := by decide +kernel
theorem dX5_beginSteps_23 : decode cX5_beginSteps 23 = .ok (.ifCond .eq 64, 3) := by decide +kernel
theorem dX5_beginSteps_26 : decode cX5_beginSteps 26 = .ok (.aload_n 0, 1) := by decide +kernel
theorem dX5_beginSteps_27 : decode cX5_beginSteps 27 = .ok (.getfield 10, 3) := by decide +kernel
theorem dX5_beginSteps_30 : decode cX5_beginSteps 30 = .ok (.getfield 126, 3) := by decide +kernel
theorem dX5_beginSteps_33 : decode cX5_beginSteps 33 = .ok (.iload_n 2, 1) := by decide +kernel
theorem dX5_beginSteps_34 : decode cX5_beginSteps 34 = .ok (.iaload, 1) := by decide +kernel
theorem dX5_beginSteps_35 : decode cX5_beginSteps 35 = .ok (.iconst 1, 1) := by decide +kernel
theorem dX5_beginSteps_36 : decode cX5_beginSteps 36 = .ok (.if_icmp .ne 19, 3) := by decide +kernel
theorem dX5_beginSteps_39 : decode cX5_beginSteps 39 = .ok (.aload_n 0, 1) := by decide +kernel
theorem dX5_beginSteps_40 : decode cX5_beginSteps 40 = .ok (.getfield 19, 3) := by decide +kernel
theorem dX5_beginSteps_43 : decode cX5_beginSteps 43 = .ok (.aload_n 0, 1) := by decide +kernel
theorem dX5_beginSteps_44 : decode cX5_beginSteps 44 = .ok (.getfield 10, 3) := by decide +kernel
theorem dX5_beginSteps_47 : decode cX5_beginSteps 47 = .ok (.getfield 321, 3) := by decide +kernel
theorem dX5_beginSteps_50 : decode cX5_beginSteps 50 = .ok (.iload_n 2, 1) := by decide +kernel
theorem dX5_beginSteps_51 : decode cX5_beginSteps 51 = .ok (.iaload, 1) := by decide +kernel
theorem dX5_beginSteps_52 : decode cX5_beginSteps 52 = .ok (.invokevirtual 324, 3) := by decide +kernel
theorem dX5_beginSteps_55 : decode cX5_beginSteps 55 = .ok (.aload_n 1, 1) := by decide +kernel
theorem dX5_beginSteps_56 : decode cX5_beginSteps 56 = .ok (.getfield 327, 3) := by decide +kernel
theorem dX5_beginSteps_59 : decode cX5_beginSteps 59 = .ok (.iload_n 2, 1) := by decide +kernel
theorem dX5_beginSteps_60 : decode cX5_beginSteps 60 = .ok (.aload_n 0, 1) := by decide +kernel
theorem dX5_beginSteps_61 : decode cX5_beginSteps 61 = .ok (.getfield 10, 3) := by decide +kernel
theorem dX5_beginSteps_64 : decode cX5_beginSteps 64 = .ok (.aload_n 1, 1) := by decide +kernel
theorem dX5_beginSteps_65 : decode cX5_beginSteps 65 = .ok (.iload_n 2, 1) := by decide +kernel
theorem dX5_beginSteps_66 : decode cX5_beginSteps 66 = .ok (.invokevirtual 330, 3) := by decide +kernel
theorem dX5_beginSteps_69 : decode cX5_beginSteps 69 = .ok (.iastore, 1) := by decide +kernel
theorem dX5_beginSteps_70 : decode cX5_beginSteps 70 = .ok (.aload_n 1, 1) := by decide +kernel
theorem dX5_beginSteps_71 : decode cX5_beginSteps 71 = .ok (.getfield 333, 3) := by decide +kernel
theorem dX5_beginSteps_74 : decode cX5_beginSteps 74 = .ok (.iload_n 2, 1) := by decide +kernel
theorem dX5_beginSteps_75 : decode cX5_beginSteps 75 = .ok (.aload_n 0, 1) := by decide +kernel
theorem dX5_beginSteps_76 : decode cX5_beginSteps 76 = .ok (.getfield 160, 3) := by decide +kernel
theorem dX5_beginSteps_79 : decode cX5_beginSteps 79 = .ok (.iastore, 1) := by decide +kernel
theorem dX5_beginSteps_80 : decode cX5_beginSteps 80 = .ok (.aload_n 1, 1) := by decide +kernel
theorem dX5_beginSteps_81 : decode cX5_beginSteps 81 = .ok (.getfield 195, 3) := by decide +kernel
theorem dX5_beginSteps_84 : decode cX5_beginSteps 84 = .ok (.iload_n 2, 1) := by decide +kernel
theorem dX5_beginSteps_85 : decode cX5_beginSteps 85 = .ok (.iconst 1, 1) := by decide +kernel
theorem dX5_beginSteps_86 : decode cX5_beginSteps 86 = .ok (.iastore, 1) := by decide +kernel
theorem dX5_beginSteps_87 : decode cX5_beginSteps 87 = .ok (.iinc 2 1, 3) := by decide +kernel
theorem dX5_beginSteps_90 : decode cX5_beginSteps 90 = .ok (.goto (-88), 3) := by decide +kernel
theorem dX5_beginSteps_93 : decode cX5_beginSteps 93 = .ok (.return_, 1) := by decide +kernel
theorem dX5_isReady_0 : decode cX5_isReady 0 = .ok (.aload_n 1, 1) := by decide +kernel
theorem dX5_isReady_1 : decode cX5_isReady 1 = .ok (.getfield 189, 3) := by decide +kernel
theorem dX5_isReady_4 : decode cX5_isReady 4 = .ok (.ifCond .ne 39, 3) := by decide +kernel
theorem dX5_isReady_7 : decode cX5_isReady 7 = .ok (.aload_n 1, 1) := by decide +kernel
theorem dX5_isReady_8 : decode cX5_isReady 8 = .ok (.getfield 186, 3) := by decide +kernel
theorem dX5_isReady_11 : decode cX5_isReady 11 = .ok (.aload_n 0, 1) := by decide +kernel
theorem dX5_isReady_12 : decode cX5_isReady 12 = .ok (.getfield 160, 3) := by decide +kernel
theorem dX5_isReady_15 : decode cX5_isReady 15 = .ok (.if_icmp .gt 28, 3) := by decide +kernel
theorem dX5_isReady_18 : decode cX5_isReady 18 = .ok (.aload_n 1, 1) := by decide +kernel
theorem dX5_isReady_19 : decode cX5_isReady 19 = .ok (.iload_n 2, 1) := by decide +kernel
theorem dX5_isReady_20 : decode cX5_isReady 20 = .ok (.iconst 0, 1) := by decide +kernel
theorem dX5_isReady_21 : decode cX5_isReady 21 = .ok (.invokevirtual 336, 3) := by decide +kernel
theorem dX5_isReady_24 : decode cX5_isReady 24 = .ok (.ifCond .eq 19, 3) := by decide +kernel
theorem dX5_isReady_27 : decode cX5_isReady 27 = .ok (.aload_n 0, 1) := by decide +kernel
theorem dX5_isReady_28 : decode cX5_isReady 28 = .ok (.getfield 10, 3) := by decide +kernel
theorem dX5_isReady_31 : decode cX5_isReady 31 = .ok (.aload_n 1, 1) := by decide +kernel
theorem dX5_isReady_32 : decode cX5_isReady 32 = .ok (.iload_n 2, 1) := by decide +kernel
theorem dX5_isReady_33 : decode cX5_isReady 33 = .ok (.invokevirtual 339, 3) := by decide +kernel
theorem dX5_isReady_36 : decode cX5_isReady 36 = .ok (.ifCond .eq 7, 3) := by decide +kernel
theorem dX5_isReady_39 : decode cX5_isReady 39 = .ok (.iconst 1, 1) := by decide +kernel
theorem dX5_isReady_40 : decode cX5_isReady 40 = .ok (.goto 4, 3) := by decide +kernel
theorem dX5_isReady_43 : decode cX5_isReady 43 = .ok (.iconst 0, 1) := by decide +kernel
theorem dX5_isReady_44 : decode cX5_isReady 44 = .ok (.ireturn, 1) := by decide +kernel
theorem dX5_canBegin_0 : decode cX5_canBegin 0 = .ok (.iload_n 2, 1) := by decide +kernel
theorem dX5_canBegin_1 : decode cX5_canBegin 1 = .ok (.ifCond .lt 9, 3) := by decide +kernel
theorem dX5_canBegin_4 : decode cX5_canBegin 4 = .ok (.iload_n 2, 1) := by decide +kernel
theorem dX5_canBegin_5 : decode cX5_canBegin 5 = .ok (.bipush 12, 2) := by decide +kernel
theorem dX5_canBegin_7 : decode cX5_canBegin 7 = .ok (.if_icmp .lt 5, 3) := by decide +kernel
theorem dX5_canBegin_10 : decode cX5_canBegin 10 = .ok (.iconst 0, 1) := by decide +kernel
theorem dX5_canBegin_11 : decode cX5_canBegin 11 = .ok (.ireturn, 1) := by decide +kernel
theorem dX5_canBegin_12 : decode cX5_canBegin 12 = .ok (.aload_n 0, 1) := by decide +kernel
theorem dX5_canBegin_13 : decode cX5_canBegin 13 = .ok (.getfield 10, 3) := by decide +kernel
theorem dX5_canBegin_16 : decode cX5_canBegin 16 = .ok (.getfield 126, 3) := by decide +kernel
theorem dX5_canBegin_19 : decode cX5_canBegin 19 = .ok (.iload_n 2, 1) := by decide +kernel
theorem dX5_canBegin_20 : decode cX5_canBegin 20 = .ok (.iaload, 1) := by decide +kernel
theorem dX5_canBegin_21 : decode cX5_canBegin 21 = .ok (.iconst 1, 1) := by decide +kernel
theorem dX5_canBegin_22 : decode cX5_canBegin 22 = .ok (.if_icmp .ne 20, 3) := by decide +kernel
theorem dX5_canBegin_25 : decode cX5_canBegin 25 = .ok (.aload_n 0, 1) := by decide +kernel
theorem dX5_canBegin_26 : decode cX5_canBegin 26 = .ok (.getfield 19, 3) := by decide +kernel
theorem dX5_canBegin_29 : decode cX5_canBegin 29 = .ok (.aload_n 0, 1) := by decide +kernel
theorem dX5_canBegin_30 : decode cX5_canBegin 30 = .ok (.getfield 10, 3) := by decide +kernel
theorem dX5_canBegin_33 : decode cX5_canBegin 33 = .ok (.getfield 321, 3) := by decide +kernel
theorem dX5_canBegin_36 : decode cX5_canBegin 36 = .ok (.iload_n 2, 1) := by decide +kernel
theorem dX5_canBegin_37 : decode cX5_canBegin 37 = .ok (.iaload, 1) := by decide +kernel
theorem dX5_canBegin_38 : decode cX5_canBegin 38 = .ok (.invokevirtual 342, 3) := by decide +kernel
theorem dX5_canBegin_41 : decode cX5_canBegin 41 = .ok (.ireturn, 1) := by decide +kernel
theorem dX5_canBegin_42 : decode cX5_canBegin 42 = .ok (.aload_n 0, 1) := by decide +kernel
theorem dX5_canBegin_43 : decode cX5_canBegin 43 = .ok (.getfield 10, 3) := by decide +kernel
theorem dX5_canBegin_46 : decode cX5_canBegin 46 = .ok (.getfield 126, 3) := by decide +kernel
theorem dX5_canBegin_49 : decode cX5_canBegin 49 = .ok (.iload_n 2, 1) := by decide +kernel
theorem dX5_canBegin_50 : decode cX5_canBegin 50 = .ok (.iaload, 1) := by decide +kernel
theorem dX5_canBegin_51 : decode cX5_canBegin 51 = .ok (.iconst 2, 1) := by decide +kernel
theorem dX5_canBegin_52 : decode cX5_canBegin 52 = .ok (.if_icmp .ne 23, 3) := by decide +kernel
theorem dX5_canBegin_55 : decode cX5_canBegin 55 = .ok (.aload_n 0, 1) := by decide +kernel
theorem dX5_canBegin_56 : decode cX5_canBegin 56 = .ok (.getfield 26, 3) := by decide +kernel
theorem dX5_canBegin_59 : decode cX5_canBegin 59 = .ok (.aload_n 1, 1) := by decide +kernel
theorem dX5_canBegin_60 : decode cX5_canBegin 60 = .ok (.getfield 198, 3) := by decide +kernel
theorem dX5_canBegin_63 : decode cX5_canBegin 63 = .ok (.iload_n 2, 1) := by decide +kernel
theorem dX5_canBegin_64 : decode cX5_canBegin 64 = .ok (.iaload, 1) := by decide +kernel
theorem dX5_canBegin_65 : decode cX5_canBegin 65 = .ok (.invokevirtual 345, 3) := by decide +kernel
theorem dX5_canBegin_68 : decode cX5_canBegin 68 = .ok (.aload_n 0, 1) := by decide +kernel
theorem dX5_canBegin_69 : decode cX5_canBegin 69 = .ok (.getfield 160, 3) := by decide +kernel
theorem dX5_canBegin_72 : decode cX5_canBegin 72 = .ok (.if_icmp .ne 7, 3) := by decide +kernel
theorem dX5_canBegin_75 : decode cX5_canBegin 75 = .ok (.iconst 1, 1) := by decide +kernel
theorem dX5_canBegin_76 : decode cX5_canBegin 76 = .ok (.goto 4, 3) := by decide +kernel
theorem dX5_canBegin_79 : decode cX5_canBegin 79 = .ok (.iconst 0, 1) := by decide +kernel
theorem dX5_canBegin_80 : decode cX5_canBegin 80 = .ok (.ireturn, 1) := by decide +kernel
theorem dX5_loseSessions_0 : decode cX5_loseSessions 0 = .ok (.iconst 0, 1) := by decide +kernel
theorem dX5_loseSessions_1 : decode cX5_loseSessions 1 = .ok (.istore_n 2, 1) := by decide +kernel
theorem dX5_loseSessions_2 : decode cX5_loseSessions 2 = .ok (.iload_n 2, 1) := by decide +kernel
theorem dX5_loseSessions_3 : decode cX5_loseSessions 3 = .ok (.bipush 12, 2) := by decide +kernel
theorem dX5_loseSessions_5 : decode cX5_loseSessions 5 = .ok (.if_icmp .ge 68, 3) := by decide +kernel
theorem dX5_loseSessions_8 : decode cX5_loseSessions 8 = .ok (.aload_n 1, 1) := by decide +kernel
theorem dX5_loseSessions_9 : decode cX5_loseSessions 9 = .ok (.getfield 195, 3) := by decide +kernel
theorem dX5_loseSessions_12 : decode cX5_loseSessions 12 = .ok (.iload_n 2, 1) := by decide +kernel
theorem dX5_loseSessions_13 : decode cX5_loseSessions 13 = .ok (.iaload, 1) := by decide +kernel
theorem dX5_loseSessions_14 : decode cX5_loseSessions 14 = .ok (.ifCond .ne 53, 3) := by decide +kernel
theorem dX5_loseSessions_17 : decode cX5_loseSessions 17 = .ok (.aload_n 0, 1) := by decide +kernel
theorem dX5_loseSessions_18 : decode cX5_loseSessions 18 = .ok (.getfield 26, 3) := by decide +kernel
theorem dX5_loseSessions_21 : decode cX5_loseSessions 21 = .ok (.aload_n 1, 1) := by decide +kernel
theorem dX5_loseSessions_22 : decode cX5_loseSessions 22 = .ok (.getfield 198, 3) := by decide +kernel
theorem dX5_loseSessions_25 : decode cX5_loseSessions 25 = .ok (.iload_n 2, 1) := by decide +kernel
theorem dX5_loseSessions_26 : decode cX5_loseSessions 26 = .ok (.iaload, 1) := by decide +kernel
theorem dX5_loseSessions_27 : decode cX5_loseSessions 27 = .ok (.invokevirtual 345, 3) := by decide +kernel
theorem dX5_loseSessions_30 : decode cX5_loseSessions 30 = .ok (.aload_n 0, 1) := by decide +kernel
theorem dX5_loseSessions_31 : decode cX5_loseSessions 31 = .ok (.getfield 160, 3) := by decide +kernel
theorem dX5_loseSessions_34 : decode cX5_loseSessions 34 = .ok (.if_icmp .ne 33, 3) := by decide +kernel
theorem dX5_loseSessions_37 : decode cX5_loseSessions 37 = .ok (.aload_n 0, 1) := by decide +kernel
theorem dX5_loseSessions_38 : decode cX5_loseSessions 38 = .ok (.getfield 26, 3) := by decide +kernel
theorem dX5_loseSessions_41 : decode cX5_loseSessions 41 = .ok (.aload_n 1, 1) := by decide +kernel
theorem dX5_loseSessions_42 : decode cX5_loseSessions 42 = .ok (.getfield 198, 3) := by decide +kernel
theorem dX5_loseSessions_45 : decode cX5_loseSessions 45 = .ok (.iload_n 2, 1) := by decide +kernel
theorem dX5_loseSessions_46 : decode cX5_loseSessions 46 = .ok (.iaload, 1) := by decide +kernel
theorem dX5_loseSessions_47 : decode cX5_loseSessions 47 = .ok (.invokevirtual 201, 3) := by decide +kernel
theorem dX5_loseSessions_50 : decode cX5_loseSessions 50 = .ok (.aload_n 1, 1) := by decide +kernel
theorem dX5_loseSessions_51 : decode cX5_loseSessions 51 = .ok (.getfield 198, 3) := by decide +kernel
theorem dX5_loseSessions_54 : decode cX5_loseSessions 54 = .ok (.iload_n 2, 1) := by decide +kernel
theorem dX5_loseSessions_55 : decode cX5_loseSessions 55 = .ok (.iconst (-1), 1) := by decide +kernel
theorem dX5_loseSessions_56 : decode cX5_loseSessions 56 = .ok (.iastore, 1) := by decide +kernel
theorem dX5_loseSessions_57 : decode cX5_loseSessions 57 = .ok (.aload_n 1, 1) := by decide +kernel
theorem dX5_loseSessions_58 : decode cX5_loseSessions 58 = .ok (.getfield 348, 3) := by decide +kernel
theorem dX5_loseSessions_61 : decode cX5_loseSessions 61 = .ok (.iload_n 2, 1) := by decide +kernel
theorem dX5_loseSessions_62 : decode cX5_loseSessions 62 = .ok (.dup2, 1) := by decide +kernel
theorem dX5_loseSessions_63 : decode cX5_loseSessions 63 = .ok (.iaload, 1) := by decide +kernel
theorem dX5_loseSessions_64 : decode cX5_loseSessions 64 = .ok (.iconst 1, 1) := by decide +kernel
theorem dX5_loseSessions_65 : decode cX5_loseSessions 65 = .ok (.iadd, 1) := by decide +kernel
theorem dX5_loseSessions_66 : decode cX5_loseSessions 66 = .ok (.iastore, 1) := by decide +kernel
theorem dX5_loseSessions_67 : decode cX5_loseSessions 67 = .ok (.iinc 2 1, 3) := by decide +kernel
theorem dX5_loseSessions_70 : decode cX5_loseSessions 70 = .ok (.goto (-68), 3) := by decide +kernel
theorem dX5_loseSessions_73 : decode cX5_loseSessions 73 = .ok (.return_, 1) := by decide +kernel
theorem dX5_bookAll_0 : decode cX5_bookAll 0 = .ok (.aload_n 0, 1) := by decide +kernel
theorem dX5_bookAll_1 : decode cX5_bookAll 1 = .ok (.getfield 35, 3) := by decide +kernel
theorem dX5_bookAll_4 : decode cX5_bookAll 4 = .ok (.aload_n 0, 1) := by decide +kernel
theorem dX5_bookAll_5 : decode cX5_bookAll 5 = .ok (.getfield 160, 3) := by decide +kernel
theorem dX5_bookAll_8 : decode cX5_bookAll 8 = .ok (.iconst (-1), 1) := by decide +kernel
theorem dX5_bookAll_9 : decode cX5_bookAll 9 = .ok (.iconst 0, 1) := by decide +kernel
theorem dX5_bookAll_10 : decode cX5_bookAll 10 = .ok (.invokevirtual 351, 3) := by decide +kernel
theorem dX5_bookAll_13 : decode cX5_bookAll 13 = .ok (.iconst 0, 1) := by decide +kernel
theorem dX5_bookAll_14 : decode cX5_bookAll 14 = .ok (.istore_n 1, 1) := by decide +kernel
theorem dX5_bookAll_15 : decode cX5_bookAll 15 = .ok (.iload_n 1, 1) := by decide +kernel
theorem dX5_bookAll_16 : decode cX5_bookAll 16 = .ok (.aload_n 0, 1) := by decide +kernel
theorem dX5_bookAll_17 : decode cX5_bookAll 17 = .ok (.getfield 174, 3) := by decide +kernel
theorem dX5_bookAll_20 : decode cX5_bookAll 20 = .ok (.if_icmp .ge 27, 3) := by decide +kernel
theorem dX5_bookAll_23 : decode cX5_bookAll 23 = .ok (.aload_n 0, 1) := by decide +kernel
theorem dX5_bookAll_24 : decode cX5_bookAll 24 = .ok (.iload_n 1, 1) := by decide +kernel
theorem dX5_bookAll_25 : decode cX5_bookAll 25 = .ok (.invokevirtual 179, 3) := by decide +kernel
theorem dX5_bookAll_28 : decode cX5_bookAll 28 = .ok (.astore_n 2, 1) := by decide +kernel
theorem dX5_bookAll_29 : decode cX5_bookAll 29 = .ok (.aload_n 2, 1) := by decide +kernel
theorem dX5_bookAll_30 : decode cX5_bookAll 30 = .ok (.getfield 189, 3) := by decide +kernel
theorem dX5_bookAll_33 : decode cX5_bookAll 33 = .ok (.ifCond .ne 8, 3) := by decide +kernel
theorem dX5_bookAll_36 : decode cX5_bookAll 36 = .ok (.aload_n 0, 1) := by decide +kernel
theorem dX5_bookAll_37 : decode cX5_bookAll 37 = .ok (.aload_n 2, 1) := by decide +kernel
theorem dX5_bookAll_38 : decode cX5_bookAll 38 = .ok (.invokevirtual 355, 3) := by decide +kernel
theorem dX5_bookAll_41 : decode cX5_bookAll 41 = .ok (.iinc 1 1, 3) := by decide +kernel
theorem dX5_bookAll_44 : decode cX5_bookAll 44 = .ok (.goto (-29), 3) := by decide +kernel
theorem dX5_bookAll_47 : decode cX5_bookAll 47 = .ok (.return_, 1) := by decide +kernel
theorem dX5_bookFor_0 : decode cX5_bookFor 0 = .ok (.iconst 0, 1) := by decide +kernel
theorem dX5_bookFor_1 : decode cX5_bookFor 1 = .ok (.istore_n 2, 1) := by decide +kernel
theorem dX5_bookFor_2 : decode cX5_bookFor 2 = .ok (.iload_n 2, 1) := by decide +kernel
theorem dX5_bookFor_3 : decode cX5_bookFor 3 = .ok (.bipush 12, 2) := by decide +kernel
theorem dX5_bookFor_5 : decode cX5_bookFor 5 = .ok (.if_icmp .ge 82, 3) := by decide +kernel
theorem dX5_bookFor_8 : decode cX5_bookFor 8 = .ok (.aload_n 0, 1) := by decide +kernel
theorem dX5_bookFor_9 : decode cX5_bookFor 9 = .ok (.getfield 35, 3) := by decide +kernel
theorem dX5_bookFor_12 : decode cX5_bookFor 12 = .ok (.aload_n 1, 1) := by decide +kernel
theorem dX5_bookFor_13 : decode cX5_bookFor 13 = .ok (.iload_n 2, 1) := by decide +kernel
theorem dX5_bookFor_14 : decode cX5_bookFor 14 = .ok (.invokevirtual 358, 3) := by decide +kernel
theorem dX5_bookFor_17 : decode cX5_bookFor 17 = .ok (.aload_n 0, 1) := by decide +kernel
theorem dX5_bookFor_18 : decode cX5_bookFor 18 = .ok (.getfield 10, 3) := by decide +kernel
theorem dX5_bookFor_21 : decode cX5_bookFor 21 = .ok (.getfield 126, 3) := by decide +kernel
theorem dX5_bookFor_24 : decode cX5_bookFor 24 = .ok (.iload_n 2, 1) := by decide +kernel
theorem dX5_bookFor_25 : decode cX5_bookFor 25 = .ok (.iaload, 1) := by decide +kernel
theorem dX5_bookFor_26 : decode cX5_bookFor 26 = .ok (.iconst 2, 1) := by decide +kernel
theorem dX5_bookFor_27 : decode cX5_bookFor 27 = .ok (.if_icmp .ne 54, 3) := by decide +kernel
theorem dX5_bookFor_30 : decode cX5_bookFor 30 = .ok (.aload_n 1, 1) := by decide +kernel
theorem dX5_bookFor_31 : decode cX5_bookFor 31 = .ok (.iload_n 2, 1) := by decide +kernel
theorem dX5_bookFor_32 : decode cX5_bookFor 32 = .ok (.iconst 0, 1) := by decide +kernel
theorem dX5_bookFor_33 : decode cX5_bookFor 33 = .ok (.invokevirtual 336, 3) := by decide +kernel
theorem dX5_bookFor_36 : decode cX5_bookFor 36 = .ok (.ifCond .eq 45, 3) := by decide +kernel
theorem dX5_bookFor_39 : decode cX5_bookFor 39 = .ok (.aload_n 1, 1) := by decide +kernel
theorem dX5_bookFor_40 : decode cX5_bookFor 40 = .ok (.getfield 198, 3) := by decide +kernel
theorem dX5_bookFor_43 : decode cX5_bookFor 43 = .ok (.iload_n 2, 1) := by decide +kernel
theorem dX5_bookFor_44 : decode cX5_bookFor 44 = .ok (.iaload, 1) := by decide +kernel
theorem dX5_bookFor_45 : decode cX5_bookFor 45 = .ok (.iconst (-1), 1) := by decide +kernel
theorem dX5_bookFor_46 : decode cX5_bookFor 46 = .ok (.if_icmp .ne 35, 3) := by decide +kernel
theorem dX5_bookFor_49 : decode cX5_bookFor 49 = .ok (.aload_n 1, 1) := by decide +kernel
theorem dX5_bookFor_50 : decode cX5_bookFor 50 = .ok (.getfield 198, 3) := by decide +kernel
theorem dX5_bookFor_53 : decode cX5_bookFor 53 = .ok (.iload_n 2, 1) := by decide +kernel
theorem dX5_bookFor_54 : decode cX5_bookFor 54 = .ok (.aload_n 0, 1) := by decide +kernel
theorem dX5_bookFor_55 : decode cX5_bookFor 55 = .ok (.getfield 26, 3) := by decide +kernel
theorem dX5_bookFor_58 : decode cX5_bookFor 58 = .ok (.iload_n 2, 1) := by decide +kernel
theorem dX5_bookFor_59 : decode cX5_bookFor 59 = .ok (.aload_n 0, 1) := by decide +kernel
theorem dX5_bookFor_60 : decode cX5_bookFor 60 = .ok (.getfield 35, 3) := by decide +kernel
theorem dX5_bookFor_63 : decode cX5_bookFor 63 = .ok (.getfield 362, 3) := by decide +kernel
theorem dX5_bookFor_66 : decode cX5_bookFor 66 = .ok (.iload_n 2, 1) := by decide +kernel
theorem dX5_bookFor_67 : decode cX5_bookFor 67 = .ok (.iaload, 1) := by decide +kernel
theorem dX5_bookFor_68 : decode cX5_bookFor 68 = .ok (.invokevirtual 363, 3) := by decide +kernel
theorem dX5_bookFor_71 : decode cX5_bookFor 71 = .ok (.iastore, 1) := by decide +kernel
theorem dX5_bookFor_72 : decode cX5_bookFor 72 = .ok (.aload_n 0, 1) := by decide +kernel
theorem dX5_bookFor_73 : decode cX5_bookFor 73 = .ok (.getfield 35, 3) := by decide +kernel
theorem dX5_bookFor_76 : decode cX5_bookFor 76 = .ok (.aload_n 1, 1) := by decide +kernel
theorem dX5_bookFor_77 : decode cX5_bookFor 77 = .ok (.iload_n 2, 1) := by decide +kernel
theorem dX5_bookFor_78 : decode cX5_bookFor 78 = .ok (.invokevirtual 358, 3) := by decide +kernel
theorem dX5_bookFor_81 : decode cX5_bookFor 81 = .ok (.iinc 2 1, 3) := by decide +kernel
theorem dX5_bookFor_84 : decode cX5_bookFor 84 = .ok (.goto (-82), 3) := by decide +kernel
theorem dX5_bookFor_87 : decode cX5_bookFor 87 = .ok (.return_, 1) := by decide +kernel
theorem dX5_takeBackStep_0 : decode cX5_takeBackStep 0 = .ok (.aload_n 1, 1) := by decide +kernel
theorem dX5_takeBackStep_1 : decode cX5_takeBackStep 1 = .ok (.getfield 189, 3) := by decide +kernel
theorem dX5_takeBackStep_4 : decode cX5_takeBackStep 4 = .ok (.ifCond .ne 4, 3) := by decide +kernel
theorem dX5_takeBackStep_7 : decode cX5_takeBackStep 7 = .ok (.return_, 1) := by decide +kernel
theorem dX5_takeBackStep_8 : decode cX5_takeBackStep 8 = .ok (.aload_n 1, 1) := by decide +kernel
theorem dX5_takeBackStep_9 : decode cX5_takeBackStep 9 = .ok (.invokevirtual 366, 3) := by decide +kernel
theorem dX5_takeBackStep_12 : decode cX5_takeBackStep 12 = .ok (.istore_n 2, 1) := by decide +kernel
theorem dX5_takeBackStep_13 : decode cX5_takeBackStep 13 = .ok (.iload_n 2, 1) := by decide +kernel
theorem dX5_takeBackStep_14 : decode cX5_takeBackStep 14 = .ok (.ifCond .lt 9, 3) := by decide +kernel
theorem dX5_takeBackStep_17 : decode cX5_takeBackStep 17 = .ok (.iload_n 2, 1) := by decide +kernel
theorem dX5_takeBackStep_18 : decode cX5_takeBackStep 18 = .ok (.bipush 12, 2) := by decide +kernel
theorem dX5_takeBackStep_20 : decode cX5_takeBackStep 20 = .ok (.if_icmp .lt 4, 3) := by decide +kernel
theorem dX5_takeBackStep_23 : decode cX5_takeBackStep 23 = .ok (.return_, 1) := by decide +kernel
theorem dX5_takeBackStep_24 : decode cX5_takeBackStep 24 = .ok (.aload_n 1, 1) := by decide +kernel
theorem dX5_takeBackStep_25 : decode cX5_takeBackStep 25 = .ok (.getfield 195, 3) := by decide +kernel
theorem dX5_takeBackStep_28 : decode cX5_takeBackStep 28 = .ok (.iload_n 2, 1) := by decide +kernel
theorem dX5_takeBackStep_29 : decode cX5_takeBackStep 29 = .ok (.iconst 3, 1) := by decide +kernel
theorem dX5_takeBackStep_30 : decode cX5_takeBackStep 30 = .ok (.iastore, 1) := by decide +kernel
theorem dX5_takeBackStep_31 : decode cX5_takeBackStep 31 = .ok (.aload_n 0, 1) := by decide +kernel
theorem dX5_takeBackStep_32 : decode cX5_takeBackStep 32 = .ok (.getfield 10, 3) := by decide +kernel
theorem dX5_takeBackStep_35 : decode cX5_takeBackStep 35 = .ok (.getfield 126, 3) := by decide +kernel
theorem dX5_takeBackStep_38 : decode cX5_takeBackStep 38 = .ok (.iload_n 2, 1) := by decide +kernel
theorem dX5_takeBackStep_39 : decode cX5_takeBackStep 39 = .ok (.iaload, 1) := by decide +kernel
theorem dX5_takeBackStep_40 : decode cX5_takeBackStep 40 = .ok (.iconst 1, 1) := by decide +kernel
theorem dX5_takeBackStep_41 : decode cX5_takeBackStep 41 = .ok (.if_icmp .ne 20, 3) := by decide +kernel
theorem dX5_takeBackStep_44 : decode cX5_takeBackStep 44 = .ok (.aload_n 0, 1) := by decide +kernel
theorem dX5_takeBackStep_45 : decode cX5_takeBackStep 45 = .ok (.getfield 19, 3) := by decide +kernel
theorem dX5_takeBackStep_48 : decode cX5_takeBackStep 48 = .ok (.aload_n 0, 1) := by decide +kernel
theorem dX5_takeBackStep_49 : decode cX5_takeBackStep 49 = .ok (.getfield 10, 3) := by decide +kernel
theorem dX5_takeBackStep_52 : decode cX5_takeBackStep 52 = .ok (.getfield 321, 3) := by decide +kernel
theorem dX5_takeBackStep_55 : decode cX5_takeBackStep 55 = .ok (.iload_n 2, 1) := by decide +kernel
theorem dX5_takeBackStep_56 : decode cX5_takeBackStep 56 = .ok (.iaload, 1) := by decide +kernel
theorem dX5_takeBackStep_57 : decode cX5_takeBackStep 57 = .ok (.iconst 1, 1) := by decide +kernel
theorem dX5_takeBackStep_58 : decode cX5_takeBackStep 58 = .ok (.invokevirtual 95, 3) := by decide +kernel
theorem dX5_takeBackStep_61 : decode cX5_takeBackStep 61 = .ok (.return_, 1) := by decide +kernel
theorem dX5_foreseenOfStep_0 : decode cX5_foreseenOfStep 0 = .ok (.iload_n 2, 1) := by decide +kernel
theorem dX5_foreseenOfStep_1 : decode cX5_foreseenOfStep 1 = .ok (.ifCond .lt 9, 3) := by decide +kernel
theorem dX5_foreseenOfStep_4 : decode cX5_foreseenOfStep 4 = .ok (.iload_n 2, 1) := by decide +kernel
theorem dX5_foreseenOfStep_5 : decode cX5_foreseenOfStep 5 = .ok (.bipush 12, 2) := by decide +kernel
theorem dX5_foreseenOfStep_7 : decode cX5_foreseenOfStep 7 = .ok (.if_icmp .lt 5, 3) := by decide +kernel
theorem dX5_foreseenOfStep_10 : decode cX5_foreseenOfStep 10 = .ok (.iconst (-1), 1) := by decide +kernel
theorem dX5_foreseenOfStep_11 : decode cX5_foreseenOfStep 11 = .ok (.ireturn, 1) := by decide +kernel
theorem dX5_foreseenOfStep_12 : decode cX5_foreseenOfStep 12 = .ok (.iload_n 3, 1) := by decide +kernel
theorem dX5_foreseenOfStep_13 : decode cX5_foreseenOfStep 13 = .ok (.tableswitch 79 0 4 #[35, 42, 52, 62, 69], 35) := by decide +kernel
theorem dX5_foreseenOfStep_48 : decode cX5_foreseenOfStep 48 = .ok (.aload_n 1, 1) := by decide +kernel
theorem dX5_foreseenOfStep_49 : decode cX5_foreseenOfStep 49 = .ok (.getfield 195, 3) := by decide +kernel
theorem dX5_foreseenOfStep_52 : decode cX5_foreseenOfStep 52 = .ok (.iload_n 2, 1) := by decide +kernel
theorem dX5_foreseenOfStep_53 : decode cX5_foreseenOfStep 53 = .ok (.iaload, 1) := by decide +kernel
theorem dX5_foreseenOfStep_54 : decode cX5_foreseenOfStep 54 = .ok (.ireturn, 1) := by decide +kernel
theorem dX5_foreseenOfStep_55 : decode cX5_foreseenOfStep 55 = .ok (.aload_n 0, 1) := by decide +kernel
theorem dX5_foreseenOfStep_56 : decode cX5_foreseenOfStep 56 = .ok (.getfield 35, 3) := by decide +kernel
theorem dX5_foreseenOfStep_59 : decode cX5_foreseenOfStep 59 = .ok (.getfield 362, 3) := by decide +kernel
theorem dX5_foreseenOfStep_62 : decode cX5_foreseenOfStep 62 = .ok (.iload_n 2, 1) := by decide +kernel
theorem dX5_foreseenOfStep_63 : decode cX5_foreseenOfStep 63 = .ok (.iaload, 1) := by decide +kernel
theorem dX5_foreseenOfStep_64 : decode cX5_foreseenOfStep 64 = .ok (.ireturn, 1) := by decide +kernel
theorem dX5_foreseenOfStep_65 : decode cX5_foreseenOfStep 65 = .ok (.aload_n 0, 1) := by decide +kernel
theorem dX5_foreseenOfStep_66 : decode cX5_foreseenOfStep 66 = .ok (.getfield 35, 3) := by decide +kernel
theorem dX5_foreseenOfStep_69 : decode cX5_foreseenOfStep 69 = .ok (.getfield 369, 3) := by decide +kernel
theorem dX5_foreseenOfStep_72 : decode cX5_foreseenOfStep 72 = .ok (.iload_n 2, 1) := by decide +kernel
theorem dX5_foreseenOfStep_73 : decode cX5_foreseenOfStep 73 = .ok (.iaload, 1) := by decide +kernel
theorem dX5_foreseenOfStep_74 : decode cX5_foreseenOfStep 74 = .ok (.ireturn, 1) := by decide +kernel
theorem dX5_foreseenOfStep_75 : decode cX5_foreseenOfStep 75 = .ok (.aload_n 1, 1) := by decide +kernel
theorem dX5_foreseenOfStep_76 : decode cX5_foreseenOfStep 76 = .ok (.getfield 198, 3) := by decide +kernel
theorem dX5_foreseenOfStep_79 : decode cX5_foreseenOfStep 79 = .ok (.iload_n 2, 1) := by decide +kernel
theorem dX5_foreseenOfStep_80 : decode cX5_foreseenOfStep 80 = .ok (.iaload, 1) := by decide +kernel
theorem dX5_foreseenOfStep_81 : decode cX5_foreseenOfStep 81 = .ok (.ireturn, 1) := by decide +kernel
theorem dX5_foreseenOfStep_82 : decode cX5_foreseenOfStep 82 = .ok (.aload_n 0, 1) := by decide +kernel
theorem dX5_foreseenOfStep_83 : decode cX5_foreseenOfStep 83 = .ok (.getfield 10, 3) := by decide +kernel
theorem dX5_foreseenOfStep_86 : decode cX5_foreseenOfStep 86 = .ok (.aload_n 1, 1) := by decide +kernel
theorem dX5_foreseenOfStep_87 : decode cX5_foreseenOfStep 87 = .ok (.iload_n 2, 1) := by decide +kernel
theorem dX5_foreseenOfStep_88 : decode cX5_foreseenOfStep 88 = .ok (.invokevirtual 330, 3) := by decide +kernel
theorem dX5_foreseenOfStep_91 : decode cX5_foreseenOfStep 91 = .ok (.ireturn, 1) := by decide +kernel
theorem dX5_foreseenOfStep_92 : decode cX5_foreseenOfStep 92 = .ok (.aload_n 1, 1) := by decide +kernel
theorem dX5_foreseenOfStep_93 : decode cX5_foreseenOfStep 93 = .ok (.getfield 348, 3) := by decide +kernel
theorem dX5_foreseenOfStep_96 : decode cX5_foreseenOfStep 96 = .ok (.iload_n 2, 1) := by decide +kernel
theorem dX5_foreseenOfStep_97 : decode cX5_foreseenOfStep 97 = .ok (.iaload, 1) := by decide +kernel
theorem dX5_foreseenOfStep_98 : decode cX5_foreseenOfStep 98 = .ok (.ireturn, 1) := by decide +kernel
theorem dX5_foreseenOfJoiner_0 : decode cX5_foreseenOfJoiner 0 = .ok (.iload_n 2, 1) := by decide +kernel
theorem dX5_foreseenOfJoiner_1 : decode cX5_foreseenOfJoiner 1 = .ok (.tableswitch 83 0 5 #[39, 44, 49, 55, 61, 70], 39) := by decide +kernel
theorem dX5_foreseenOfJoiner_40 : decode cX5_foreseenOfJoiner 40 = .ok (.aload_n 1, 1) := by decide +kernel
theorem dX5_foreseenOfJoiner_41 : decode cX5_foreseenOfJoiner 41 = .ok (.getfield 183, 3) := by decide +kernel
theorem dX5_foreseenOfJoiner_44 : decode cX5_foreseenOfJoiner 44 = .ok (.ireturn, 1) := by decide +kernel
theorem dX5_foreseenOfJoiner_45 : decode cX5_foreseenOfJoiner 45 = .ok (.aload_n 1, 1) := by decide +kernel
theorem dX5_foreseenOfJoiner_46 : decode cX5_foreseenOfJoiner 46 = .ok (.getfield 186, 3) := by decide +kernel
theorem dX5_foreseenOfJoiner_49 : decode cX5_foreseenOfJoiner 49 = .ok (.ireturn, 1) := by decide +kernel
theorem dX5_foreseenOfJoiner_50 : decode cX5_foreseenOfJoiner 50 = .ok (.aload_n 1, 1) := by decide +kernel
theorem dX5_foreseenOfJoiner_51 : decode cX5_foreseenOfJoiner 51 = .ok (.iconst 2, 1) := by decide +kernel
theorem dX5_foreseenOfJoiner_52 : decode cX5_foreseenOfJoiner 52 = .ok (.invokevirtual 205, 3) := by decide +kernel
theorem dX5_foreseenOfJoiner_55 : decode cX5_foreseenOfJoiner 55 = .ok (.ireturn, 1) := by decide +kernel
theorem dX5_foreseenOfJoiner_56 : decode cX5_foreseenOfJoiner 56 = .ok (.aload_n 1, 1) := by decide +kernel
theorem dX5_foreseenOfJoiner_57 : decode cX5_foreseenOfJoiner 57 = .ok (.iconst 1, 1) := by decide +kernel
theorem dX5_foreseenOfJoiner_58 : decode cX5_foreseenOfJoiner 58 = .ok (.invokevirtual 205, 3) := by decide +kernel
theorem dX5_foreseenOfJoiner_61 : decode cX5_foreseenOfJoiner 61 = .ok (.ireturn, 1) := by decide +kernel
theorem dX5_foreseenOfJoiner_62 : decode cX5_foreseenOfJoiner 62 = .ok (.aload_n 0, 1) := by decide +kernel
theorem dX5_foreseenOfJoiner_63 : decode cX5_foreseenOfJoiner 63 = .ok (.getfield 10, 3) := by decide +kernel
theorem dX5_foreseenOfJoiner_66 : decode cX5_foreseenOfJoiner 66 = .ok (.aload_n 1, 1) := by decide +kernel
theorem dX5_foreseenOfJoiner_67 : decode cX5_foreseenOfJoiner 67 = .ok (.invokevirtual 372, 3) := by decide +kernel
theorem dX5_foreseenOfJoiner_70 : decode cX5_foreseenOfJoiner 70 = .ok (.ireturn, 1) := by decide +kernel
theorem dX5_foreseenOfJoiner_71 : decode cX5_foreseenOfJoiner 71 = .ok (.aload_n 1, 1) := by decide +kernel
theorem dX5_foreseenOfJoiner_72 : decode cX5_foreseenOfJoiner 72 = .ok (.getfield 189, 3) := by decide +kernel
theorem dX5_foreseenOfJoiner_75 : decode cX5_foreseenOfJoiner 75 = .ok (.ifCond .eq 7, 3) := by decide +kernel
theorem dX5_foreseenOfJoiner_78 : decode cX5_foreseenOfJoiner 78 = .ok (.iconst 1, 1) := by decide +kernel
theorem dX5_foreseenOfJoiner_79 : decode cX5_foreseenOfJoiner 79 = .ok (.goto 4, 3) := by decide +kernel
theorem dX5_foreseenOfJoiner_82 : decode cX5_foreseenOfJoiner 82 = .ok (.iconst 0, 1) := by decide +kernel
theorem dX5_foreseenOfJoiner_83 : decode cX5_foreseenOfJoiner 83 = .ok (.ireturn, 1) := by decide +kernel
theorem dX5_foreseenOfJoiner_84 : decode cX5_foreseenOfJoiner 84 = .ok (.aload_n 0, 1) := by decide +kernel
theorem dX5_foreseenOfJoiner_85 : decode cX5_foreseenOfJoiner 85 = .ok (.getfield 35, 3) := by decide +kernel
theorem dX5_foreseenOfJoiner_88 : decode cX5_foreseenOfJoiner 88 = .ok (.aload_n 1, 1) := by decide +kernel
theorem dX5_foreseenOfJoiner_89 : decode cX5_foreseenOfJoiner 89 = .ok (.getfield 183, 3) := by decide +kernel
theorem dX5_foreseenOfJoiner_92 : decode cX5_foreseenOfJoiner 92 = .ok (.invokevirtual 268, 3) := by decide +kernel
theorem dX5_foreseenOfJoiner_95 : decode cX5_foreseenOfJoiner 95 = .ok (.ireturn, 1) := by decide +kernel
theorem dX5_nextStep_0 : decode cX5_nextStep 0 = .ok (.aload_n 1, 1) := by decide +kernel
theorem dX5_nextStep_1 : decode cX5_nextStep 1 = .ok (.getfield 189, 3) := by decide +kernel
theorem dX5_nextStep_4 : decode cX5_nextStep 4 = .ok (.ifCond .eq 5, 3) := by decide +kernel
theorem dX5_nextStep_7 : decode cX5_nextStep 7 = .ok (.iconst (-1), 1) := by decide +kernel
theorem dX5_nextStep_8 : decode cX5_nextStep 8 = .ok (.ireturn, 1) := by decide +kernel
theorem dX5_nextStep_9 : decode cX5_nextStep 9 = .ok (.iconst 0, 1) := by decide +kernel
theorem dX5_nextStep_10 : decode cX5_nextStep 10 = .ok (.istore_n 2, 1) := by decide +kernel
theorem dX5_nextStep_11 : decode cX5_nextStep 11 = .ok (.iload_n 2, 1) := by decide +kernel
theorem dX5_nextStep_12 : decode cX5_nextStep 12 = .ok (.bipush 12, 2) := by decide +kernel
theorem dX5_nextStep_14 : decode cX5_nextStep 14 = .ok (.if_icmp .ge 51, 3) := by decide +kernel
theorem dX5_nextStep_17 : decode cX5_nextStep 17 = .ok (.aload_n 1, 1) := by decide +kernel
theorem dX5_nextStep_18 : decode cX5_nextStep 18 = .ok (.iload_n 2, 1) := by decide +kernel
theorem dX5_nextStep_19 : decode cX5_nextStep 19 = .ok (.iconst 0, 1) := by decide +kernel
theorem dX5_nextStep_20 : decode cX5_nextStep 20 = .ok (.invokevirtual 336, 3) := by decide +kernel
theorem dX5_nextStep_23 : decode cX5_nextStep 23 = .ok (.ifCond .ne 12, 3) := by decide +kernel
theorem dX5_nextStep_26 : decode cX5_nextStep 26 = .ok (.aload_n 1, 1) := by decide +kernel
theorem dX5_nextStep_27 : decode cX5_nextStep 27 = .ok (.iload_n 2, 1) := by decide +kernel
theorem dX5_nextStep_28 : decode cX5_nextStep 28 = .ok (.iconst 1, 1) := by decide +kernel
theorem dX5_nextStep_29 : decode cX5_nextStep 29 = .ok (.invokevirtual 336, 3) := by decide +kernel
theorem dX5_nextStep_32 : decode cX5_nextStep 32 = .ok (.ifCond .eq 7, 3) := by decide +kernel
theorem dX5_nextStep_35 : decode cX5_nextStep 35 = .ok (.iconst 1, 1) := by decide +kernel
theorem dX5_nextStep_36 : decode cX5_nextStep 36 = .ok (.goto 4, 3) := by decide +kernel
theorem dX5_nextStep_39 : decode cX5_nextStep 39 = .ok (.iconst 0, 1) := by decide +kernel
theorem dX5_nextStep_40 : decode cX5_nextStep 40 = .ok (.istore_n 3, 1) := by decide +kernel
theorem dX5_nextStep_41 : decode cX5_nextStep 41 = .ok (.iload_n 3, 1) := by decide +kernel
theorem dX5_nextStep_42 : decode cX5_nextStep 42 = .ok (.ifCond .eq 17, 3) := by decide +kernel
theorem dX5_nextStep_45 : decode cX5_nextStep 45 = .ok (.aload_n 0, 1) := by decide +kernel
theorem dX5_nextStep_46 : decode cX5_nextStep 46 = .ok (.getfield 10, 3) := by decide +kernel
theorem dX5_nextStep_49 : decode cX5_nextStep 49 = .ok (.aload_n 1, 1) := by decide +kernel
theorem dX5_nextStep_50 : decode cX5_nextStep 50 = .ok (.iload_n 2, 1) := by decide +kernel
theorem dX5_nextStep_51 : decode cX5_nextStep 51 = .ok (.invokevirtual 339, 3) := by decide +kernel
theorem dX5_nextStep_54 : decode cX5_nextStep 54 = .ok (.ifCond .eq 5, 3) := by decide +kernel
theorem dX5_nextStep_57 : decode cX5_nextStep 57 = .ok (.iload_n 2, 1) := by decide +kernel
theorem dX5_nextStep_58 : decode cX5_nextStep 58 = .ok (.ireturn, 1) := by decide +kernel
theorem dX5_nextStep_59 : decode cX5_nextStep 59 = .ok (.iinc 2 1, 3) := by decide +kernel
theorem dX5_nextStep_62 : decode cX5_nextStep 62 = .ok (.goto (-51), 3) := by decide +kernel
theorem dX5_nextStep_65 : decode cX5_nextStep 65 = .ok (.iconst (-1), 1) := by decide +kernel
theorem dX5_nextStep_66 : decode cX5_nextStep 66 = .ok (.ireturn, 1) := by decide +kernel
theorem dX5_countWaitingOn_0 : decode cX5_countWaitingOn 0 = .ok (.iconst 1, 1) := by decide +kernel
theorem dX5_countWaitingOn_1 : decode cX5_countWaitingOn 1 = .ok (.iload_n 2, 1) := by decide +kernel
theorem dX5_countWaitingOn_2 : decode cX5_countWaitingOn 2 = .ok (.ishl, 1) := by decide +kernel
theorem dX5_countWaitingOn_3 : decode cX5_countWaitingOn 3 = .ok (.istore_n 3, 1) := by decide +kernel
theorem dX5_countWaitingOn_4 : decode cX5_countWaitingOn 4 = .ok (.iload_n 3, 1) := by decide +kernel
theorem dX5_countWaitingOn_5 : decode cX5_countWaitingOn 5 = .ok (.istore 4, 2) := by decide +kernel
theorem dX5_countWaitingOn_7 : decode cX5_countWaitingOn 7 = .ok (.iconst 0, 1) := by decide +kernel
theorem dX5_countWaitingOn_8 : decode cX5_countWaitingOn 8 = .ok (.istore 5, 2) := by decide +kernel
theorem dX5_countWaitingOn_10 : decode cX5_countWaitingOn 10 = .ok (.iload 5, 2) := by decide +kernel
theorem dX5_countWaitingOn_12 : decode cX5_countWaitingOn 12 = .ok (.bipush 12, 2) := by decide +kernel
theorem dX5_countWaitingOn_14 : decode cX5_countWaitingOn 14 = .ok (.if_icmp .ge 46, 3) := by decide +kernel
theorem dX5_countWaitingOn_17 : decode cX5_countWaitingOn 17 = .ok (.aload_n 1, 1) := by decide +kernel
theorem dX5_countWaitingOn_18 : decode cX5_countWaitingOn 18 = .ok (.getfield 183, 3) := by decide +kernel
theorem dX5_countWaitingOn_21 : decode cX5_countWaitingOn 21 = .ok (.iload 5, 2) := by decide +kernel
theorem dX5_countWaitingOn_23 : decode cX5_countWaitingOn 23 = .ok (.invokestatic 226, 3) := by decide +kernel
theorem dX5_countWaitingOn_26 : decode cX5_countWaitingOn 26 = .ok (.ifCond .eq 28, 3) := by decide +kernel
theorem dX5_countWaitingOn_29 : decode cX5_countWaitingOn 29 = .ok (.aload_n 0, 1) := by decide +kernel
theorem dX5_countWaitingOn_30 : decode cX5_countWaitingOn 30 = .ok (.getfield 10, 3) := by decide +kernel
theorem dX5_countWaitingOn_33 : decode cX5_countWaitingOn 33 = .ok (.getfield 375, 3) := by decide +kernel
theorem dX5_countWaitingOn_36 : decode cX5_countWaitingOn 36 = .ok (.iload 5, 2) := by decide +kernel
theorem dX5_countWaitingOn_38 : decode cX5_countWaitingOn 38 = .ok (.iaload, 1) := by decide +kernel
theorem dX5_countWaitingOn_39 : decode cX5_countWaitingOn 39 = .ok (.iload 4, 2) := by decide +kernel
theorem dX5_countWaitingOn_41 : decode cX5_countWaitingOn 41 = .ok (.iand, 1) := by decide +kernel
theorem dX5_countWaitingOn_42 : decode cX5_countWaitingOn 42 = .ok (.ifCond .eq 12, 3) := by decide +kernel
theorem dX5_countWaitingOn_45 : decode cX5_countWaitingOn 45 = .ok (.iload 4, 2) := by decide +kernel
theorem dX5_countWaitingOn_47 : decode cX5_countWaitingOn 47 = .ok (.iconst 1, 1) := by decide +kernel
theorem dX5_countWaitingOn_48 : decode cX5_countWaitingOn 48 = .ok (.iload 5, 2) := by decide +kernel
theorem dX5_countWaitingOn_50 : decode cX5_countWaitingOn 50 = .ok (.ishl, 1) := by decide +kernel
theorem dX5_countWaitingOn_51 : decode cX5_countWaitingOn 51 = .ok (.ior, 1) := by decide +kernel
theorem dX5_countWaitingOn_52 : decode cX5_countWaitingOn 52 = .ok (.istore 4, 2) := by decide +kernel
theorem dX5_countWaitingOn_54 : decode cX5_countWaitingOn 54 = .ok (.iinc 5 1, 3) := by decide +kernel
theorem dX5_countWaitingOn_57 : decode cX5_countWaitingOn 57 = .ok (.goto (-47), 3) := by decide +kernel
theorem dX5_countWaitingOn_60 : decode cX5_countWaitingOn 60 = .ok (.iload 4, 2) := by decide +kernel
theorem dX5_countWaitingOn_62 : decode cX5_countWaitingOn 62 = .ok (.iload_n 3, 1) := by decide +kernel
theorem dX5_countWaitingOn_63 : decode cX5_countWaitingOn 63 = .ok (.iconst (-1), 1) := by decide +kernel
theorem dX5_countWaitingOn_64 : decode cX5_countWaitingOn 64 = .ok (.ixor, 1) := by decide +kernel
theorem dX5_countWaitingOn_65 : decode cX5_countWaitingOn 65 = .ok (.iand, 1) := by decide +kernel
theorem dX5_countWaitingOn_66 : decode cX5_countWaitingOn 66 = .ok (.aload_n 1, 1) := by decide +kernel
theorem dX5_countWaitingOn_67 : decode cX5_countWaitingOn 67 = .ok (.iconst 2, 1) := by decide +kernel
theorem dX5_countWaitingOn_68 : decode cX5_countWaitingOn 68 = .ok (.invokevirtual 378, 3) := by decide +kernel
theorem dX5_countWaitingOn_71 : decode cX5_countWaitingOn 71 = .ok (.iconst (-1), 1) := by decide +kernel
theorem dX5_countWaitingOn_72 : decode cX5_countWaitingOn 72 = .ok (.ixor, 1) := by decide +kernel
theorem dX5_countWaitingOn_73 : decode cX5_countWaitingOn 73 = .ok (.iand, 1) := by decide +kernel
theorem dX5_countWaitingOn_74 : decode cX5_countWaitingOn 74 = .ok (.invokestatic 381, 3) := by decide +kernel
theorem dX5_countWaitingOn_77 : decode cX5_countWaitingOn 77 = .ok (.ireturn, 1) := by decide +kernel
theorem dX5_countWaitingFor_0 : decode cX5_countWaitingFor 0 = .ok (.iconst 0, 1) := by decide +kernel
theorem dX5_countWaitingFor_1 : decode cX5_countWaitingFor 1 = .ok (.istore_n 2, 1) := by decide +kernel
theorem dX5_countWaitingFor_2 : decode cX5_countWaitingFor 2 = .ok (.iconst 0, 1) := by decide +kernel
theorem dX5_countWaitingFor_3 : decode cX5_countWaitingFor 3 = .ok (.istore_n 3, 1) := by decide +kernel
theorem dX5_countWaitingFor_4 : decode cX5_countWaitingFor 4 = .ok (.iload_n 3, 1) := by decide +kernel
theorem dX5_countWaitingFor_5 : decode cX5_countWaitingFor 5 = .ok (.aload_n 0, 1) := by decide +kernel
theorem dX5_countWaitingFor_6 : decode cX5_countWaitingFor 6 = .ok (.getfield 174, 3) := by decide +kernel
theorem dX5_countWaitingFor_9 : decode cX5_countWaitingFor 9 = .ok (.if_icmp .ge 74, 3) := by decide +kernel
theorem dX5_countWaitingFor_12 : decode cX5_countWaitingFor 12 = .ok (.aload_n 0, 1) := by decide +kernel
theorem dX5_countWaitingFor_13 : decode cX5_countWaitingFor 13 = .ok (.iload_n 3, 1) := by decide +kernel
theorem dX5_countWaitingFor_14 : decode cX5_countWaitingFor 14 = .ok (.invokevirtual 179, 3) := by decide +kernel
theorem dX5_countWaitingFor_17 : decode cX5_countWaitingFor 17 = .ok (.astore 4, 2) := by decide +kernel
theorem dX5_countWaitingFor_19 : decode cX5_countWaitingFor 19 = .ok (.iconst 0, 1) := by decide +kernel
theorem dX5_countWaitingFor_20 : decode cX5_countWaitingFor 20 = .ok (.istore 5, 2) := by decide +kernel
theorem dX5_countWaitingFor_22 : decode cX5_countWaitingFor 22 = .ok (.iload 5, 2) := by decide +kernel
theorem dX5_countWaitingFor_24 : decode cX5_countWaitingFor 24 = .ok (.bipush 12, 2) := by decide +kernel
theorem dX5_countWaitingFor_26 : decode cX5_countWaitingFor 26 = .ok (.if_icmp .ge 51, 3) := by decide +kernel
theorem dX5_countWaitingFor_29 : decode cX5_countWaitingFor 29 = .ok (.aload_n 0, 1) := by decide +kernel
theorem dX5_countWaitingFor_30 : decode cX5_countWaitingFor 30 = .ok (.getfield 10, 3) := by decide +kernel
theorem dX5_countWaitingFor_33 : decode cX5_countWaitingFor 33 = .ok (.getfield 126, 3) := by decide +kernel
theorem dX5_countWaitingFor_36 : decode cX5_countWaitingFor 36 = .ok (.iload 5, 2) := by decide +kernel
theorem dX5_countWaitingFor_38 : decode cX5_countWaitingFor 38 = .ok (.iaload, 1) := by decide +kernel
theorem dX5_countWaitingFor_39 : decode cX5_countWaitingFor 39 = .ok (.iconst 1, 1) := by decide +kernel
theorem dX5_countWaitingFor_40 : decode cX5_countWaitingFor 40 = .ok (.if_icmp .ne 31, 3) := by decide +kernel
theorem dX5_countWaitingFor_43 : decode cX5_countWaitingFor 43 = .ok (.aload_n 0, 1) := by decide +kernel
theorem dX5_countWaitingFor_44 : decode cX5_countWaitingFor 44 = .ok (.getfield 10, 3) := by decide +kernel
theorem dX5_countWaitingFor_47 : decode cX5_countWaitingFor 47 = .ok (.getfield 321, 3) := by decide +kernel
theorem dX5_countWaitingFor_50 : decode cX5_countWaitingFor 50 = .ok (.iload 5, 2) := by decide +kernel
theorem dX5_countWaitingFor_52 : decode cX5_countWaitingFor 52 = .ok (.iaload, 1) := by decide +kernel
theorem dX5_countWaitingFor_53 : decode cX5_countWaitingFor 53 = .ok (.iload_n 1, 1) := by decide +kernel
theorem dX5_countWaitingFor_54 : decode cX5_countWaitingFor 54 = .ok (.if_icmp .ne 17, 3) := by decide +kernel
theorem dX5_countWaitingFor_57 : decode cX5_countWaitingFor 57 = .ok (.aload_n 0, 1) := by decide +kernel
theorem dX5_countWaitingFor_58 : decode cX5_countWaitingFor 58 = .ok (.aload 4, 2) := by decide +kernel
theorem dX5_countWaitingFor_60 : decode cX5_countWaitingFor 60 = .ok (.iload 5, 2) := by decide +kernel
theorem dX5_countWaitingFor_62 : decode cX5_countWaitingFor 62 = .ok (.invokevirtual 314, 3) := by decide +kernel
theorem dX5_countWaitingFor_65 : decode cX5_countWaitingFor 65 = .ok (.ifCond .eq 6, 3) := by decide +kernel
theorem dX5_countWaitingFor_68 : decode cX5_countWaitingFor 68 = .ok (.iinc 2 1, 3) := by decide +kernel
theorem dX5_countWaitingFor_71 : decode cX5_countWaitingFor 71 = .ok (.iinc 5 1, 3) := by decide +kernel
theorem dX5_countWaitingFor_74 : decode cX5_countWaitingFor 74 = .ok (.goto (-52), 3) := by decide +kernel
theorem dX5_countWaitingFor_77 : decode cX5_countWaitingFor 77 = .ok (.iinc 3 1, 3) := by decide +kernel
theorem dX5_countWaitingFor_80 : decode cX5_countWaitingFor 80 = .ok (.goto (-76), 3) := by decide +kernel
theorem dX5_countWaitingFor_83 : decode cX5_countWaitingFor 83 = .ok (.iload_n 2, 1) := by decide +kernel
theorem dX5_countWaitingFor_84 : decode cX5_countWaitingFor 84 = .ok (.ireturn, 1) := by decide +kernel
theorem dX5_countLeft_0 : decode cX5_countLeft 0 = .ok (.iconst 0, 1) := by decide +kernel
theorem dX5_countLeft_1 : decode cX5_countLeft 1 = .ok (.istore_n 1, 1) := by decide +kernel
theorem dX5_countLeft_2 : decode cX5_countLeft 2 = .ok (.iconst 0, 1) := by decide +kernel
theorem dX5_countLeft_3 : decode cX5_countLeft 3 = .ok (.istore_n 2, 1) := by decide +kernel
theorem dX5_countLeft_4 : decode cX5_countLeft 4 = .ok (.iload_n 2, 1) := by decide +kernel
theorem dX5_countLeft_5 : decode cX5_countLeft 5 = .ok (.aload_n 0, 1) := by decide +kernel
theorem dX5_countLeft_6 : decode cX5_countLeft 6 = .ok (.getfield 174, 3) := by decide +kernel
theorem dX5_countLeft_9 : decode cX5_countLeft 9 = .ok (.if_icmp .ge 23, 3) := by decide +kernel
theorem dX5_countLeft_12 : decode cX5_countLeft 12 = .ok (.aload_n 0, 1) := by decide +kernel
theorem dX5_countLeft_13 : decode cX5_countLeft 13 = .ok (.iload_n 2, 1) := by decide +kernel
theorem dX5_countLeft_14 : decode cX5_countLeft 14 = .ok (.invokevirtual 179, 3) := by decide +kernel
theorem dX5_countLeft_17 : decode cX5_countLeft 17 = .ok (.getfield 189, 3) := by decide +kernel
theorem dX5_countLeft_20 : decode cX5_countLeft 20 = .ok (.ifCond .eq 6, 3) := by decide +kernel
theorem dX5_countLeft_23 : decode cX5_countLeft 23 = .ok (.iinc 1 1, 3) := by decide +kernel
theorem dX5_countLeft_26 : decode cX5_countLeft 26 = .ok (.iinc 2 1, 3) := by decide +kernel
theorem dX5_countLeft_29 : decode cX5_countLeft 29 = .ok (.goto (-25), 3) := by decide +kernel
theorem dX5_countLeft_32 : decode cX5_countLeft 32 = .ok (.iload_n 1, 1) := by decide +kernel
theorem dX5_countLeft_33 : decode cX5_countLeft 33 = .ok (.ireturn, 1) := by decide +kernel
theorem dX5_countStepsIn_0 : decode cX5_countStepsIn 0 = .ok (.iconst 0, 1) := by decide +kernel
theorem dX5_countStepsIn_1 : decode cX5_countStepsIn 1 = .ok (.istore_n 2, 1) := by decide +kernel
theorem dX5_countStepsIn_2 : decode cX5_countStepsIn 2 = .ok (.iconst 0, 1) := by decide +kernel
theorem dX5_countStepsIn_3 : decode cX5_countStepsIn 3 = .ok (.istore_n 3, 1) := by decide +kernel
theorem dX5_countStepsIn_4 : decode cX5_countStepsIn 4 = .ok (.iload_n 3, 1) := by decide +kernel
theorem dX5_countStepsIn_5 : decode cX5_countStepsIn 5 = .ok (.aload_n 0, 1) := by decide +kernel
theorem dX5_countStepsIn_6 : decode cX5_countStepsIn 6 = .ok (.getfield 174, 3) := by decide +kernel
theorem dX5_countStepsIn_9 : decode cX5_countStepsIn 9 = .ok (.if_icmp .ge 21, 3) := by decide +kernel
theorem dX5_countStepsIn_12 : decode cX5_countStepsIn 12 = .ok (.iload_n 2, 1) := by decide +kernel
theorem dX5_countStepsIn_13 : decode cX5_countStepsIn 13 = .ok (.aload_n 0, 1) := by decide +kernel
theorem dX5_countStepsIn_14 : decode cX5_countStepsIn 14 = .ok (.iload_n 3, 1) := by decide +kernel
theorem dX5_countStepsIn_15 : decode cX5_countStepsIn 15 = .ok (.invokevirtual 179, 3) := by decide +kernel
theorem dX5_countStepsIn_18 : decode cX5_countStepsIn 18 = .ok (.iload_n 1, 1) := by decide +kernel
theorem dX5_countStepsIn_19 : decode cX5_countStepsIn 19 = .ok (.invokevirtual 205, 3) := by decide +kernel
theorem dX5_countStepsIn_22 : decode cX5_countStepsIn 22 = .ok (.iadd, 1) := by decide +kernel
theorem dX5_countStepsIn_23 : decode cX5_countStepsIn 23 = .ok (.istore_n 2, 1) := by decide +kernel
theorem dX5_countStepsIn_24 : decode cX5_countStepsIn 24 = .ok (.iinc 3 1, 3) := by decide +kernel
theorem dX5_countStepsIn_27 : decode cX5_countStepsIn 27 = .ok (.goto (-23), 3) := by decide +kernel
theorem dX5_countStepsIn_30 : decode cX5_countStepsIn 30 = .ok (.iload_n 2, 1) := by decide +kernel
theorem dX5_countStepsIn_31 : decode cX5_countStepsIn 31 = .ok (.ireturn, 1) := by decide +kernel
theorem dX5_countRights_0 : decode cX5_countRights 0 = .ok (.iconst 0, 1) := by decide +kernel
theorem dX5_countRights_1 : decode cX5_countRights 1 = .ok (.istore_n 1, 1) := by decide +kernel
theorem dX5_countRights_2 : decode cX5_countRights 2 = .ok (.iconst 0, 1) := by decide +kernel
theorem dX5_countRights_3 : decode cX5_countRights 3 = .ok (.istore_n 2, 1) := by decide +kernel
theorem dX5_countRights_4 : decode cX5_countRights 4 = .ok (.iload_n 2, 1) := by decide +kernel
theorem dX5_countRights_5 : decode cX5_countRights 5 = .ok (.aload_n 0, 1) := by decide +kernel
theorem dX5_countRights_6 : decode cX5_countRights 6 = .ok (.getfield 174, 3) := by decide +kernel
theorem dX5_countRights_9 : decode cX5_countRights 9 = .ok (.if_icmp .ge 27, 3) := by decide +kernel
theorem dX5_countRights_12 : decode cX5_countRights 12 = .ok (.iload_n 1, 1) := by decide +kernel
theorem dX5_countRights_13 : decode cX5_countRights 13 = .ok (.aload_n 0, 1) := by decide +kernel
theorem dX5_countRights_14 : decode cX5_countRights 14 = .ok (.getfield 10, 3) := by decide +kernel
theorem dX5_countRights_17 : decode cX5_countRights 17 = .ok (.aload_n 0, 1) := by decide +kernel
theorem dX5_countRights_18 : decode cX5_countRights 18 = .ok (.iload_n 2, 1) := by decide +kernel
theorem dX5_countRights_19 : decode cX5_countRights 19 = .ok (.invokevirtual 179, 3) := by decide +kernel
theorem dX5_countRights_22 : decode cX5_countRights 22 = .ok (.invokevirtual 372, 3) := by decide +kernel
theorem dX5_countRights_25 : decode cX5_countRights 25 = .ok (.invokestatic 381, 3) := by decide +kernel
theorem dX5_countRights_28 : decode cX5_countRights 28 = .ok (.iadd, 1) := by decide +kernel
theorem dX5_countRights_29 : decode cX5_countRights 29 = .ok (.istore_n 1, 1) := by decide +kernel
theorem dX5_countRights_30 : decode cX5_countRights 30 = .ok (.iinc 2 1, 3) := by decide +kernel
theorem dX5_countRights_33 : decode cX5_countRights 33 = .ok (.goto (-29), 3) := by decide +kernel
theorem dX5_countRights_36 : decode cX5_countRights 36 = .ok (.iload_n 1, 1) := by decide +kernel
theorem dX5_countRights_37 : decode cX5_countRights 37 = .ok (.ireturn, 1) := by decide +kernel
theorem dX5_digestWith_0 : decode cX5_digestWith 0 = .ok (.lload_n 1, 1) := by decide +kernel
theorem dX5_digestWith_1 : decode cX5_digestWith 1 = .ok (.lstore 4, 2) := by decide +kernel
theorem dX5_digestWith_3 : decode cX5_digestWith 3 = .ok (.aload_n 0, 1) := by decide +kernel
theorem dX5_digestWith_4 : decode cX5_digestWith 4 = .ok (.getfield 35, 3) := by decide +kernel
theorem dX5_digestWith_7 : decode cX5_digestWith 7 = .ok (.aload_n 3, 1) := by decide +kernel
theorem dX5_digestWith_8 : decode cX5_digestWith 8 = .ok (.aload_n 0, 1) := by decide +kernel
theorem dX5_digestWith_9 : decode cX5_digestWith 9 = .ok (.getfield 160, 3) := by decide +kernel
theorem dX5_digestWith_12 : decode cX5_digestWith 12 = .ok (.iconst (-1), 1) := by decide +kernel
theorem dX5_digestWith_13 : decode cX5_digestWith 13 = .ok (.iconst 0, 1) := by decide +kernel
theorem dX5_digestWith_14 : decode cX5_digestWith 14 = .ok (.invokevirtual 233, 3) := by decide +kernel
theorem dX5_digestWith_17 : decode cX5_digestWith 17 = .ok (.iconst 0, 1) := by decide +kernel
theorem dX5_digestWith_18 : decode cX5_digestWith 18 = .ok (.istore 6, 2) := by decide +kernel
theorem dX5_digestWith_20 : decode cX5_digestWith 20 = .ok (.iload 6, 2) := by decide +kernel
theorem dX5_digestWith_22 : decode cX5_digestWith 22 = .ok (.bipush 6, 2) := by decide +kernel
theorem dX5_digestWith_24 : decode cX5_digestWith 24 = .ok (.if_icmp .gt 26, 3) := by decide +kernel
theorem dX5_digestWith_27 : decode cX5_digestWith 27 = .ok (.lload 4, 2) := by decide +kernel
theorem dX5_digestWith_29 : decode cX5_digestWith 29 = .ok (.ldc2_w 288, 3) := by decide +kernel
theorem dX5_digestWith_32 : decode cX5_digestWith 32 = .ok (.lmul, 1) := by decide +kernel
theorem dX5_digestWith_33 : decode cX5_digestWith 33 = .ok (.aload_n 0, 1) := by decide +kernel
theorem dX5_digestWith_34 : decode cX5_digestWith 34 = .ok (.aload_n 3, 1) := by decide +kernel
theorem dX5_digestWith_35 : decode cX5_digestWith 35 = .ok (.iload 6, 2) := by decide +kernel
theorem dX5_digestWith_37 : decode cX5_digestWith 37 = .ok (.invokevirtual 243, 3) := by decide +kernel
theorem dX5_digestWith_40 : decode cX5_digestWith 40 = .ok (.i2l, 1) := by decide +kernel
theorem dX5_digestWith_41 : decode cX5_digestWith 41 = .ok (.ladd, 1) := by decide +kernel
theorem dX5_digestWith_42 : decode cX5_digestWith 42 = .ok (.lstore 4, 2) := by decide +kernel
theorem dX5_digestWith_44 : decode cX5_digestWith 44 = .ok (.iinc 6 1, 3) := by decide +kernel
theorem dX5_digestWith_47 : decode cX5_digestWith 47 = .ok (.goto (-27), 3) := by decide +kernel
theorem dX5_digestWith_50 : decode cX5_digestWith 50 = .ok (.lload 4, 2) := by decide +kernel
theorem dX5_digestWith_52 : decode cX5_digestWith 52 = .ok (.ldc2_w 288, 3) := by decide +kernel
theorem dX5_digestWith_55 : decode cX5_digestWith 55 = .ok (.lmul, 1) := by decide +kernel
theorem dX5_digestWith_56 : decode cX5_digestWith 56 = .ok (.aload_n 0, 1) := by decide +kernel
theorem dX5_digestWith_57 : decode cX5_digestWith 57 = .ok (.aload_n 3, 1) := by decide +kernel
theorem dX5_digestWith_58 : decode cX5_digestWith 58 = .ok (.invokevirtual 279, 3) := by decide +kernel
theorem dX5_digestWith_61 : decode cX5_digestWith 61 = .ok (.i2l, 1) := by decide +kernel
theorem dX5_digestWith_62 : decode cX5_digestWith 62 = .ok (.ladd, 1) := by decide +kernel
theorem dX5_digestWith_63 : decode cX5_digestWith 63 = .ok (.lstore 4, 2) := by decide +kernel
theorem dX5_digestWith_65 : decode cX5_digestWith 65 = .ok (.iconst 0, 1) := by decide +kernel
theorem dX5_digestWith_66 : decode cX5_digestWith 66 = .ok (.istore 6, 2) := by decide +kernel
theorem dX5_digestWith_68 : decode cX5_digestWith 68 = .ok (.iload 6, 2) := by decide +kernel
theorem dX5_digestWith_70 : decode cX5_digestWith 70 = .ok (.aload_n 0, 1) := by decide +kernel
theorem dX5_digestWith_71 : decode cX5_digestWith 71 = .ok (.getfield 10, 3) := by decide +kernel
theorem dX5_digestWith_74 : decode cX5_digestWith 74 = .ok (.getfield 249, 3) := by decide +kernel
theorem dX5_digestWith_77 : decode cX5_digestWith 77 = .ok (.if_icmp .ge 36, 3) := by decide +kernel
theorem dX5_digestWith_80 : decode cX5_digestWith 80 = .ok (.lload 4, 2) := by decide +kernel
theorem dX5_digestWith_82 : decode cX5_digestWith 82 = .ok (.ldc2_w 288, 3) := by decide +kernel
theorem dX5_digestWith_85 : decode cX5_digestWith 85 = .ok (.lmul, 1) := by decide +kernel
theorem dX5_digestWith_86 : decode cX5_digestWith 86 = .ok (.aload_n 0, 1) := by decide +kernel
theorem dX5_digestWith_87 : decode cX5_digestWith 87 = .ok (.getfield 35, 3) := by decide +kernel
theorem dX5_digestWith_90 : decode cX5_digestWith 90 = .ok (.aload_n 0, 1) := by decide +kernel
theorem dX5_digestWith_91 : decode cX5_digestWith 91 = .ok (.getfield 10, 3) := by decide +kernel
theorem dX5_digestWith_94 : decode cX5_digestWith 94 = .ok (.getfield 273, 3) := by decide +kernel
theorem dX5_digestWith_97 : decode cX5_digestWith 97 = .ok (.iload 6, 2) := by decide +kernel
theorem dX5_digestWith_99 : decode cX5_digestWith 99 = .ok (.iaload, 1) := by decide +kernel
theorem dX5_digestWith_100 : decode cX5_digestWith 100 = .ok (.invokevirtual 276, 3) := by decide +kernel
theorem dX5_digestWith_103 : decode cX5_digestWith 103 = .ok (.i2l, 1) := by decide +kernel
theorem dX5_digestWith_104 : decode cX5_digestWith 104 = .ok (.ladd, 1) := by decide +kernel
theorem dX5_digestWith_105 : decode cX5_digestWith 105 = .ok (.lstore 4, 2) := by decide +kernel
theorem dX5_digestWith_107 : decode cX5_digestWith 107 = .ok (.iinc 6 1, 3) := by decide +kernel
theorem dX5_digestWith_110 : decode cX5_digestWith 110 = .ok (.goto (-42), 3) := by decide +kernel
theorem dX5_digestWith_113 : decode cX5_digestWith 113 = .ok (.iconst 0, 1) := by decide +kernel
theorem dX5_digestWith_114 : decode cX5_digestWith 114 = .ok (.istore 6, 2) := by decide +kernel
theorem dX5_digestWith_116 : decode cX5_digestWith 116 = .ok (.iload 6, 2) := by decide +kernel
theorem dX5_digestWith_118 : decode cX5_digestWith 118 = .ok (.bipush 12, 2) := by decide +kernel
theorem dX5_digestWith_120 : decode cX5_digestWith 120 = .ok (.if_icmp .ge 72, 3) := by decide +kernel
theorem dX5_digestWith_123 : decode cX5_digestWith 123 = .ok (.aload_n 3, 1) := by decide +kernel
theorem dX5_digestWith_124 : decode cX5_digestWith 124 = .ok (.getfield 183, 3) := by decide +kernel
theorem dX5_digestWith_127 : decode cX5_digestWith 127 = .ok (.iload 6, 2) := by decide +kernel
theorem dX5_digestWith_129 : decode cX5_digestWith 129 = .ok (.invokestatic 226, 3) := by decide +kernel
theorem dX5_digestWith_132 : decode cX5_digestWith 132 = .ok (.ifCond .eq 54, 3) := by decide +kernel
theorem dX5_digestWith_135 : decode cX5_digestWith 135 = .ok (.iconst 0, 1) := by decide +kernel
theorem dX5_digestWith_136 : decode cX5_digestWith 136 = .ok (.istore 7, 2) := by decide +kernel
theorem dX5_digestWith_138 : decode cX5_digestWith 138 = .ok (.iload 7, 2) := by decide +kernel
theorem dX5_digestWith_140 : decode cX5_digestWith 140 = .ok (.iconst 5, 1) := by decide +kernel
theorem dX5_digestWith_141 : decode cX5_digestWith 141 = .ok (.if_icmp .gt 28, 3) := by decide +kernel
theorem dX5_digestWith_144 : decode cX5_digestWith 144 = .ok (.lload 4, 2) := by decide +kernel
theorem dX5_digestWith_146 : decode cX5_digestWith 146 = .ok (.ldc2_w 288, 3) := by decide +kernel
theorem dX5_digestWith_149 : decode cX5_digestWith 149 = .ok (.lmul, 1) := by decide +kernel
theorem dX5_digestWith_150 : decode cX5_digestWith 150 = .ok (.aload_n 0, 1) := by decide +kernel
theorem dX5_digestWith_151 : decode cX5_digestWith 151 = .ok (.aload_n 3, 1) := by decide +kernel
theorem dX5_digestWith_152 : decode cX5_digestWith 152 = .ok (.iload 6, 2) := by decide +kernel
theorem dX5_digestWith_154 : decode cX5_digestWith 154 = .ok (.iload 7, 2) := by decide +kernel
theorem dX5_digestWith_156 : decode cX5_digestWith 156 = .ok (.invokevirtual 237, 3) := by decide +kernel
theorem dX5_digestWith_159 : decode cX5_digestWith 159 = .ok (.i2l, 1) := by decide +kernel
theorem dX5_digestWith_160 : decode cX5_digestWith 160 = .ok (.ladd, 1) := by decide +kernel
theorem dX5_digestWith_161 : decode cX5_digestWith 161 = .ok (.lstore 4, 2) := by decide +kernel
theorem dX5_digestWith_163 : decode cX5_digestWith 163 = .ok (.iinc 7 1, 3) := by decide +kernel
theorem dX5_digestWith_166 : decode cX5_digestWith 166 = .ok (.goto (-28), 3) := by decide +kernel
theorem dX5_digestWith_169 : decode cX5_digestWith 169 = .ok (.lload 4, 2) := by decide +kernel
theorem dX5_digestWith_171 : decode cX5_digestWith 171 = .ok (.ldc2_w 288, 3) := by decide +kernel
theorem dX5_digestWith_174 : decode cX5_digestWith 174 = .ok (.lmul, 1) := by decide +kernel
theorem dX5_digestWith_175 : decode cX5_digestWith 175 = .ok (.aload_n 0, 1) := by decide +kernel
theorem dX5_digestWith_176 : decode cX5_digestWith 176 = .ok (.aload_n 3, 1) := by decide +kernel
theorem dX5_digestWith_177 : decode cX5_digestWith 177 = .ok (.iload 6, 2) := by decide +kernel
theorem dX5_digestWith_179 : decode cX5_digestWith 179 = .ok (.invokevirtual 283, 3) := by decide +kernel
theorem dX5_digestWith_182 : decode cX5_digestWith 182 = .ok (.i2l, 1) := by decide +kernel
theorem dX5_digestWith_183 : decode cX5_digestWith 183 = .ok (.ladd, 1) := by decide +kernel
theorem dX5_digestWith_184 : decode cX5_digestWith 184 = .ok (.lstore 4, 2) := by decide +kernel
theorem dX5_digestWith_186 : decode cX5_digestWith 186 = .ok (.iinc 6 1, 3) := by decide +kernel
theorem dX5_digestWith_189 : decode cX5_digestWith 189 = .ok (.goto (-73), 3) := by decide +kernel
theorem dX5_digestWith_192 : decode cX5_digestWith 192 = .ok (.lload 4, 2) := by decide +kernel
theorem dX5_digestWith_194 : decode cX5_digestWith 194 = .ok (.lreturn, 1) := by decide +kernel
theorem dX6_init_0 : decode cX6_init 0 = .ok (.aload_n 0, 1) := by decide +kernel
theorem dX6_init_1 : decode cX6_init 1 = .ok (.invokespecial 3, 3) := by decide +kernel
theorem dX6_init_4 : decode cX6_init 4 = .ok (.aload_n 0, 1) := by decide +kernel
theorem dX6_init_5 : decode cX6_init 5 = .ok (.bipush 12, 2) := by decide +kernel
theorem dX6_init_7 : decode cX6_init 7 = .ok (.newarray .int, 2) := by decide +kernel
theorem dX6_init_9 : decode cX6_init 9 = .ok (.putfield 9, 3) := by decide +kernel
theorem dX6_init_12 : decode cX6_init 12 = .ok (.aload_n 0, 1) := by decide +kernel
theorem dX6_init_13 : decode cX6_init 13 = .ok (.bipush 12, 2) := by decide +kernel
theorem dX6_init_15 : decode cX6_init 15 = .ok (.newarray .int, 2) := by decide +kernel
theorem dX6_init_17 : decode cX6_init 17 = .ok (.putfield 15, 3) := by decide +kernel
theorem dX6_init_20 : decode cX6_init 20 = .ok (.aload_n 0, 1) := by decide +kernel
theorem dX6_init_21 : decode cX6_init 21 = .ok (.bipush 12, 2) := by decide +kernel
theorem dX6_init_23 : decode cX6_init 23 = .ok (.newarray .int, 2) := by decide +kernel
theorem dX6_init_25 : decode cX6_init 25 = .ok (.putfield 18, 3) := by decide +kernel
theorem dX6_init_28 : decode cX6_init 28 = .ok (.aload_n 0, 1) := by decide +kernel
theorem dX6_init_29 : decode cX6_init 29 = .ok (.bipush 12, 2) := by decide +kernel
theorem dX6_init_31 : decode cX6_init 31 = .ok (.newarray .int, 2) := by decide +kernel
theorem dX6_init_33 : decode cX6_init 33 = .ok (.putfield 21, 3) := by decide +kernel
theorem dX6_init_36 : decode cX6_init 36 = .ok (.aload_n 0, 1) := by decide +kernel
theorem dX6_init_37 : decode cX6_init 37 = .ok (.bipush 12, 2) := by decide +kernel
theorem dX6_init_39 : decode cX6_init 39 = .ok (.newarray .int, 2) := by decide +kernel
theorem dX6_init_41 : decode cX6_init 41 = .ok (.putfield 24, 3) := by decide +kernel
theorem dX6_init_44 : decode cX6_init 44 = .ok (.aload_n 0, 1) := by decide +kernel
theorem dX6_init_45 : decode cX6_init 45 = .ok (.iload_n 1, 1) := by decide +kernel
theorem dX6_init_46 : decode cX6_init 46 = .ok (.putfield 27, 3) := by decide +kernel
theorem dX6_init_49 : decode cX6_init 49 = .ok (.aload_n 0, 1) := by decide +kernel
theorem dX6_init_50 : decode cX6_init 50 = .ok (.iload_n 2, 1) := by decide +kernel
theorem dX6_init_51 : decode cX6_init 51 = .ok (.putfield 31, 3) := by decide +kernel
theorem dX6_init_54 : decode cX6_init 54 = .ok (.iconst 0, 1) := by decide +kernel
theorem dX6_init_55 : decode cX6_init 55 = .ok (.istore_n 3, 1) := by decide +kernel
theorem dX6_init_56 : decode cX6_init 56 = .ok (.iload_n 3, 1) := by decide +kernel
theorem dX6_init_57 : decode cX6_init 57 = .ok (.bipush 12, 2) := by decide +kernel
theorem dX6_init_59 : decode cX6_init 59 = .ok (.if_icmp .ge 16, 3) := by decide +kernel
theorem dX6_init_62 : decode cX6_init 62 = .ok (.aload_n 0, 1) := by decide +kernel
theorem dX6_init_63 : decode cX6_init 63 = .ok (.getfield 21, 3) := by decide +kernel
theorem dX6_init_66 : decode cX6_init 66 = .ok (.iload_n 3, 1) := by decide +kernel
theorem dX6_init_67 : decode cX6_init 67 = .ok (.iconst (-1), 1) := by decide +kernel
theorem dX6_init_68 : decode cX6_init 68 = .ok (.iastore, 1) := by decide +kernel
theorem dX6_init_69 : decode cX6_init 69 = .ok (.iinc 3 1, 3) := by decide +kernel
theorem dX6_init_72 : decode cX6_init 72 = .ok (.goto (-16), 3) := by decide +kernel
theorem dX6_init_75 : decode cX6_init 75 = .ok (.return_, 1) := by decide +kernel
theorem dX6_has_0 : decode cX6_has 0 = .ok (.aload_n 0, 1) := by decide +kernel
theorem dX6_has_1 : decode cX6_has 1 = .ok (.getfield 27, 3) := by decide +kernel
theorem dX6_has_4 : decode cX6_has 4 = .ok (.iload_n 1, 1) := by decide +kernel
theorem dX6_has_5 : decode cX6_has 5 = .ok (.invokestatic 34, 3) := by decide +kernel
theorem dX6_has_8 : decode cX6_has 8 = .ok (.ireturn, 1) := by decide +kernel
theorem dX6_is_0 : decode cX6_is 0 = .ok (.aload_n 0, 1) := by decide +kernel
theorem dX6_is_1 : decode cX6_is 1 = .ok (.iload_n 1, 1) := by decide +kernel
theorem dX6_is_2 : decode cX6_is 2 = .ok (.invokevirtual 38, 3) := by decide +kernel
theorem dX6_is_5 : decode cX6_is 5 = .ok (.ifCond .eq 17, 3) := by decide +kernel
theorem dX6_is_8 : decode cX6_is 8 = .ok (.aload_n 0, 1) := by decide +kernel
theorem dX6_is_9 : decode cX6_is 9 = .ok (.getfield 9, 3) := by decide +kernel
theorem dX6_is_12 : decode cX6_is 12 = .ok (.iload_n 1, 1) := by decide +kernel
theorem dX6_is_13 : decode cX6_is 13 = .ok (.iaload, 1) := by decide +kernel
theorem dX6_is_14 : decode cX6_is 14 = .ok (.iload_n 2, 1) := by decide +kernel
theorem dX6_is_15 : decode cX6_is 15 = .ok (.if_icmp .ne 7, 3) := by decide +kernel
theorem dX6_is_18 : decode cX6_is 18 = .ok (.iconst 1, 1) := by decide +kernel
theorem dX6_is_19 : decode cX6_is 19 = .ok (.goto 4, 3) := by decide +kernel
theorem dX6_is_22 : decode cX6_is 22 = .ok (.iconst 0, 1) := by decide +kernel
theorem dX6_is_23 : decode cX6_is 23 = .ok (.ireturn, 1) := by decide +kernel
theorem dX6_in_0 : decode cX6_in 0 = .ok (.iconst 0, 1) := by decide +kernel
theorem dX6_in_1 : decode cX6_in 1 = .ok (.istore_n 2, 1) := by decide +kernel
theorem dX6_in_2 : decode cX6_in 2 = .ok (.iconst 0, 1) := by decide +kernel
theorem dX6_in_3 : decode cX6_in 3 = .ok (.istore_n 3, 1) := by decide +kernel
theorem dX6_in_4 : decode cX6_in 4 = .ok (.iload_n 3, 1) := by decide +kernel
theorem dX6_in_5 : decode cX6_in 5 = .ok (.bipush 12, 2) := by decide +kernel
theorem dX6_in_7 : decode cX6_in 7 = .ok (.if_icmp .ge 26, 3) := by decide +kernel
theorem dX6_in_10 : decode cX6_in 10 = .ok (.iload_n 2, 1) := by decide +kernel
theorem dX6_in_11 : decode cX6_in 11 = .ok (.aload_n 0, 1) := by decide +kernel
theorem dX6_in_12 : decode cX6_in 12 = .ok (.iload_n 3, 1) := by decide +kernel
theorem dX6_in_13 : decode cX6_in 13 = .ok (.iload_n 1, 1) := by decide +kernel
theorem dX6_in_14 : decode cX6_in 14 = .ok (.invokevirtual 42, 3) := by decide +kernel
theorem dX6_in_17 : decode cX6_in 17 = .ok (.ifCond .eq 7, 3) := by decide +kernel
theorem dX6_in_20 : decode cX6_in 20 = .ok (.iconst 1, 1) := by decide +kernel
theorem dX6_in_21 : decode cX6_in 21 = .ok (.goto 4, 3) := by decide +kernel
theorem dX6_in_24 : decode cX6_in 24 = .ok (.iconst 0, 1) := by decide +kernel
theorem dX6_in_25 : decode cX6_in 25 = .ok (.iadd, 1) := by decide +kernel
theorem dX6_in_26 : decode cX6_in 26 = .ok (.istore_n 2, 1) := by decide +kernel
theorem dX6_in_27 : decode cX6_in 27 = .ok (.iinc 3 1, 3) := by decide +kernel
theorem dX6_in_30 : decode cX6_in 30 = .ok (.goto (-26), 3) := by decide +kernel
theorem dX6_in_33 : decode cX6_in 33 = .ok (.iload_n 2, 1) := by decide +kernel
theorem dX6_in_34 : decode cX6_in 34 = .ok (.ireturn, 1) := by decide +kernel
theorem dX6_hasAll_0 : decode cX6_hasAll 0 = .ok (.iconst 0, 1) := by decide +kernel
theorem dX6_hasAll_1 : decode cX6_hasAll 1 = .ok (.istore_n 2, 1) := by decide +kernel
theorem dX6_hasAll_2 : decode cX6_hasAll 2 = .ok (.iload_n 2, 1) := by decide +kernel
theorem dX6_hasAll_3 : decode cX6_hasAll 3 = .ok (.bipush 12, 2) := by decide +kernel
theorem dX6_hasAll_5 : decode cX6_hasAll 5 = .ok (.if_icmp .ge 28, 3) := by decide +kernel
theorem dX6_hasAll_8 : decode cX6_hasAll 8 = .ok (.iload_n 1, 1) := by decide +kernel
theorem dX6_hasAll_9 : decode cX6_hasAll 9 = .ok (.iload_n 2, 1) := by decide +kernel
theorem dX6_hasAll_10 : decode cX6_hasAll 10 = .ok (.invokestatic 34, 3) := by decide +kernel
theorem dX6_hasAll_13 : decode cX6_hasAll 13 = .ok (.ifCond .eq 14, 3) := by decide +kernel
theorem dX6_hasAll_16 : decode cX6_hasAll 16 = .ok (.aload_n 0, 1) := by decide +kernel
theorem dX6_hasAll_17 : decode cX6_hasAll 17 = .ok (.iload_n 2, 1) := by decide +kernel
theorem dX6_hasAll_18 : decode cX6_hasAll 18 = .ok (.iconst 2, 1) := by decide +kernel
theorem dX6_hasAll_19 : decode cX6_hasAll 19 = .ok (.invokevirtual 42, 3) := by decide +kernel
theorem dX6_hasAll_22 : decode cX6_hasAll 22 = .ok (.ifCond .ne 5, 3) := by decide +kernel
theorem dX6_hasAll_25 : decode cX6_hasAll 25 = .ok (.iconst 0, 1) := by decide +kernel
theorem dX6_hasAll_26 : decode cX6_hasAll 26 = .ok (.ireturn, 1) := by decide +kernel
theorem dX6_hasAll_27 : decode cX6_hasAll 27 = .ok (.iinc 2 1, 3) := by decide +kernel
theorem dX6_hasAll_30 : decode cX6_hasAll 30 = .ok (.goto (-28), 3) := by decide +kernel
theorem dX6_hasAll_33 : decode cX6_hasAll 33 = .ok (.iconst 1, 1) := by decide +kernel
theorem dX6_hasAll_34 : decode cX6_hasAll 34 = .ok (.ireturn, 1) := by decide +kernel
theorem dX6_hasNeeds_0 : decode cX6_hasNeeds 0 = .ok (.aload_n 0, 1) := by decide +kernel
theorem dX6_hasNeeds_1 : decode cX6_hasNeeds 1 = .ok (.iload_n 1, 1) := by decide +kernel
theorem dX6_hasNeeds_2 : decode cX6_hasNeeds 2 = .ok (.aload_n 0, 1) := by decide +kernel
theorem dX6_hasNeeds_3 : decode cX6_hasNeeds 3 = .ok (.getfield 27, 3) := by decide +kernel
theorem dX6_hasNeeds_6 : decode cX6_hasNeeds 6 = .ok (.iand, 1) := by decide +kernel
theorem dX6_hasNeeds_7 : decode cX6_hasNeeds 7 = .ok (.invokevirtual 45, 3) := by decide +kernel
theorem dX6_hasNeeds_10 : decode cX6_hasNeeds 10 = .ok (.ireturn, 1) := by decide +kernel
theorem dX6_last_0 : decode cX6_last 0 = .ok (.iconst (-1), 1) := by decide +kernel
theorem dX6_last_1 : decode cX6_last 1 = .ok (.istore_n 1, 1) := by decide +kernel
theorem dX6_last_2 : decode cX6_last 2 = .ok (.iconst 0, 1) := by decide +kernel
theorem dX6_last_3 : decode cX6_last 3 = .ok (.istore_n 2, 1) := by decide +kernel
theorem dX6_last_4 : decode cX6_last 4 = .ok (.iload_n 2, 1) := by decide +kernel
theorem dX6_last_5 : decode cX6_last 5 = .ok (.bipush 12, 2) := by decide +kernel
theorem dX6_last_7 : decode cX6_last 7 = .ok (.if_icmp .ge 49, 3) := by decide +kernel
theorem dX6_last_10 : decode cX6_last 10 = .ok (.aload_n 0, 1) := by decide +kernel
theorem dX6_last_11 : decode cX6_last 11 = .ok (.iload_n 2, 1) := by decide +kernel
theorem dX6_last_12 : decode cX6_last 12 = .ok (.iconst 1, 1) := by decide +kernel
theorem dX6_last_13 : decode cX6_last 13 = .ok (.invokevirtual 42, 3) := by decide +kernel
theorem dX6_last_16 : decode cX6_last 16 = .ok (.ifCond .ne 12, 3) := by decide +kernel
theorem dX6_last_19 : decode cX6_last 19 = .ok (.aload_n 0, 1) := by decide +kernel
theorem dX6_last_20 : decode cX6_last 20 = .ok (.iload_n 2, 1) := by decide +kernel
theorem dX6_last_21 : decode cX6_last 21 = .ok (.iconst 2, 1) := by decide +kernel
theorem dX6_last_22 : decode cX6_last 22 = .ok (.invokevirtual 42, 3) := by decide +kernel
theorem dX6_last_25 : decode cX6_last 25 = .ok (.ifCond .eq 25, 3) := by decide +kernel
theorem dX6_last_28 : decode cX6_last 28 = .ok (.iload_n 1, 1) := by decide +kernel
theorem dX6_last_29 : decode cX6_last 29 = .ok (.iconst (-1), 1) := by decide +kernel
theorem dX6_last_30 : decode cX6_last 30 = .ok (.if_icmp .eq 18, 3) := by decide +kernel
theorem dX6_last_33 : decode cX6_last 33 = .ok (.aload_n 0, 1) := by decide +kernel
theorem dX6_last_34 : decode cX6_last 34 = .ok (.getfield 15, 3) := by decide +kernel
theorem dX6_last_37 : decode cX6_last 37 = .ok (.iload_n 2, 1) := by decide +kernel
theorem dX6_last_38 : decode cX6_last 38 = .ok (.iaload, 1) := by decide +kernel
theorem dX6_last_39 : decode cX6_last 39 = .ok (.aload_n 0, 1) := by decide +kernel
theorem dX6_last_40 : decode cX6_last 40 = .ok (.getfield 15, 3) := by decide +kernel
theorem dX6_last_43 : decode cX6_last 43 = .ok (.iload_n 1, 1) := by decide +kernel
theorem dX6_last_44 : decode cX6_last 44 = .ok (.iaload, 1) := by decide +kernel
theorem dX6_last_45 : decode cX6_last 45 = .ok (.if_icmp .lt 5, 3) := by decide +kernel
theorem dX6_last_48 : decode cX6_last 48 = .ok (.iload_n 2, 1) := by decide +kernel
theorem dX6_last_49 : decode cX6_last 49 = .ok (.istore_n 1, 1) := by decide +kernel
theorem dX6_last_50 : decode cX6_last 50 = .ok (.iinc 2 1, 3) := by decide +kernel
theorem dX6_last_53 : decode cX6_last 53 = .ok (.goto (-49), 3) := by decide +kernel
theorem dX6_last_56 : decode cX6_last 56 = .ok (.iload_n 1, 1) := by decide +kernel
theorem dX6_last_57 : decode cX6_last 57 = .ok (.ireturn, 1) := by decide +kernel
theorem dX7_init_0 : decode cX7_init 0 = .ok (.aload_n 0, 1) := by decide +kernel
theorem dX7_init_1 : decode cX7_init 1 = .ok (.invokespecial 1, 3) := by decide +kernel
theorem dX7_init_4 : decode cX7_init 4 = .ok (.aload_n 0, 1) := by decide +kernel
theorem dX7_init_5 : decode cX7_init 5 = .ok (.iload_n 1, 1) := by decide +kernel
theorem dX7_init_6 : decode cX7_init 6 = .ok (.putfield 7, 3) := by decide +kernel
theorem dX7_init_9 : decode cX7_init 9 = .ok (.aload_n 0, 1) := by decide +kernel
theorem dX7_init_10 : decode cX7_init 10 = .ok (.iload_n 2, 1) := by decide +kernel
theorem dX7_init_11 : decode cX7_init 11 = .ok (.putfield 13, 3) := by decide +kernel
theorem dX7_init_14 : decode cX7_init 14 = .ok (.aload_n 0, 1) := by decide +kernel
theorem dX7_init_15 : decode cX7_init 15 = .ok (.iload_n 3, 1) := by decide +kernel
theorem dX7_init_16 : decode cX7_init 16 = .ok (.putfield 16, 3) := by decide +kernel
theorem dX7_init_19 : decode cX7_init 19 = .ok (.return_, 1) := by decide +kernel
theorem dX8_init_0 : decode cX8_init 0 = .ok (.aload_n 0, 1) := by decide +kernel
theorem dX8_init_1 : decode cX8_init 1 = .ok (.invokespecial 1, 3) := by decide +kernel
theorem dX8_init_4 : decode cX8_init 4 = .ok (.aload_n 0, 1) := by decide +kernel
theorem dX8_init_5 : decode cX8_init 5 = .ok (.iload_n 1, 1) := by decide +kernel
theorem dX8_init_6 : decode cX8_init 6 = .ok (.putfield 7, 3) := by decide +kernel
theorem dX8_init_9 : decode cX8_init 9 = .ok (.aload_n 0, 1) := by decide +kernel
theorem dX8_init_10 : decode cX8_init 10 = .ok (.iload_n 2, 1) := by decide +kernel
theorem dX8_init_11 : decode cX8_init 11 = .ok (.putfield 13, 3) := by decide +kernel
theorem dX8_init_14 : decode cX8_init 14 = .ok (.aload_n 0, 1) := by decide +kernel
theorem dX8_init_15 : decode cX8_init 15 = .ok (.iload_n 3, 1) := by decide +kernel
theorem dX8_init_16 : decode cX8_init 16 = .ok (.putfield 16, 3) := by decide +kernel
theorem dX8_init_19 : decode cX8_init 19 = .ok (.return_, 1) := by decide +kernel
theorem dX9_init_0 : decode cX9_init 0 = .ok (.aload_n 0, 1) := by decide +kernel
theorem dX9_init_1 : decode cX9_init 1 = .ok (.invokespecial 1, 3) := by decide +kernel
theorem dX9_init_4 : decode cX9_init 4 = .ok (.aload_n 0, 1) := by decide +kernel
theorem dX9_init_5 : decode cX9_init 5 = .ok (.iload_n 1, 1) := by decide +kernel
theorem dX9_init_6 : decode cX9_init 6 = .ok (.putfield 7, 3) := by decide +kernel
theorem dX9_init_9 : decode cX9_init 9 = .ok (.aload_n 0, 1) := by decide +kernel
theorem dX9_init_10 : decode cX9_init 10 = .ok (.iload_n 2, 1) := by decide +kernel
theorem dX9_init_11 : decode cX9_init 11 = .ok (.putfield 13, 3) := by decide +kernel
theorem dX9_init_14 : decode cX9_init 14 = .ok (.aload_n 0, 1) := by decide +kernel
theorem dX9_init_15 : decode cX9_init 15 = .ok (.iload_n 3, 1) := by decide +kernel
theorem dX9_init_16 : decode cX9_init 16 = .ok (.putfield 16, 3) := by decide +kernel
theorem dX9_init_19 : decode cX9_init 19 = .ok (.aload_n 0, 1) := by decide +kernel
theorem dX9_init_20 : decode cX9_init 20 = .ok (.iload 4, 2) := by decide +kernel
theorem dX9_init_22 : decode cX9_init 22 = .ok (.putfield 19, 3) := by decide +kernel
theorem dX9_init_25 : decode cX9_init 25 = .ok (.return_, 1) := by decide +kernel
theorem dX10_init_0 : decode cX10_init 0 = .ok (.aload_n 0, 1) := by decide +kernel
theorem dX10_init_1 : decode cX10_init 1 = .ok (.invokespecial 1, 3) := by decide +kernel
theorem dX10_init_4 : decode cX10_init 4 = .ok (.aload_n 0, 1) := by decide +kernel
theorem dX10_init_5 : decode cX10_init 5 = .ok (.new 7, 3) := by decide +kernel
theorem dX10_init_8 : decode cX10_init 8 = .ok (.dup, 1) := by decide +kernel
theorem dX10_init_9 : decode cX10_init 9 = .ok (.invokespecial 9, 3) := by decide +kernel
theorem dX10_init_12 : decode cX10_init 12 = .ok (.putfield 10, 3) := by decide +kernel
theorem dX10_init_15 : decode cX10_init 15 = .ok (.aload_n 0, 1) := by decide +kernel
theorem dX10_init_16 : decode cX10_init 16 = .ok (.iconst 4, 1) := by decide +kernel
theorem dX10_init_17 : decode cX10_init 17 = .ok (.newarray .int, 2) := by decide +kernel
theorem dX10_init_19 : decode cX10_init 19 = .ok (.putfield 16, 3) := by decide +kernel
theorem dX10_init_22 : decode cX10_init 22 = .ok (.aload_n 0, 1) := by decide +kernel
theorem dX10_init_23 : decode cX10_init 23 = .ok (.new 7, 3) := by decide +kernel
theorem dX10_init_26 : decode cX10_init 26 = .ok (.dup, 1) := by decide +kernel
theorem dX10_init_27 : decode cX10_init 27 = .ok (.invokespecial 9, 3) := by decide +kernel
theorem dX10_init_30 : decode cX10_init 30 = .ok (.putfield 20, 3) := by decide +kernel
theorem dX10_init_33 : decode cX10_init 33 = .ok (.aload_n 0, 1) := by decide +kernel
theorem dX10_init_34 : decode cX10_init 34 = .ok (.iconst 4, 1) := by decide +kernel
theorem dX10_init_35 : decode cX10_init 35 = .ok (.newarray .int, 2) := by decide +kernel
theorem dX10_init_37 : decode cX10_init 37 = .ok (.putfield 23, 3) := by decide +kernel
theorem dX10_init_40 : decode cX10_init 40 = .ok (.aload_n 0, 1) := by decide +kernel
theorem dX10_init_41 : decode cX10_init 41 = .ok (.new 7, 3) := by decide +kernel
theorem dX10_init_44 : decode cX10_init 44 = .ok (.dup, 1) := by decide +kernel
theorem dX10_init_45 : decode cX10_init 45 = .ok (.invokespecial 9, 3) := by decide +kernel
theorem dX10_init_48 : decode cX10_init 48 = .ok (.putfield 26, 3) := by decide +kernel
theorem dX10_init_51 : decode cX10_init 51 = .ok (.aload_n 0, 1) := by decide +kernel
theorem dX10_init_52 : decode cX10_init 52 = .ok (.new 7, 3) := by decide +kernel
theorem dX10_init_55 : decode cX10_init 55 = .ok (.dup, 1) := by decide +kernel
theorem dX10_init_56 : decode cX10_init 56 = .ok (.invokespecial 9, 3) := by decide +kernel
theorem dX10_init_59 : decode cX10_init 59 = .ok (.putfield 29, 3) := by decide +kernel
theorem dX10_init_62 : decode cX10_init 62 = .ok (.aload_n 0, 1) := by decide +kernel
theorem dX10_init_63 : decode cX10_init 63 = .ok (.new 7, 3) := by decide +kernel
theorem dX10_init_66 : decode cX10_init 66 = .ok (.dup, 1) := by decide +kernel
theorem dX10_init_67 : decode cX10_init 67 = .ok (.invokespecial 9, 3) := by decide +kernel
theorem dX10_init_70 : decode cX10_init 70 = .ok (.putfield 32, 3) := by decide +kernel
theorem dX10_init_73 : decode cX10_init 73 = .ok (.return_, 1) := by decide +kernel
theorem dX10_thrown_0 : decode cX10_thrown 0 = .ok (.aload_n 0, 1) := by decide +kernel
theorem dX10_thrown_1 : decode cX10_thrown 1 = .ok (.getfield 35, 3) := by decide +kernel
theorem dX10_thrown_4 : decode cX10_thrown 4 = .ok (.ireturn, 1) := by decide +kernel
theorem dX10_isIn_0 : decode cX10_isIn 0 = .ok (.iload_n 0, 1) := by decide +kernel
theorem dX10_isIn_1 : decode cX10_isIn 1 = .ok (.iload_n 1, 1) := by decide +kernel
theorem dX10_isIn_2 : decode cX10_isIn 2 = .ok (.ishr, 1) := by decide +kernel
theorem dX10_isIn_3 : decode cX10_isIn 3 = .ok (.iconst 1, 1) := by decide +kernel
theorem dX10_isIn_4 : decode cX10_isIn 4 = .ok (.iand, 1) := by decide +kernel
theorem dX10_isIn_5 : decode cX10_isIn 5 = .ok (.iconst 1, 1) := by decide +kernel
theorem dX10_isIn_6 : decode cX10_isIn 6 = .ok (.if_icmp .ne 7, 3) := by decide +kernel
theorem dX10_isIn_9 : decode cX10_isIn 9 = .ok (.iconst 1, 1) := by decide +kernel
theorem dX10_isIn_10 : decode cX10_isIn 10 = .ok (.goto 4, 3) := by decide +kernel
theorem dX10_isIn_13 : decode cX10_isIn 13 = .ok (.iconst 0, 1) := by decide +kernel
theorem dX10_isIn_14 : decode cX10_isIn 14 = .ok (.ireturn, 1) := by decide +kernel
theorem dX10_isFrom_0 : decode cX10_isFrom 0 = .ok (.iload_n 0, 1) := by decide +kernel
theorem dX10_isFrom_1 : decode cX10_isFrom 1 = .ok (.iload_n 1, 1) := by decide +kernel
theorem dX10_isFrom_2 : decode cX10_isFrom 2 = .ok (.if_icmp .lt 12, 3) := by decide +kernel
theorem dX10_isFrom_5 : decode cX10_isFrom 5 = .ok (.iload_n 0, 1) := by decide +kernel
theorem dX10_isFrom_6 : decode cX10_isFrom 6 = .ok (.iload_n 2, 1) := by decide +kernel
theorem dX10_isFrom_7 : decode cX10_isFrom 7 = .ok (.if_icmp .gt 7, 3) := by decide +kernel
theorem dX10_isFrom_10 : decode cX10_isFrom 10 = .ok (.iconst 1, 1) := by decide +kernel
theorem dX10_isFrom_11 : decode cX10_isFrom 11 = .ok (.goto 4, 3) := by decide +kernel
theorem dX10_isFrom_14 : decode cX10_isFrom 14 = .ok (.iconst 0, 1) := by decide +kernel
theorem dX10_isFrom_15 : decode cX10_isFrom 15 = .ok (.ireturn, 1) := by decide +kernel
theorem dX10_refuse_0 : decode cX10_refuse 0 = .ok (.iload_n 1, 1) := by decide +kernel
theorem dX10_refuse_1 : decode cX10_refuse 1 = .ok (.ifCond .eq 15, 3) := by decide +kernel
theorem dX10_refuse_4 : decode cX10_refuse 4 = .ok (.aload_n 0, 1) := by decide +kernel
theorem dX10_refuse_5 : decode cX10_refuse 5 = .ok (.getfield 35, 3) := by decide +kernel
theorem dX10_refuse_8 : decode cX10_refuse 8 = .ok (.ifCond .ne 8, 3) := by decide +kernel
theorem dX10_refuse_11 : decode cX10_refuse 11 = .ok (.aload_n 0, 1) := by decide +kernel
theorem dX10_refuse_12 : decode cX10_refuse 12 = .ok (.iload_n 2, 1) := by decide +kernel
theorem dX10_refuse_13 : decode cX10_refuse 13 = .ok (.putfield 35, 3) := by decide +kernel
theorem dX10_refuse_16 : decode cX10_refuse 16 = .ok (.aload_n 0, 1) := by decide +kernel
theorem dX10_refuse_17 : decode cX10_refuse 17 = .ok (.getfield 35, 3) := by decide +kernel
theorem dX10_refuse_20 : decode cX10_refuse 20 = .ok (.ifCond .le 7, 3) := by decide +kernel
theorem dX10_refuse_23 : decode cX10_refuse 23 = .ok (.iconst 1, 1) := by decide +kernel
theorem dX10_refuse_24 : decode cX10_refuse 24 = .ok (.goto 4, 3) := by decide +kernel
theorem dX10_refuse_27 : decode cX10_refuse 27 = .ok (.iconst 0, 1) := by decide +kernel
theorem dX10_refuse_28 : decode cX10_refuse 28 = .ok (.ireturn, 1) := by decide +kernel
theorem dX10_start_0 : decode cX10_start 0 = .ok (.aload_n 0, 1) := by decide +kernel
theorem dX10_start_1 : decode cX10_start 1 = .ok (.iconst 0, 1) := by decide +kernel
theorem dX10_start_2 : decode cX10_start 2 = .ok (.putfield 35, 3) := by decide +kernel
theorem dX10_start_5 : decode cX10_start 5 = .ok (.aload_n 0, 1) := by decide +kernel
theorem dX10_start_6 : decode cX10_start 6 = .ok (.iload_n 1, 1) := by decide +kernel
theorem dX10_start_7 : decode cX10_start 7 = .ok (.iload_n 2, 1) := by decide +kernel
theorem dX10_start_8 : decode cX10_start 8 = .ok (.invokevirtual 39, 3) := by decide +kernel
theorem dX10_start_11 : decode cX10_start 11 = .ok (.ireturn, 1) := by decide +kernel
theorem dX10_isNoSet_0 : decode cX10_isNoSet 0 = .ok (.iload_n 1, 1) := by decide +kernel
theorem dX10_isNoSet_1 : decode cX10_isNoSet 1 = .ok (.iconst 0, 1) := by decide +kernel
theorem dX10_isNoSet_2 : decode cX10_isNoSet 2 = .ok (.iconst 1, 1) := by decide +kernel
theorem dX10_isNoSet_3 : decode cX10_isNoSet 3 = .ok (.aload_n 0, 1) := by decide +kernel
theorem dX10_isNoSet_4 : decode cX10_isNoSet 4 = .ok (.getfield 10, 3) := by decide +kernel
theorem dX10_isNoSet_7 : decode cX10_isNoSet 7 = .ok (.invokevirtual 43, 3) := by decide +kernel
theorem dX10_isNoSet_10 : decode cX10_isNoSet 10 = .ok (.ishl, 1) := by decide +kernel
theorem dX10_isNoSet_11 : decode cX10_isNoSet 11 = .ok (.iconst 1, 1) := by decide +kernel
theorem dX10_isNoSet_12 : decode cX10_isNoSet 12 = .ok (.isub, 1) := by decide +kernel
theorem dX10_isNoSet_13 : decode cX10_isNoSet 13 = .ok (.invokestatic 47, 3) := by decide +kernel
theorem dX10_isNoSet_16 : decode cX10_isNoSet 16 = .ok (.ifCond .ne 7, 3) := by decide +kernel
theorem dX10_isNoSet_19 : decode cX10_isNoSet 19 = .ok (.iconst 1, 1) := by decide +kernel
theorem dX10_isNoSet_20 : decode cX10_isNoSet 20 = .ok (.goto 4, 3) := by decide +kernel
theorem dX10_isNoSet_23 : decode cX10_isNoSet 23 = .ok (.iconst 0, 1) := by decide +kernel
theorem dX10_isNoSet_24 : decode cX10_isNoSet 24 = .ok (.ireturn, 1) := by decide +kernel
theorem dX10_fresh_0 : decode cX10_fresh 0 = .ok (.aload_n 0, 1) := by decide +kernel
theorem dX10_fresh_1 : decode cX10_fresh 1 = .ok (.getfield 10, 3) := by decide +kernel
theorem dX10_fresh_4 : decode cX10_fresh 4 = .ok (.iload_n 2, 1) := by decide +kernel
theorem dX10_fresh_5 : decode cX10_fresh 5 = .ok (.invokevirtual 51, 3) := by decide +kernel
theorem dX10_fresh_8 : decode cX10_fresh 8 = .ok (.checkcast 55, 3) := by decide +kernel
theorem dX10_fresh_11 : decode cX10_fresh 11 = .ok (.getfield 57, 3) := by decide +kernel
theorem dX10_fresh_14 : decode cX10_fresh 14 = .ok (.istore_n 3, 1) := by decide +kernel
theorem dX10_fresh_15 : decode cX10_fresh 15 = .ok (.iconst 0, 1) := by decide +kernel
theorem dX10_fresh_16 : decode cX10_fresh 16 = .ok (.istore 4, 2) := by decide +kernel
theorem dX10_fresh_18 : decode cX10_fresh 18 = .ok (.iload 4, 2) := by decide +kernel
theorem dX10_fresh_20 : decode cX10_fresh 20 = .ok (.aload_n 0, 1) := by decide +kernel
theorem dX10_fresh_21 : decode cX10_fresh 21 = .ok (.getfield 10, 3) := by decide +kernel
theorem dX10_fresh_24 : decode cX10_fresh 24 = .ok (.invokevirtual 43, 3) := by decide +kernel
theorem dX10_fresh_27 : decode cX10_fresh 27 = .ok (.if_icmp .ge 63, 3) := by decide +kernel
theorem dX10_fresh_30 : decode cX10_fresh 30 = .ok (.iload 4, 2) := by decide +kernel
theorem dX10_fresh_32 : decode cX10_fresh 32 = .ok (.iload_n 2, 1) := by decide +kernel
theorem dX10_fresh_33 : decode cX10_fresh 33 = .ok (.if_icmp .eq 51, 3) := by decide +kernel
theorem dX10_fresh_36 : decode cX10_fresh 36 = .ok (.aload_n 0, 1) := by decide +kernel
theorem dX10_fresh_37 : decode cX10_fresh 37 = .ok (.getfield 10, 3) := by decide +kernel
theorem dX10_fresh_40 : decode cX10_fresh 40 = .ok (.iload 4, 2) := by decide +kernel
theorem dX10_fresh_42 : decode cX10_fresh 42 = .ok (.invokevirtual 51, 3) := by decide +kernel
theorem dX10_fresh_45 : decode cX10_fresh 45 = .ok (.checkcast 55, 3) := by decide +kernel
theorem dX10_fresh_48 : decode cX10_fresh 48 = .ok (.getfield 60, 3) := by decide +kernel
theorem dX10_fresh_51 : decode cX10_fresh 51 = .ok (.ifCond .ne 33, 3) := by decide +kernel
theorem dX10_fresh_54 : decode cX10_fresh 54 = .ok (.aload_n 1, 1) := by decide +kernel
theorem dX10_fresh_55 : decode cX10_fresh 55 = .ok (.iload 4, 2) := by decide +kernel
theorem dX10_fresh_57 : decode cX10_fresh 57 = .ok (.iconst 2, 1) := by decide +kernel
theorem dX10_fresh_58 : decode cX10_fresh 58 = .ok (.invokevirtual 63, 3) := by decide +kernel
theorem dX10_fresh_61 : decode cX10_fresh 61 = .ok (.ifCond .eq 23, 3) := by decide +kernel
theorem dX10_fresh_64 : decode cX10_fresh 64 = .ok (.iload_n 3, 1) := by decide +kernel
theorem dX10_fresh_65 : decode cX10_fresh 65 = .ok (.aload_n 0, 1) := by decide +kernel
theorem dX10_fresh_66 : decode cX10_fresh 66 = .ok (.getfield 10, 3) := by decide +kernel
theorem dX10_fresh_69 : decode cX10_fresh 69 = .ok (.iload 4, 2) := by decide +kernel
theorem dX10_fresh_71 : decode cX10_fresh 71 = .ok (.invokevirtual 51, 3) := by decide +kernel
theorem dX10_fresh_74 : decode cX10_fresh 74 = .ok (.checkcast 55, 3) := by decide +kernel
theorem dX10_fresh_77 : decode cX10_fresh 77 = .ok (.getfield 57, 3) := by decide +kernel
theorem dX10_fresh_80 : decode cX10_fresh 80 = .ok (.iconst (-1), 1) := by decide +kernel
theorem dX10_fresh_81 : decode cX10_fresh 81 = .ok (.ixor, 1) := by decide +kernel
theorem dX10_fresh_82 : decode cX10_fresh 82 = .ok (.iand, 1) := by decide +kernel
theorem dX10_fresh_83 : decode cX10_fresh 83 = .ok (.istore_n 3, 1) := by decide +kernel
theorem dX10_fresh_84 : decode cX10_fresh 84 = .ok (.iinc 4 1, 3) := by decide +kernel
theorem dX10_fresh_87 : decode cX10_fresh 87 = .ok (.goto (-69), 3) := by decide +kernel
theorem dX10_fresh_90 : decode cX10_fresh 90 = .ok (.iload_n 3, 1) := by decide +kernel
theorem dX10_fresh_91 : decode cX10_fresh 91 = .ok (.invokestatic 69, 3) := by decide +kernel
theorem dX10_fresh_94 : decode cX10_fresh 94 = .ok (.ireturn, 1) := by decide +kernel
theorem dX10_length_0 : decode cX10_length 0 = .ok (.aload_n 1, 1) := by decide +kernel
theorem dX10_length_1 : decode cX10_length 1 = .ok (.getfield 75, 3) := by decide +kernel
theorem dX10_length_4 : decode cX10_length 4 = .ok (.iload_n 2, 1) := by decide +kernel
theorem dX10_length_5 : decode cX10_length 5 = .ok (.iaload, 1) := by decide +kernel
theorem dX10_length_6 : decode cX10_length 6 = .ok (.ifCond .eq 10, 3) := by decide +kernel
theorem dX10_length_9 : decode cX10_length 9 = .ok (.aload_n 1, 1) := by decide +kernel
theorem dX10_length_10 : decode cX10_length 10 = .ok (.getfield 78, 3) := by decide +kernel
theorem dX10_length_13 : decode cX10_length 13 = .ok (.iload_n 2, 1) := by decide +kernel
theorem dX10_length_14 : decode cX10_length 14 = .ok (.iaload, 1) := by decide +kernel
theorem dX10_length_15 : decode cX10_length 15 = .ok (.ireturn, 1) := by decide +kernel
theorem dX10_length_16 : decode cX10_length 16 = .ok (.aload_n 0, 1) := by decide +kernel
theorem dX10_length_17 : decode cX10_length 17 = .ok (.getfield 10, 3) := by decide +kernel
theorem dX10_length_20 : decode cX10_length 20 = .ok (.iload_n 2, 1) := by decide +kernel
theorem dX10_length_21 : decode cX10_length 21 = .ok (.invokevirtual 51, 3) := by decide +kernel
theorem dX10_length_24 : decode cX10_length 24 = .ok (.checkcast 55, 3) := by decide +kernel
theorem dX10_length_27 : decode cX10_length 27 = .ok (.getfield 60, 3) := by decide +kernel
theorem dX10_length_30 : decode cX10_length 30 = .ok (.ifCond .ne 16, 3) := by decide +kernel
theorem dX10_length_33 : decode cX10_length 33 = .ok (.aload_n 0, 1) := by decide +kernel
theorem dX10_length_34 : decode cX10_length 34 = .ok (.aload_n 1, 1) := by decide +kernel
theorem dX10_length_35 : decode cX10_length 35 = .ok (.iload_n 2, 1) := by decide +kernel
theorem dX10_length_36 : decode cX10_length 36 = .ok (.invokevirtual 81, 3) := by decide +kernel
theorem dX10_length_39 : decode cX10_length 39 = .ok (.iconst 1, 1) := by decide +kernel
theorem dX10_length_40 : decode cX10_length 40 = .ok (.iadd, 1) := by decide +kernel
theorem dX10_length_41 : decode cX10_length 41 = .ok (.iconst 2, 1) := by decide +kernel
theorem dX10_length_42 : decode cX10_length 42 = .ok (.idiv, 1) := by decide +kernel
theorem dX10_length_43 : decode cX10_length 43 = .ok (.goto 4, 3) := by decide +kernel
theorem dX10_length_46 : decode cX10_length 46 = .ok (.iconst 0, 1) := by decide +kernel
theorem dX10_length_47 : decode cX10_length 47 = .ok (.istore_n 3, 1) := by decide +kernel
theorem dX10_length_48 : decode cX10_length 48 = .ok (.aload_n 0, 1) := by decide +kernel
theorem dX10_length_49 : decode cX10_length 49 = .ok (.getfield 10, 3) := by decide +kernel
theorem dX10_length_52 : decode cX10_length 52 = .ok (.iload_n 2, 1) := by decide +kernel
theorem dX10_length_53 : decode cX10_length 53 = .ok (.invokevirtual 51, 3) := by decide +kernel
theorem dX10_length_56 : decode cX10_length 56 = .ok (.checkcast 55, 3) := by decide +kernel
theorem dX10_length_59 : decode cX10_length 59 = .ok (.getfield 85, 3) := by decide +kernel
theorem dX10_length_62 : decode cX10_length 62 = .ok (.iload_n 3, 1) := by decide +kernel
theorem dX10_length_63 : decode cX10_length 63 = .ok (.iadd, 1) := by decide +kernel
theorem dX10_length_64 : decode cX10_length 64 = .ok (.ireturn, 1) := by decide +kernel
theorem dX10_comes_0 : decode cX10_comes 0 = .ok (.iconst (-1), 1) := by decide +kernel
theorem dX10_comes_1 : decode cX10_comes 1 = .ok (.istore_n 2, 1) := by decide +kernel
theorem dX10_comes_2 : decode cX10_comes 2 = .ok (.iconst 0, 1) := by decide +kernel
theorem dX10_comes_3 : decode cX10_comes 3 = .ok (.istore_n 3, 1) := by decide +kernel
theorem dX10_comes_4 : decode cX10_comes 4 = .ok (.iload_n 3, 1) := by decide +kernel
theorem dX10_comes_5 : decode cX10_comes 5 = .ok (.aload_n 0, 1) := by decide +kernel
theorem dX10_comes_6 : decode cX10_comes 6 = .ok (.getfield 26, 3) := by decide +kernel
theorem dX10_comes_9 : decode cX10_comes 9 = .ok (.invokevirtual 43, 3) := by decide +kernel
theorem dX10_comes_12 : decode cX10_comes 12 = .ok (.if_icmp .ge 59, 3) := by decide +kernel
theorem dX10_comes_15 : decode cX10_comes 15 = .ok (.aload_n 0, 1) := by decide +kernel
theorem dX10_comes_16 : decode cX10_comes 16 = .ok (.getfield 26, 3) := by decide +kernel
theorem dX10_comes_19 : decode cX10_comes 19 = .ok (.iload_n 3, 1) := by decide +kernel
theorem dX10_comes_20 : decode cX10_comes 20 = .ok (.invokevirtual 51, 3) := by decide +kernel
theorem dX10_comes_23 : decode cX10_comes 23 = .ok (.checkcast 88, 3) := by decide +kernel
theorem dX10_comes_26 : decode cX10_comes 26 = .ok (.astore 4, 2) := by decide +kernel
theorem dX10_comes_28 : decode cX10_comes 28 = .ok (.aload 4, 2) := by decide +kernel
theorem dX10_comes_30 : decode cX10_comes 30 = .ok (.getfield 90, 3) := by decide +kernel
theorem dX10_comes_33 : decode cX10_comes 33 = .ok (.iload_n 1, 1) := by decide +kernel
theorem dX10_comes_34 : decode cX10_comes 34 = .ok (.if_icmp .ne 31, 3) := by decide +kernel
theorem dX10_comes_37 : decode cX10_comes 37 = .ok (.aload 4, 2) := by decide +kernel
theorem dX10_comes_39 : decode cX10_comes 39 = .ok (.getfield 93, 3) := by decide +kernel
theorem dX10_comes_42 : decode cX10_comes 42 = .ok (.ifCond .ne 23, 3) := by decide +kernel
theorem dX10_comes_45 : decode cX10_comes 45 = .ok (.iload_n 2, 1) := by decide +kernel
theorem dX10_comes_46 : decode cX10_comes 46 = .ok (.iconst (-1), 1) := by decide +kernel
theorem dX10_comes_47 : decode cX10_comes 47 = .ok (.if_icmp .eq 12, 3) := by decide +kernel
theorem dX10_comes_50 : decode cX10_comes 50 = .ok (.aload 4, 2) := by decide +kernel
theorem dX10_comes_52 : decode cX10_comes 52 = .ok (.getfield 97, 3) := by decide +kernel
theorem dX10_comes_55 : decode cX10_comes 55 = .ok (.iload_n 2, 1) := by decide +kernel
theorem dX10_comes_56 : decode cX10_comes 56 = .ok (.if_icmp .ge 9, 3) := by decide +kernel
theorem dX10_comes_59 : decode cX10_comes 59 = .ok (.aload 4, 2) := by decide +kernel
theorem dX10_comes_61 : decode cX10_comes 61 = .ok (.getfield 97, 3) := by decide +kernel
theorem dX10_comes_64 : decode cX10_comes 64 = .ok (.istore_n 2, 1) := by decide +kernel
theorem dX10_comes_65 : decode cX10_comes 65 = .ok (.iinc 3 1, 3) := by decide +kernel
theorem dX10_comes_68 : decode cX10_comes 68 = .ok (.goto (-64), 3) := by decide +kernel
theorem dX10_comes_71 : decode cX10_comes 71 = .ok (.iload_n 2, 1) := by decide +kernel
theorem dX10_comes_72 : decode cX10_comes 72 = .ok (.ireturn, 1) := by decide +kernel
theorem dX10_expected_0 : decode cX10_expected 0 = .ok (.aload_n 1, 1) := by decide +kernel
theorem dX10_expected_1 : decode cX10_expected 1 = .ok (.getfield 75, 3) := by decide +kernel
theorem dX10_expected_4 : decode cX10_expected 4 = .ok (.iload_n 2, 1) := by decide +kernel
theorem dX10_expected_5 : decode cX10_expected 5 = .ok (.iaload, 1) := by decide +kernel
theorem dX10_expected_6 : decode cX10_expected 6 = .ok (.ifCond .eq 10, 3) := by decide +kernel
theorem dX10_expected_9 : decode cX10_expected 9 = .ok (.aload_n 1, 1) := by decide +kernel
theorem dX10_expected_10 : decode cX10_expected 10 = .ok (.getfield 100, 3) := by decide +kernel
theorem dX10_expected_13 : decode cX10_expected 13 = .ok (.iload_n 2, 1) := by decide +kernel
theorem dX10_expected_14 : decode cX10_expected 14 = .ok (.iaload, 1) := by decide +kernel
theorem dX10_expected_15 : decode cX10_expected 15 = .ok (.ireturn, 1) := by decide +kernel
theorem dX10_expected_16 : decode cX10_expected 16 = .ok (.aload_n 0, 1) := by decide +kernel
theorem dX10_expected_17 : decode cX10_expected 17 = .ok (.getfield 10, 3) := by decide +kernel
theorem dX10_expected_20 : decode cX10_expected 20 = .ok (.iload_n 2, 1) := by decide +kernel
theorem dX10_expected_21 : decode cX10_expected 21 = .ok (.invokevirtual 51, 3) := by decide +kernel
theorem dX10_expected_24 : decode cX10_expected 24 = .ok (.checkcast 55, 3) := by decide +kernel
theorem dX10_expected_27 : decode cX10_expected 27 = .ok (.astore_n 3, 1) := by decide +kernel
theorem dX10_expected_28 : decode cX10_expected 28 = .ok (.aload_n 0, 1) := by decide +kernel
theorem dX10_expected_29 : decode cX10_expected 29 = .ok (.getfield 103, 3) := by decide +kernel
theorem dX10_expected_32 : decode cX10_expected 32 = .ok (.iconst 1, 1) := by decide +kernel
theorem dX10_expected_33 : decode cX10_expected 33 = .ok (.iadd, 1) := by decide +kernel
theorem dX10_expected_34 : decode cX10_expected 34 = .ok (.aload_n 1, 1) := by decide +kernel
theorem dX10_expected_35 : decode cX10_expected 35 = .ok (.getfield 106, 3) := by decide +kernel
theorem dX10_expected_38 : decode cX10_expected 38 = .ok (.invokestatic 109, 3) := by decide +kernel
theorem dX10_expected_41 : decode cX10_expected 41 = .ok (.istore 4, 2) := by decide +kernel
theorem dX10_expected_43 : decode cX10_expected 43 = .ok (.iconst 0, 1) := by decide +kernel
theorem dX10_expected_44 : decode cX10_expected 44 = .ok (.istore 5, 2) := by decide +kernel
theorem dX10_expected_46 : decode cX10_expected 46 = .ok (.iload 5, 2) := by decide +kernel
theorem dX10_expected_48 : decode cX10_expected 48 = .ok (.iload_n 2, 1) := by decide +kernel
theorem dX10_expected_49 : decode cX10_expected 49 = .ok (.if_icmp .ge 57, 3) := by decide +kernel
theorem dX10_expected_52 : decode cX10_expected 52 = .ok (.aload_n 3, 1) := by decide +kernel
theorem dX10_expected_53 : decode cX10_expected 53 = .ok (.getfield 115, 3) := by decide +kernel
theorem dX10_expected_56 : decode cX10_expected 56 = .ok (.aload_n 1, 1) := by decide +kernel
theorem dX10_expected_57 : decode cX10_expected 57 = .ok (.getfield 118, 3) := by decide +kernel
theorem dX10_expected_60 : decode cX10_expected 60 = .ok (.iand, 1) := by decide +kernel
theorem dX10_expected_61 : decode cX10_expected 61 = .ok (.iload 5, 2) := by decide +kernel
theorem dX10_expected_63 : decode cX10_expected 63 = .ok (.invokestatic 120, 3) := by decide +kernel
theorem dX10_expected_66 : decode cX10_expected 66 = .ok (.ifCond .ne 6, 3) := by decide +kernel
theorem dX10_expected_69 : decode cX10_expected 69 = .ok (.goto 31, 3) := by decide +kernel
theorem dX10_expected_72 : decode cX10_expected 72 = .ok (.aload_n 0, 1) := by decide +kernel
theorem dX10_expected_73 : decode cX10_expected 73 = .ok (.aload_n 1, 1) := by decide +kernel
theorem dX10_expected_74 : decode cX10_expected 74 = .ok (.iload 5, 2) := by decide +kernel
theorem dX10_expected_76 : decode cX10_expected 76 = .ok (.invokevirtual 123, 3) := by decide +kernel
theorem dX10_expected_79 : decode cX10_expected 79 = .ok (.istore 6, 2) := by decide +kernel
theorem dX10_expected_81 : decode cX10_expected 81 = .ok (.iload 6, 2) := by decide +kernel
theorem dX10_expected_83 : decode cX10_expected 83 = .ok (.iconst (-1), 1) := by decide +kernel
theorem dX10_expected_84 : decode cX10_expected 84 = .ok (.if_icmp .ne 5, 3) := by decide +kernel
theorem dX10_expected_87 : decode cX10_expected 87 = .ok (.iconst (-1), 1) := by decide +kernel
theorem dX10_expected_88 : decode cX10_expected 88 = .ok (.ireturn, 1) := by decide +kernel
theorem dX10_expected_89 : decode cX10_expected 89 = .ok (.iload 4, 2) := by decide +kernel
theorem dX10_expected_91 : decode cX10_expected 91 = .ok (.iload 6, 2) := by decide +kernel
theorem dX10_expected_93 : decode cX10_expected 93 = .ok (.iconst 1, 1) := by decide +kernel
theorem dX10_expected_94 : decode cX10_expected 94 = .ok (.iadd, 1) := by decide +kernel
theorem dX10_expected_95 : decode cX10_expected 95 = .ok (.invokestatic 109, 3) := by decide +kernel
theorem dX10_expected_98 : decode cX10_expected 98 = .ok (.istore 4, 2) := by decide +kernel
theorem dX10_expected_100 : decode cX10_expected 100 = .ok (.iinc 5 1, 3) := by decide +kernel
theorem dX10_expected_103 : decode cX10_expected 103 = .ok (.goto (-57), 3) := by decide +kernel
theorem dX10_expected_106 : decode cX10_expected 106 = .ok (.aload_n 3, 1) := by decide +kernel
theorem dX10_expected_107 : decode cX10_expected 107 = .ok (.getfield 60, 3) := by decide +kernel
theorem dX10_expected_110 : decode cX10_expected 110 = .ok (.iconst 2, 1) := by decide +kernel
theorem dX10_expected_111 : decode cX10_expected 111 = .ok (.if_icmp .ne 39, 3) := by decide +kernel
theorem dX10_expected_114 : decode cX10_expected 114 = .ok (.aload_n 1, 1) := by decide +kernel
theorem dX10_expected_115 : decode cX10_expected 115 = .ok (.getfield 126, 3) := by decide +kernel
theorem dX10_expected_118 : decode cX10_expected 118 = .ok (.iload_n 2, 1) := by decide +kernel
theorem dX10_expected_119 : decode cX10_expected 119 = .ok (.iaload, 1) := by decide +kernel
theorem dX10_expected_120 : decode cX10_expected 120 = .ok (.iconst (-1), 1) := by decide +kernel
theorem dX10_expected_121 : decode cX10_expected 121 = .ok (.if_icmp .eq 29, 3) := by decide +kernel
theorem dX10_expected_124 : decode cX10_expected 124 = .ok (.iload 4, 2) := by decide +kernel
theorem dX10_expected_126 : decode cX10_expected 126 = .ok (.aload_n 0, 1) := by decide +kernel
theorem dX10_expected_127 : decode cX10_expected 127 = .ok (.getfield 29, 3) := by decide +kernel
theorem dX10_expected_130 : decode cX10_expected 130 = .ok (.aload_n 1, 1) := by decide +kernel
theorem dX10_expected_131 : decode cX10_expected 131 = .ok (.getfield 126, 3) := by decide +kernel
theorem dX10_expected_134 : decode cX10_expected 134 = .ok (.iload_n 2, 1) := by decide +kernel
theorem dX10_expected_135 : decode cX10_expected 135 = .ok (.iaload, 1) := by decide +kernel
theorem dX10_expected_136 : decode cX10_expected 136 = .ok (.invokevirtual 51, 3) := by decide +kernel
theorem dX10_expected_139 : decode cX10_expected 139 = .ok (.checkcast 129, 3) := by decide +kernel
theorem dX10_expected_142 : decode cX10_expected 142 = .ok (.getfield 131, 3) := by decide +kernel
theorem dX10_expected_145 : decode cX10_expected 145 = .ok (.invokestatic 109, 3) := by decide +kernel
theorem dX10_expected_148 : decode cX10_expected 148 = .ok (.istore 4, 2) := by decide +kernel
theorem dX10_expected_150 : decode cX10_expected 150 = .ok (.aload_n 3, 1) := by decide +kernel
theorem dX10_expected_151 : decode cX10_expected 151 = .ok (.getfield 60, 3) := by decide +kernel
theorem dX10_expected_154 : decode cX10_expected 154 = .ok (.iconst 1, 1) := by decide +kernel
theorem dX10_expected_155 : decode cX10_expected 155 = .ok (.if_icmp .ne 42, 3) := by decide +kernel
theorem dX10_expected_158 : decode cX10_expected 158 = .ok (.aload_n 0, 1) := by decide +kernel
theorem dX10_expected_159 : decode cX10_expected 159 = .ok (.getfield 23, 3) := by decide +kernel
theorem dX10_expected_162 : decode cX10_expected 162 = .ok (.aload_n 3, 1) := by decide +kernel
theorem dX10_expected_163 : decode cX10_expected 163 = .ok (.getfield 57, 3) := by decide +kernel
theorem dX10_expected_166 : decode cX10_expected 166 = .ok (.iaload, 1) := by decide +kernel
theorem dX10_expected_167 : decode cX10_expected 167 = .ok (.ifCond .ne 30, 3) := by decide +kernel
theorem dX10_expected_170 : decode cX10_expected 170 = .ok (.aload_n 0, 1) := by decide +kernel
theorem dX10_expected_171 : decode cX10_expected 171 = .ok (.aload_n 3, 1) := by decide +kernel
theorem dX10_expected_172 : decode cX10_expected 172 = .ok (.getfield 57, 3) := by decide +kernel
theorem dX10_expected_175 : decode cX10_expected 175 = .ok (.invokevirtual 132, 3) := by decide +kernel
theorem dX10_expected_178 : decode cX10_expected 178 = .ok (.istore 5, 2) := by decide +kernel
theorem dX10_expected_180 : decode cX10_expected 180 = .ok (.iload 5, 2) := by decide +kernel
theorem dX10_expected_182 : decode cX10_expected 182 = .ok (.iconst (-1), 1) := by decide +kernel
theorem dX10_expected_183 : decode cX10_expected 183 = .ok (.if_icmp .ne 5, 3) := by decide +kernel
theorem dX10_expected_186 : decode cX10_expected 186 = .ok (.iconst (-1), 1) := by decide +kernel
theorem dX10_expected_187 : decode cX10_expected 187 = .ok (.ireturn, 1) := by decide +kernel
theorem dX10_expected_188 : decode cX10_expected 188 = .ok (.iload 4, 2) := by decide +kernel
theorem dX10_expected_190 : decode cX10_expected 190 = .ok (.iload 5, 2) := by decide +kernel
theorem dX10_expected_192 : decode cX10_expected 192 = .ok (.invokestatic 109, 3) := by decide +kernel
theorem dX10_expected_195 : decode cX10_expected 195 = .ok (.istore 4, 2) := by decide +kernel
theorem dX10_expected_197 : decode cX10_expected 197 = .ok (.iload 4, 2) := by decide +kernel
theorem dX10_expected_199 : decode cX10_expected 199 = .ok (.ireturn, 1) := by decide +kernel
theorem dX10_end_0 : decode cX10_end 0 = .ok (.aload_n 0, 1) := by decide +kernel
theorem dX10_end_1 : decode cX10_end 1 = .ok (.aload_n 1, 1) := by decide +kernel
theorem dX10_end_2 : decode cX10_end 2 = .ok (.iload_n 2, 1) := by decide +kernel
theorem dX10_end_3 : decode cX10_end 3 = .ok (.invokevirtual 135, 3) := by decide +kernel
theorem dX10_end_6 : decode cX10_end 6 = .ok (.istore_n 3, 1) := by decide +kernel
theorem dX10_end_7 : decode cX10_end 7 = .ok (.iload_n 3, 1) := by decide +kernel
theorem dX10_end_8 : decode cX10_end 8 = .ok (.iconst (-1), 1) := by decide +kernel
theorem dX10_end_9 : decode cX10_end 9 = .ok (.if_icmp .ne 7, 3) := by decide +kernel
theorem dX10_end_12 : decode cX10_end 12 = .ok (.iconst (-1), 1) := by decide +kernel
theorem dX10_end_13 : decode cX10_end 13 = .ok (.goto 13, 3) := by decide +kernel
theorem dX10_end_16 : decode cX10_end 16 = .ok (.iload_n 3, 1) := by decide +kernel
theorem dX10_end_17 : decode cX10_end 17 = .ok (.aload_n 0, 1) := by decide +kernel
theorem dX10_end_18 : decode cX10_end 18 = .ok (.aload_n 1, 1) := by decide +kernel
theorem dX10_end_19 : decode cX10_end 19 = .ok (.iload_n 2, 1) := by decide +kernel
theorem dX10_end_20 : decode cX10_end 20 = .ok (.invokevirtual 138, 3) := by decide +kernel
theorem dX10_end_23 : decode cX10_end 23 = .ok (.iadd, 1) := by decide +kernel
theorem dX10_end_24 : decode cX10_end 24 = .ok (.iconst 1, 1) := by decide +kernel
theorem dX10_end_25 : decode cX10_end 25 = .ok (.isub, 1) := by decide +kernel
theorem dX10_end_26 : decode cX10_end 26 = .ok (.ireturn, 1) := by decide +kernel
theorem dX10_end__0 : decode cX10_end_ 0 = .ok (.iconst (-1), 1) := by decide +kernel
theorem dX10_end__1 : decode cX10_end_ 1 = .ok (.istore 4, 2) := by decide +kernel
theorem dX10_end__3 : decode cX10_end_ 3 = .ok (.iconst 0, 1) := by decide +kernel
theorem dX10_end__4 : decode cX10_end_ 4 = .ok (.istore 5, 2) := by decide +kernel
theorem dX10_end__6 : decode cX10_end_ 6 = .ok (.iload 5, 2) := by decide +kernel
theorem dX10_end__8 : decode cX10_end_ 8 = .ok (.aload_n 0, 1) := by decide +kernel
theorem dX10_end__9 : decode cX10_end_ 9 = .ok (.getfield 10, 3) := by decide +kernel
theorem dX10_end__12 : decode cX10_end_ 12 = .ok (.invokevirtual 43, 3) := by decide +kernel
theorem dX10_end__15 : decode cX10_end_ 15 = .ok (.if_icmp .ge 49, 3) := by decide +kernel
theorem dX10_end__18 : decode cX10_end_ 18 = .ok (.lload_n 2, 1) := by decide +kernel
theorem dX10_end__19 : decode cX10_end_ 19 = .ok (.iload 5, 2) := by decide +kernel
theorem dX10_end__21 : decode cX10_end_ 21 = .ok (.lshr, 1) := by decide +kernel
theorem dX10_end__22 : decode cX10_end_ 22 = .ok (.lconst 1, 1) := by decide +kernel
theorem dX10_end__23 : decode cX10_end_ 23 = .ok (.land, 1) := by decide +kernel
theorem dX10_end__24 : decode cX10_end_ 24 = .ok (.lconst 0, 1) := by decide +kernel
theorem dX10_end__25 : decode cX10_end_ 25 = .ok (.lcmp, 1) := by decide +kernel
theorem dX10_end__26 : decode cX10_end_ 26 = .ok (.ifCond .ne 6, 3) := by decide +kernel
theorem dX10_end__29 : decode cX10_end_ 29 = .ok (.goto 29, 3) := by decide +kernel
theorem dX10_end__32 : decode cX10_end_ 32 = .ok (.aload_n 0, 1) := by decide +kernel
theorem dX10_end__33 : decode cX10_end_ 33 = .ok (.aload_n 1, 1) := by decide +kernel
theorem dX10_end__34 : decode cX10_end_ 34 = .ok (.iload 5, 2) := by decide +kernel
theorem dX10_end__36 : decode cX10_end_ 36 = .ok (.invokevirtual 123, 3) := by decide +kernel
theorem dX10_end__39 : decode cX10_end_ 39 = .ok (.istore 6, 2) := by decide +kernel
theorem dX10_end__41 : decode cX10_end_ 41 = .ok (.iload 6, 2) := by decide +kernel
theorem dX10_end__43 : decode cX10_end_ 43 = .ok (.iconst (-1), 1) := by decide +kernel
theorem dX10_end__44 : decode cX10_end_ 44 = .ok (.if_icmp .ne 5, 3) := by decide +kernel
theorem dX10_end__47 : decode cX10_end_ 47 = .ok (.iconst (-1), 1) := by decide +kernel
theorem dX10_end__48 : decode cX10_end_ 48 = .ok (.ireturn, 1) := by decide +kernel
theorem dX10_end__49 : decode cX10_end_ 49 = .ok (.iload 4, 2) := by decide +kernel
theorem dX10_end__51 : decode cX10_end_ 51 = .ok (.iload 6, 2) := by decide +kernel
theorem dX10_end__53 : decode cX10_end_ 53 = .ok (.invokestatic 109, 3) := by decide +kernel
theorem dX10_end__56 : decode cX10_end_ 56 = .ok (.istore 4, 2) := by decide +kernel
theorem dX10_end__58 : decode cX10_end_ 58 = .ok (.iinc 5 1, 3) := by decide +kernel
theorem dX10_end__61 : decode cX10_end_ 61 = .ok (.goto (-55), 3) := by decide +kernel
theorem dX10_end__64 : decode cX10_end_ 64 = .ok (.iload 4, 2) := by decide +kernel
theorem dX10_end__66 : decode cX10_end_ 66 = .ok (.ireturn, 1) := by decide +kernel
theorem dX10_endOf_0 : decode cX10_endOf 0 = .ok (.aload_n 1, 1) := by decide +kernel
theorem dX10_endOf_1 : decode cX10_endOf 1 = .ok (.getfield 140, 3) := by decide +kernel
theorem dX10_endOf_4 : decode cX10_endOf 4 = .ok (.ifCond .eq 7, 3) := by decide +kernel
theorem dX10_endOf_7 : decode cX10_endOf 7 = .ok (.iconst (-1), 1) := by decide +kernel
theorem dX10_endOf_8 : decode cX10_endOf 8 = .ok (.goto 13, 3) := by decide +kernel
theorem dX10_endOf_11 : decode cX10_endOf 11 = .ok (.aload_n 0, 1) := by decide +kernel
theorem dX10_endOf_12 : decode cX10_endOf 12 = .ok (.aload_n 1, 1) := by decide +kernel
theorem dX10_endOf_13 : decode cX10_endOf 13 = .ok (.aload_n 1, 1) := by decide +kernel
theorem dX10_endOf_14 : decode cX10_endOf 14 = .ok (.getfield 118, 3) := by decide +kernel
theorem dX10_endOf_17 : decode cX10_endOf 17 = .ok (.i2l, 1) := by decide +kernel
theorem dX10_endOf_18 : decode cX10_endOf 18 = .ok (.invokevirtual 143, 3) := by decide +kernel
theorem dX10_endOf_21 : decode cX10_endOf 21 = .ok (.ireturn, 1) := by decide +kernel
theorem dX10_seatsTaken_0 : decode cX10_seatsTaken 0 = .ok (.iconst 0, 1) := by decide +kernel
theorem dX10_seatsTaken_1 : decode cX10_seatsTaken 1 = .ok (.istore_n 2, 1) := by decide +kernel
theorem dX10_seatsTaken_2 : decode cX10_seatsTaken 2 = .ok (.aload_n 0, 1) := by decide +kernel
theorem dX10_seatsTaken_3 : decode cX10_seatsTaken 3 = .ok (.getfield 32, 3) := by decide +kernel
theorem dX10_seatsTaken_6 : decode cX10_seatsTaken 6 = .ok (.invokevirtual 146, 3) := by decide +kernel
theorem dX10_seatsTaken_9 : decode cX10_seatsTaken 9 = .ok (.astore_n 3, 1) := by decide +kernel
theorem dX10_seatsTaken_10 : decode cX10_seatsTaken 10 = .ok (.aload_n 3, 1) := by decide +kernel
theorem dX10_seatsTaken_11 : decode cX10_seatsTaken 11 = .ok (.invokeinterface 150 1, 5) := by decide +kernel
theorem dX10_seatsTaken_16 : decode cX10_seatsTaken 16 = .ok (.ifCond .eq 53, 3) := by decide +kernel
theorem dX10_seatsTaken_19 : decode cX10_seatsTaken 19 = .ok (.aload_n 3, 1) := by decide +kernel
theorem dX10_seatsTaken_20 : decode cX10_seatsTaken 20 = .ok (.invokeinterface 156 1, 5) := by decide +kernel
theorem dX10_seatsTaken_25 : decode cX10_seatsTaken 25 = .ok (.checkcast 64, 3) := by decide +kernel
theorem dX10_seatsTaken_28 : decode cX10_seatsTaken 28 = .ok (.astore 4, 2) := by decide +kernel
theorem dX10_seatsTaken_30 : decode cX10_seatsTaken 30 = .ok (.iconst 0, 1) := by decide +kernel
theorem dX10_seatsTaken_31 : decode cX10_seatsTaken 31 = .ok (.istore 5, 2) := by decide +kernel
theorem dX10_seatsTaken_33 : decode cX10_seatsTaken 33 = .ok (.iload 5, 2) := by decide +kernel
theorem dX10_seatsTaken_35 : decode cX10_seatsTaken 35 = .ok (.bipush 12, 2) := by decide +kernel
theorem dX10_seatsTaken_37 : decode cX10_seatsTaken 37 = .ok (.if_icmp .ge 29, 3) := by decide +kernel
theorem dX10_seatsTaken_40 : decode cX10_seatsTaken 40 = .ok (.iload_n 2, 1) := by decide +kernel
theorem dX10_seatsTaken_41 : decode cX10_seatsTaken 41 = .ok (.aload 4, 2) := by decide +kernel
theorem dX10_seatsTaken_43 : decode cX10_seatsTaken 43 = .ok (.getfield 126, 3) := by decide +kernel
theorem dX10_seatsTaken_46 : decode cX10_seatsTaken 46 = .ok (.iload 5, 2) := by decide +kernel
theorem dX10_seatsTaken_48 : decode cX10_seatsTaken 48 = .ok (.iaload, 1) := by decide +kernel
theorem dX10_seatsTaken_49 : decode cX10_seatsTaken 49 = .ok (.iload_n 1, 1) := by decide +kernel
theorem dX10_seatsTaken_50 : decode cX10_seatsTaken 50 = .ok (.if_icmp .ne 7, 3) := by decide +kernel
theorem dX10_seatsTaken_53 : decode cX10_seatsTaken 53 = .ok (.iconst 1, 1) := by decide +kernel
theorem dX10_seatsTaken_54 : decode cX10_seatsTaken 54 = .ok (.goto 4, 3) := by decide +kernel
theorem dX10_seatsTaken_57 : decode cX10_seatsTaken 57 = .ok (.iconst 0, 1) := by decide +kernel
theorem dX10_seatsTaken_58 : decode cX10_seatsTaken 58 = .ok (.iadd, 1) := by decide +kernel
theorem dX10_seatsTaken_59 : decode cX10_seatsTaken 59 = .ok (.istore_n 2, 1) := by decide +kernel
theorem dX10_seatsTaken_60 : decode cX10_seatsTaken 60 = .ok (.iinc 5 1, 3) := by decide +kernel
theorem dX10_seatsTaken_63 : decode cX10_seatsTaken 63 = .ok (.goto (-30), 3) := by decide +kernel
theorem dX10_seatsTaken_66 : decode cX10_seatsTaken 66 = .ok (.goto (-56), 3) := by decide +kernel
theorem dX10_seatsTaken_69 : decode cX10_seatsTaken 69 = .ok (.iload_n 2, 1) := by decide +kernel
theorem dX10_seatsTaken_70 : decode cX10_seatsTaken 70 = .ok (.ireturn, 1) := by decide +kernel
theorem dX10_sessionFor_0 : decode cX10_sessionFor 0 = .ok (.aload_n 0, 1) := by decide +kernel
theorem dX10_sessionFor_1 : decode cX10_sessionFor 1 = .ok (.aload_n 1, 1) := by decide +kernel
theorem dX10_sessionFor_2 : decode cX10_sessionFor 2 = .ok (.iload_n 2, 1) := by decide +kernel
theorem dX10_sessionFor_3 : decode cX10_sessionFor 3 = .ok (.invokevirtual 135, 3) := by decide +kernel
theorem dX10_sessionFor_6 : decode cX10_sessionFor 6 = .ok (.istore_n 3, 1) := by decide +kernel
theorem dX10_sessionFor_7 : decode cX10_sessionFor 7 = .ok (.iconst (-1), 1) := by decide +kernel
theorem dX10_sessionFor_8 : decode cX10_sessionFor 8 = .ok (.istore 4, 2) := by decide +kernel
theorem dX10_sessionFor_10 : decode cX10_sessionFor 10 = .ok (.iconst 0, 1) := by decide +kernel
theorem dX10_sessionFor_11 : decode cX10_sessionFor 11 = .ok (.istore 5, 2) := by decide +kernel
theorem dX10_sessionFor_13 : decode cX10_sessionFor 13 = .ok (.iload 5, 2) := by decide +kernel
theorem dX10_sessionFor_15 : decode cX10_sessionFor 15 = .ok (.aload_n 0, 1) := by decide +kernel
theorem dX10_sessionFor_16 : decode cX10_sessionFor 16 = .ok (.getfield 29, 3) := by decide +kernel
theorem dX10_sessionFor_19 : decode cX10_sessionFor 19 = .ok (.invokevirtual 43, 3) := by decide +kernel
theorem dX10_sessionFor_22 : decode cX10_sessionFor 22 = .ok (.if_icmp .ge 96, 3) := by decide +kernel
theorem dX10_sessionFor_25 : decode cX10_sessionFor 25 = .ok (.iload_n 3, 1) := by decide +kernel
theorem dX10_sessionFor_26 : decode cX10_sessionFor 26 = .ok (.iconst (-1), 1) := by decide +kernel
theorem dX10_sessionFor_27 : decode cX10_sessionFor 27 = .ok (.if_icmp .eq 91, 3) := by decide +kernel
theorem dX10_sessionFor_30 : decode cX10_sessionFor 30 = .ok (.aload_n 0, 1) := by decide +kernel
theorem dX10_sessionFor_31 : decode cX10_sessionFor 31 = .ok (.getfield 29, 3) := by decide +kernel
theorem dX10_sessionFor_34 : decode cX10_sessionFor 34 = .ok (.iload 5, 2) := by decide +kernel
theorem dX10_sessionFor_36 : decode cX10_sessionFor 36 = .ok (.invokevirtual 51, 3) := by decide +kernel
theorem dX10_sessionFor_39 : decode cX10_sessionFor 39 = .ok (.checkcast 129, 3) := by decide +kernel
theorem dX10_sessionFor_42 : decode cX10_sessionFor 42 = .ok (.astore 6, 2) := by decide +kernel
theorem dX10_sessionFor_44 : decode cX10_sessionFor 44 = .ok (.aload 6, 2) := by decide +kernel
theorem dX10_sessionFor_46 : decode cX10_sessionFor 46 = .ok (.getfield 160, 3) := by decide +kernel
theorem dX10_sessionFor_49 : decode cX10_sessionFor 49 = .ok (.iload_n 2, 1) := by decide +kernel
theorem dX10_sessionFor_50 : decode cX10_sessionFor 50 = .ok (.if_icmp .ne 62, 3) := by decide +kernel
theorem dX10_sessionFor_53 : decode cX10_sessionFor 53 = .ok (.aload 6, 2) := by decide +kernel
theorem dX10_sessionFor_55 : decode cX10_sessionFor 55 = .ok (.getfield 131, 3) := by decide +kernel
theorem dX10_sessionFor_58 : decode cX10_sessionFor 58 = .ok (.iload_n 3, 1) := by decide +kernel
theorem dX10_sessionFor_59 : decode cX10_sessionFor 59 = .ok (.if_icmp .lt 53, 3) := by decide +kernel
theorem dX10_sessionFor_62 : decode cX10_sessionFor 62 = .ok (.aload_n 0, 1) := by decide +kernel
theorem dX10_sessionFor_63 : decode cX10_sessionFor 63 = .ok (.iload 5, 2) := by decide +kernel
theorem dX10_sessionFor_65 : decode cX10_sessionFor 65 = .ok (.invokevirtual 163, 3) := by decide +kernel
theorem dX10_sessionFor_68 : decode cX10_sessionFor 68 = .ok (.aload 6, 2) := by decide +kernel
theorem dX10_sessionFor_70 : decode cX10_sessionFor 70 = .ok (.getfield 166, 3) := by decide +kernel
theorem dX10_sessionFor_73 : decode cX10_sessionFor 73 = .ok (.if_icmp .lt 6, 3) := by decide +kernel
theorem dX10_sessionFor_76 : decode cX10_sessionFor 76 = .ok (.goto 36, 3) := by decide +kernel
theorem dX10_sessionFor_79 : decode cX10_sessionFor 79 = .ok (.iload 4, 2) := by decide +kernel
theorem dX10_sessionFor_81 : decode cX10_sessionFor 81 = .ok (.iconst (-1), 1) := by decide +kernel
theorem dX10_sessionFor_82 : decode cX10_sessionFor 82 = .ok (.if_icmp .eq 26, 3) := by decide +kernel
theorem dX10_sessionFor_85 : decode cX10_sessionFor 85 = .ok (.aload 6, 2) := by decide +kernel
theorem dX10_sessionFor_87 : decode cX10_sessionFor 87 = .ok (.getfield 131, 3) := by decide +kernel
theorem dX10_sessionFor_90 : decode cX10_sessionFor 90 = .ok (.aload_n 0, 1) := by decide +kernel
theorem dX10_sessionFor_91 : decode cX10_sessionFor 91 = .ok (.getfield 29, 3) := by decide +kernel
theorem dX10_sessionFor_94 : decode cX10_sessionFor 94 = .ok (.iload 4, 2) := by decide +kernel
theorem dX10_sessionFor_96 : decode cX10_sessionFor 96 = .ok (.invokevirtual 51, 3) := by decide +kernel
theorem dX10_sessionFor_99 : decode cX10_sessionFor 99 = .ok (.checkcast 129, 3) := by decide +kernel
theorem dX10_sessionFor_102 : decode cX10_sessionFor 102 = .ok (.getfield 131, 3) := by decide +kernel
theorem dX10_sessionFor_105 : decode cX10_sessionFor 105 = .ok (.if_icmp .ge 7, 3) := by decide +kernel
theorem dX10_sessionFor_108 : decode cX10_sessionFor 108 = .ok (.iload 5, 2) := by decide +kernel
theorem dX10_sessionFor_110 : decode cX10_sessionFor 110 = .ok (.istore 4, 2) := by decide +kernel
theorem dX10_sessionFor_112 : decode cX10_sessionFor 112 = .ok (.iinc 5 1, 3) := by decide +kernel
theorem dX10_sessionFor_115 : decode cX10_sessionFor 115 = .ok (.goto (-102), 3) := by decide +kernel
theorem dX10_sessionFor_118 : decode cX10_sessionFor 118 = .ok (.iload 4, 2) := by decide +kernel
theorem dX10_sessionFor_120 : decode cX10_sessionFor 120 = .ok (.ireturn, 1) := by decide +kernel
theorem dX10_bookAll_0 : decode cX10_bookAll 0 = .ok (.aload_n 0, 1) := by decide +kernel
theorem dX10_bookAll_1 : decode cX10_bookAll 1 = .ok (.getfield 32, 3) := by decide +kernel
theorem dX10_bookAll_4 : decode cX10_bookAll 4 = .ok (.invokevirtual 146, 3) := by decide +kernel
theorem dX10_bookAll_7 : decode cX10_bookAll 7 = .ok (.astore_n 1, 1) := by decide +kernel
theorem dX10_bookAll_8 : decode cX10_bookAll 8 = .ok (.aload_n 1, 1) := by decide +kernel
theorem dX10_bookAll_9 : decode cX10_bookAll 9 = .ok (.invokeinterface 150 1, 5) := by decide +kernel
theorem dX10_bookAll_14 : decode cX10_bookAll 14 = .ok (.ifCond .eq 91, 3) := by decide +kernel
theorem dX10_bookAll_17 : decode cX10_bookAll 17 = .ok (.aload_n 1, 1) := by decide +kernel
theorem dX10_bookAll_18 : decode cX10_bookAll 18 = .ok (.invokeinterface 156 1, 5) := by decide +kernel
theorem dX10_bookAll_23 : decode cX10_bookAll 23 = .ok (.checkcast 64, 3) := by decide +kernel
theorem dX10_bookAll_26 : decode cX10_bookAll 26 = .ok (.astore_n 2, 1) := by decide +kernel
theorem dX10_bookAll_27 : decode cX10_bookAll 27 = .ok (.iconst 0, 1) := by decide +kernel
theorem dX10_bookAll_28 : decode cX10_bookAll 28 = .ok (.istore_n 3, 1) := by decide +kernel
theorem dX10_bookAll_29 : decode cX10_bookAll 29 = .ok (.iload_n 3, 1) := by decide +kernel
theorem dX10_bookAll_30 : decode cX10_bookAll 30 = .ok (.aload_n 0, 1) := by decide +kernel
theorem dX10_bookAll_31 : decode cX10_bookAll 31 = .ok (.getfield 10, 3) := by decide +kernel
theorem dX10_bookAll_34 : decode cX10_bookAll 34 = .ok (.invokevirtual 43, 3) := by decide +kernel
theorem dX10_bookAll_37 : decode cX10_bookAll 37 = .ok (.if_icmp .ge 65, 3) := by decide +kernel
theorem dX10_bookAll_40 : decode cX10_bookAll 40 = .ok (.aload_n 2, 1) := by decide +kernel
theorem dX10_bookAll_41 : decode cX10_bookAll 41 = .ok (.getfield 140, 3) := by decide +kernel
theorem dX10_bookAll_44 : decode cX10_bookAll 44 = .ok (.ifCond .ne 52, 3) := by decide +kernel
theorem dX10_bookAll_47 : decode cX10_bookAll 47 = .ok (.aload_n 2, 1) := by decide +kernel
theorem dX10_bookAll_48 : decode cX10_bookAll 48 = .ok (.iload_n 3, 1) := by decide +kernel
theorem dX10_bookAll_49 : decode cX10_bookAll 49 = .ok (.iconst 0, 1) := by decide +kernel
theorem dX10_bookAll_50 : decode cX10_bookAll 50 = .ok (.invokevirtual 63, 3) := by decide +kernel
theorem dX10_bookAll_53 : decode cX10_bookAll 53 = .ok (.ifCond .eq 43, 3) := by decide +kernel
theorem dX10_bookAll_56 : decode cX10_bookAll 56 = .ok (.aload_n 0, 1) := by decide +kernel
theorem dX10_bookAll_57 : decode cX10_bookAll 57 = .ok (.getfield 10, 3) := by decide +kernel
theorem dX10_bookAll_60 : decode cX10_bookAll 60 = .ok (.iload_n 3, 1) := by decide +kernel
theorem dX10_bookAll_61 : decode cX10_bookAll 61 = .ok (.invokevirtual 51, 3) := by decide +kernel
theorem dX10_bookAll_64 : decode cX10_bookAll 64 = .ok (.checkcast 55, 3) := by decide +kernel
theorem dX10_bookAll_67 : decode cX10_bookAll 67 = .ok (.getfield 60, 3) := by decide +kernel
theorem dX10_bookAll_70 : decode cX10_bookAll 70 = .ok (.iconst 2, 1) := by decide +kernel
theorem dX10_bookAll_71 : decode cX10_bookAll 71 = .ok (.if_icmp .ne 25, 3) := by decide +kernel
theorem dX10_bookAll_74 : decode cX10_bookAll 74 = .ok (.aload_n 2, 1) := by decide +kernel
theorem dX10_bookAll_75 : decode cX10_bookAll 75 = .ok (.getfield 126, 3) := by decide +kernel
theorem dX10_bookAll_78 : decode cX10_bookAll 78 = .ok (.iload_n 3, 1) := by decide +kernel
theorem dX10_bookAll_79 : decode cX10_bookAll 79 = .ok (.iaload, 1) := by decide +kernel
theorem dX10_bookAll_80 : decode cX10_bookAll 80 = .ok (.iconst (-1), 1) := by decide +kernel
theorem dX10_bookAll_81 : decode cX10_bookAll 81 = .ok (.if_icmp .ne 15, 3) := by decide +kernel
theorem dX10_bookAll_84 : decode cX10_bookAll 84 = .ok (.aload_n 2, 1) := by decide +kernel
theorem dX10_bookAll_85 : decode cX10_bookAll 85 = .ok (.getfield 126, 3) := by decide +kernel
theorem dX10_bookAll_88 : decode cX10_bookAll 88 = .ok (.iload_n 3, 1) := by decide +kernel
theorem dX10_bookAll_89 : decode cX10_bookAll 89 = .ok (.aload_n 0, 1) := by decide +kernel
theorem dX10_bookAll_90 : decode cX10_bookAll 90 = .ok (.aload_n 2, 1) := by decide +kernel
theorem dX10_bookAll_91 : decode cX10_bookAll 91 = .ok (.iload_n 3, 1) := by decide +kernel
theorem dX10_bookAll_92 : decode cX10_bookAll 92 = .ok (.invokevirtual 169, 3) := by decide +kernel
theorem dX10_bookAll_95 : decode cX10_bookAll 95 = .ok (.iastore, 1) := by decide +kernel
theorem dX10_bookAll_96 : decode cX10_bookAll 96 = .ok (.iinc 3 1, 3) := by decide +kernel
theorem dX10_bookAll_99 : decode cX10_bookAll 99 = .ok (.goto (-70), 3) := by decide +kernel
theorem dX10_bookAll_102 : decode cX10_bookAll 102 = .ok (.goto (-94), 3) := by decide +kernel
theorem dX10_bookAll_105 : decode cX10_bookAll 105 = .ok (.return_, 1) := by decide +kernel
theorem dX10_isReady_0 : decode cX10_isReady 0 = .ok (.aload_n 1, 1) := by decide +kernel
theorem dX10_isReady_1 : decode cX10_isReady 1 = .ok (.getfield 140, 3) := by decide +kernel
theorem dX10_isReady_4 : decode cX10_isReady 4 = .ok (.ifCond .ne 48, 3) := by decide +kernel
theorem dX10_isReady_7 : decode cX10_isReady 7 = .ok (.aload_n 1, 1) := by decide +kernel
theorem dX10_isReady_8 : decode cX10_isReady 8 = .ok (.iload_n 2, 1) := by decide +kernel
theorem dX10_isReady_9 : decode cX10_isReady 9 = .ok (.iconst 0, 1) := by decide +kernel
theorem dX10_isReady_10 : decode cX10_isReady 10 = .ok (.invokevirtual 63, 3) := by decide +kernel
theorem dX10_isReady_13 : decode cX10_isReady 13 = .ok (.ifCond .eq 39, 3) := by decide +kernel
theorem dX10_isReady_16 : decode cX10_isReady 16 = .ok (.aload_n 1, 1) := by decide +kernel
theorem dX10_isReady_17 : decode cX10_isReady 17 = .ok (.getfield 106, 3) := by decide +kernel
theorem dX10_isReady_20 : decode cX10_isReady 20 = .ok (.aload_n 0, 1) := by decide +kernel
theorem dX10_isReady_21 : decode cX10_isReady 21 = .ok (.getfield 103, 3) := by decide +kernel
theorem dX10_isReady_24 : decode cX10_isReady 24 = .ok (.if_icmp .gt 28, 3) := by decide +kernel
theorem dX10_isReady_27 : decode cX10_isReady 27 = .ok (.aload_n 1, 1) := by decide +kernel
theorem dX10_isReady_28 : decode cX10_isReady 28 = .ok (.aload_n 0, 1) := by decide +kernel
theorem dX10_isReady_29 : decode cX10_isReady 29 = .ok (.getfield 10, 3) := by decide +kernel
theorem dX10_isReady_32 : decode cX10_isReady 32 = .ok (.iload_n 2, 1) := by decide +kernel
theorem dX10_isReady_33 : decode cX10_isReady 33 = .ok (.invokevirtual 51, 3) := by decide +kernel
theorem dX10_isReady_36 : decode cX10_isReady 36 = .ok (.checkcast 55, 3) := by decide +kernel
theorem dX10_isReady_39 : decode cX10_isReady 39 = .ok (.getfield 115, 3) := by decide +kernel
theorem dX10_isReady_42 : decode cX10_isReady 42 = .ok (.invokevirtual 172, 3) := by decide +kernel
theorem dX10_isReady_45 : decode cX10_isReady 45 = .ok (.ifCond .eq 7, 3) := by decide +kernel
theorem dX10_isReady_48 : decode cX10_isReady 48 = .ok (.iconst 1, 1) := by decide +kernel
theorem dX10_isReady_49 : decode cX10_isReady 49 = .ok (.goto 4, 3) := by decide +kernel
theorem dX10_isReady_52 : decode cX10_isReady 52 = .ok (.iconst 0, 1) := by decide +kernel
theorem dX10_isReady_53 : decode cX10_isReady 53 = .ok (.ireturn, 1) := by decide +kernel
theorem dX10_isToday_0 : decode cX10_isToday 0 = .ok (.aload_n 1, 1) := by decide +kernel
theorem dX10_isToday_1 : decode cX10_isToday 1 = .ok (.getfield 126, 3) := by decide +kernel
theorem dX10_isToday_4 : decode cX10_isToday 4 = .ok (.iload_n 2, 1) := by decide +kernel
theorem dX10_isToday_5 : decode cX10_isToday 5 = .ok (.iaload, 1) := by decide +kernel
theorem dX10_isToday_6 : decode cX10_isToday 6 = .ok (.iconst (-1), 1) := by decide +kernel
theorem dX10_isToday_7 : decode cX10_isToday 7 = .ok (.if_icmp .eq 33, 3) := by decide +kernel
theorem dX10_isToday_10 : decode cX10_isToday 10 = .ok (.aload_n 0, 1) := by decide +kernel
theorem dX10_isToday_11 : decode cX10_isToday 11 = .ok (.getfield 29, 3) := by decide +kernel
theorem dX10_isToday_14 : decode cX10_isToday 14 = .ok (.aload_n 1, 1) := by decide +kernel
theorem dX10_isToday_15 : decode cX10_isToday 15 = .ok (.getfield 126, 3) := by decide +kernel
theorem dX10_isToday_18 : decode cX10_isToday 18 = .ok (.iload_n 2, 1) := by decide +kernel
theorem dX10_isToday_19 : decode cX10_isToday 19 = .ok (.iaload, 1) := by decide +kernel
theorem dX10_isToday_20 : decode cX10_isToday 20 = .ok (.invokevirtual 51, 3) := by decide +kernel
theorem dX10_isToday_23 : decode cX10_isToday 23 = .ok (.checkcast 129, 3) := by decide +kernel
theorem dX10_isToday_26 : decode cX10_isToday 26 = .ok (.getfield 131, 3) := by decide +kernel
theorem dX10_isToday_29 : decode cX10_isToday 29 = .ok (.aload_n 0, 1) := by decide +kernel
theorem dX10_isToday_30 : decode cX10_isToday 30 = .ok (.getfield 103, 3) := by decide +kernel
theorem dX10_isToday_33 : decode cX10_isToday 33 = .ok (.if_icmp .ne 7, 3) := by decide +kernel
theorem dX10_isToday_36 : decode cX10_isToday 36 = .ok (.iconst 1, 1) := by decide +kernel
theorem dX10_isToday_37 : decode cX10_isToday 37 = .ok (.goto 4, 3) := by decide +kernel
theorem dX10_isToday_40 : decode cX10_isToday 40 = .ok (.iconst 0, 1) := by decide +kernel
theorem dX10_isToday_41 : decode cX10_isToday 41 = .ok (.ireturn, 1) := by decide +kernel
theorem dX10_canBegin_0 : decode cX10_canBegin 0 = .ok (.aload_n 0, 1) := by decide +kernel
theorem dX10_canBegin_1 : decode cX10_canBegin 1 = .ok (.getfield 10, 3) := by decide +kernel
theorem dX10_canBegin_4 : decode cX10_canBegin 4 = .ok (.iload_n 2, 1) := by decide +kernel
theorem dX10_canBegin_5 : decode cX10_canBegin 5 = .ok (.invokevirtual 51, 3) := by decide +kernel
theorem dX10_canBegin_8 : decode cX10_canBegin 8 = .ok (.checkcast 55, 3) := by decide +kernel
theorem dX10_canBegin_11 : decode cX10_canBegin 11 = .ok (.astore_n 3, 1) := by decide +kernel
theorem dX10_canBegin_12 : decode cX10_canBegin 12 = .ok (.aload_n 0, 1) := by decide +kernel
theorem dX10_canBegin_13 : decode cX10_canBegin 13 = .ok (.aload_n 1, 1) := by decide +kernel
theorem dX10_canBegin_14 : decode cX10_canBegin 14 = .ok (.iload_n 2, 1) := by decide +kernel
theorem dX10_canBegin_15 : decode cX10_canBegin 15 = .ok (.invokevirtual 176, 3) := by decide +kernel
theorem dX10_canBegin_18 : decode cX10_canBegin 18 = .ok (.ifCond .ne 5, 3) := by decide +kernel
theorem dX10_canBegin_21 : decode cX10_canBegin 21 = .ok (.iconst 0, 1) := by decide +kernel
theorem dX10_canBegin_22 : decode cX10_canBegin 22 = .ok (.ireturn, 1) := by decide +kernel
theorem dX10_canBegin_23 : decode cX10_canBegin 23 = .ok (.aload_n 3, 1) := by decide +kernel
theorem dX10_canBegin_24 : decode cX10_canBegin 24 = .ok (.getfield 60, 3) := by decide +kernel
theorem dX10_canBegin_27 : decode cX10_canBegin 27 = .ok (.iconst 1, 1) := by decide +kernel
theorem dX10_canBegin_28 : decode cX10_canBegin 28 = .ok (.if_icmp .ne 23, 3) := by decide +kernel
theorem dX10_canBegin_31 : decode cX10_canBegin 31 = .ok (.aload_n 0, 1) := by decide +kernel
theorem dX10_canBegin_32 : decode cX10_canBegin 32 = .ok (.getfield 23, 3) := by decide +kernel
theorem dX10_canBegin_35 : decode cX10_canBegin 35 = .ok (.aload_n 3, 1) := by decide +kernel
theorem dX10_canBegin_36 : decode cX10_canBegin 36 = .ok (.getfield 57, 3) := by decide +kernel
theorem dX10_canBegin_39 : decode cX10_canBegin 39 = .ok (.iaload, 1) := by decide +kernel
theorem dX10_canBegin_40 : decode cX10_canBegin 40 = .ok (.ifCond .le 7, 3) := by decide +kernel
theorem dX10_canBegin_43 : decode cX10_canBegin 43 = .ok (.iconst 1, 1) := by decide +kernel
theorem dX10_canBegin_44 : decode cX10_canBegin 44 = .ok (.goto 29, 3) := by decide +kernel
theorem dX10_canBegin_47 : decode cX10_canBegin 47 = .ok (.iconst 0, 1) := by decide +kernel
theorem dX10_canBegin_48 : decode cX10_canBegin 48 = .ok (.goto 25, 3) := by decide +kernel
theorem dX10_canBegin_51 : decode cX10_canBegin 51 = .ok (.aload_n 3, 1) := by decide +kernel
theorem dX10_canBegin_52 : decode cX10_canBegin 52 = .ok (.getfield 60, 3) := by decide +kernel
theorem dX10_canBegin_55 : decode cX10_canBegin 55 = .ok (.iconst 2, 1) := by decide +kernel
theorem dX10_canBegin_56 : decode cX10_canBegin 56 = .ok (.if_icmp .ne 12, 3) := by decide +kernel
theorem dX10_canBegin_59 : decode cX10_canBegin 59 = .ok (.aload_n 0, 1) := by decide +kernel
theorem dX10_canBegin_60 : decode cX10_canBegin 60 = .ok (.aload_n 1, 1) := by decide +kernel
theorem dX10_canBegin_61 : decode cX10_canBegin 61 = .ok (.iload_n 2, 1) := by decide +kernel
theorem dX10_canBegin_62 : decode cX10_canBegin 62 = .ok (.invokevirtual 180, 3) := by decide +kernel
theorem dX10_canBegin_65 : decode cX10_canBegin 65 = .ok (.ifCond .eq 7, 3) := by decide +kernel
theorem dX10_canBegin_68 : decode cX10_canBegin 68 = .ok (.iconst 1, 1) := by decide +kernel
theorem dX10_canBegin_69 : decode cX10_canBegin 69 = .ok (.goto 4, 3) := by decide +kernel
theorem dX10_canBegin_72 : decode cX10_canBegin 72 = .ok (.iconst 0, 1) := by decide +kernel
theorem dX10_canBegin_73 : decode cX10_canBegin 73 = .ok (.ireturn, 1) := by decide +kernel
theorem dX10_begin_0 : decode cX10_begin 0 = .ok (.aload_n 1, 1) := by decide +kernel
theorem dX10_begin_1 : decode cX10_begin 1 = .ok (.getfield 78, 3) := by decide +kernel
theorem dX10_begin_4 : decode cX10_begin 4 = .ok (.iload_n 2, 1) := by decide +kernel
theorem dX10_begin_5 : decode cX10_begin 5 = .ok (.aload_n 0, 1) := by decide +kernel
theorem dX10_begin_6 : decode cX10_begin 6 = .ok (.aload_n 1, 1) := by decide +kernel
theorem dX10_begin_7 : decode cX10_begin 7 = .ok (.iload_n 2, 1) := by decide +kernel
theorem dX10_begin_8 : decode cX10_begin 8 = .ok (.invokevirtual 138, 3) := by decide +kernel
theorem dX10_begin_11 : decode cX10_begin 11 = .ok (.iastore, 1) := by decide +kernel
theorem dX10_begin_12 : decode cX10_begin 12 = .ok (.aload_n 1, 1) := by decide +kernel
theorem dX10_begin_13 : decode cX10_begin 13 = .ok (.getfield 75, 3) := by decide +kernel
theorem dX10_begin_16 : decode cX10_begin 16 = .ok (.iload_n 2, 1) := by decide +kernel
theorem dX10_begin_17 : decode cX10_begin 17 = .ok (.iconst 1, 1) := by decide +kernel
theorem dX10_begin_18 : decode cX10_begin 18 = .ok (.iastore, 1) := by decide +kernel
theorem dX10_begin_19 : decode cX10_begin 19 = .ok (.aload_n 1, 1) := by decide +kernel
theorem dX10_begin_20 : decode cX10_begin 20 = .ok (.getfield 100, 3) := by decide +kernel
theorem dX10_begin_23 : decode cX10_begin 23 = .ok (.iload_n 2, 1) := by decide +kernel
theorem dX10_begin_24 : decode cX10_begin 24 = .ok (.aload_n 0, 1) := by decide +kernel
theorem dX10_begin_25 : decode cX10_begin 25 = .ok (.getfield 103, 3) := by decide +kernel
theorem dX10_begin_28 : decode cX10_begin 28 = .ok (.iastore, 1) := by decide +kernel
theorem dX10_begin_29 : decode cX10_begin 29 = .ok (.aload_n 0, 1) := by decide +kernel
theorem dX10_begin_30 : decode cX10_begin 30 = .ok (.getfield 10, 3) := by decide +kernel
theorem dX10_begin_33 : decode cX10_begin 33 = .ok (.iload_n 2, 1) := by decide +kernel
theorem dX10_begin_34 : decode cX10_begin 34 = .ok (.invokevirtual 51, 3) := by decide +kernel
theorem dX10_begin_37 : decode cX10_begin 37 = .ok (.checkcast 55, 3) := by decide +kernel
theorem dX10_begin_40 : decode cX10_begin 40 = .ok (.getfield 60, 3) := by decide +kernel
theorem dX10_begin_43 : decode cX10_begin 43 = .ok (.iconst 1, 1) := by decide +kernel
theorem dX10_begin_44 : decode cX10_begin 44 = .ok (.if_icmp .ne 26, 3) := by decide +kernel
theorem dX10_begin_47 : decode cX10_begin 47 = .ok (.aload_n 0, 1) := by decide +kernel
theorem dX10_begin_48 : decode cX10_begin 48 = .ok (.getfield 23, 3) := by decide +kernel
end
section
theorem dX10_begin_51 : decode cX10_begin 51 = .ok (.aload_n 0, 1) := by decide +kernel
theorem dX10_begin_52 : decode cX10_begin 52 = .ok (.getfield 10, 3) := by decide +kernel
theorem dX10_begin_55 : decode cX10_begin 55 = .ok (.iload_n 2, 1) := by decide +kernel
theorem dX10_begin_56 : decode cX10_begin 56 = .ok (.invokevirtual 51, 3) := by decide +kernel
theorem dX10_begin_59 : decode cX10_begin 59 = .ok (.checkcast 55, 3) := by decide +kernel
theorem dX10_begin_62 : decode cX10_begin 62 = .ok (.getfield 57, 3) := by decide +kernel
theorem dX10_begin_65 : decode cX10_begin 65 = .ok (.dup2, 1) := by decide +kernel
theorem dX10_begin_66 : decode cX10_begin 66 = .ok (.iaload, 1) := by decide +kernel
theorem dX10_begin_67 : decode cX10_begin 67 = .ok (.iconst 1, 1) := by decide +kernel
theorem dX10_begin_68 : decode cX10_begin 68 = .ok (.isub, 1) := by decide +kernel
theorem dX10_begin_69 : decode cX10_begin 69 = .ok (.iastore, 1) := by decide +kernel
theorem dX10_begin_70 : decode cX10_begin 70 = .ok (.return_, 1) := by decide +kernel
theorem dX10_takeBack_0 : decode cX10_takeBack 0 = .ok (.aload_n 1, 1) := by decide +kernel
theorem dX10_takeBack_1 : decode cX10_takeBack 1 = .ok (.invokevirtual 183, 3) := by decide +kernel
theorem dX10_takeBack_4 : decode cX10_takeBack 4 = .ok (.istore_n 2, 1) := by decide +kernel
theorem dX10_takeBack_5 : decode cX10_takeBack 5 = .ok (.iload_n 2, 1) := by decide +kernel
theorem dX10_takeBack_6 : decode cX10_takeBack 6 = .ok (.iconst (-1), 1) := by decide +kernel
theorem dX10_takeBack_7 : decode cX10_takeBack 7 = .ok (.if_icmp .ne 4, 3) := by decide +kernel
theorem dX10_takeBack_10 : decode cX10_takeBack 10 = .ok (.return_, 1) := by decide +kernel
theorem dX10_takeBack_11 : decode cX10_takeBack 11 = .ok (.aload_n 1, 1) := by decide +kernel
theorem dX10_takeBack_12 : decode cX10_takeBack 12 = .ok (.getfield 75, 3) := by decide +kernel
theorem dX10_takeBack_15 : decode cX10_takeBack 15 = .ok (.iload_n 2, 1) := by decide +kernel
theorem dX10_takeBack_16 : decode cX10_takeBack 16 = .ok (.iconst 3, 1) := by decide +kernel
theorem dX10_takeBack_17 : decode cX10_takeBack 17 = .ok (.iastore, 1) := by decide +kernel
theorem dX10_takeBack_18 : decode cX10_takeBack 18 = .ok (.aload_n 0, 1) := by decide +kernel
theorem dX10_takeBack_19 : decode cX10_takeBack 19 = .ok (.getfield 10, 3) := by decide +kernel
theorem dX10_takeBack_22 : decode cX10_takeBack 22 = .ok (.iload_n 2, 1) := by decide +kernel
theorem dX10_takeBack_23 : decode cX10_takeBack 23 = .ok (.invokevirtual 51, 3) := by decide +kernel
theorem dX10_takeBack_26 : decode cX10_takeBack 26 = .ok (.checkcast 55, 3) := by decide +kernel
theorem dX10_takeBack_29 : decode cX10_takeBack 29 = .ok (.getfield 60, 3) := by decide +kernel
theorem dX10_takeBack_32 : decode cX10_takeBack 32 = .ok (.iconst 1, 1) := by decide +kernel
theorem dX10_takeBack_33 : decode cX10_takeBack 33 = .ok (.if_icmp .ne 26, 3) := by decide +kernel
theorem dX10_takeBack_36 : decode cX10_takeBack 36 = .ok (.aload_n 0, 1) := by decide +kernel
theorem dX10_takeBack_37 : decode cX10_takeBack 37 = .ok (.getfield 23, 3) := by decide +kernel
theorem dX10_takeBack_40 : decode cX10_takeBack 40 = .ok (.aload_n 0, 1) := by decide +kernel
theorem dX10_takeBack_41 : decode cX10_takeBack 41 = .ok (.getfield 10, 3) := by decide +kernel
theorem dX10_takeBack_44 : decode cX10_takeBack 44 = .ok (.iload_n 2, 1) := by decide +kernel
theorem dX10_takeBack_45 : decode cX10_takeBack 45 = .ok (.invokevirtual 51, 3) := by decide +kernel
theorem dX10_takeBack_48 : decode cX10_takeBack 48 = .ok (.checkcast 55, 3) := by decide +kernel
theorem dX10_takeBack_51 : decode cX10_takeBack 51 = .ok (.getfield 57, 3) := by decide +kernel
theorem dX10_takeBack_54 : decode cX10_takeBack 54 = .ok (.dup2, 1) := by decide +kernel
theorem dX10_takeBack_55 : decode cX10_takeBack 55 = .ok (.iaload, 1) := by decide +kernel
theorem dX10_takeBack_56 : decode cX10_takeBack 56 = .ok (.iconst 1, 1) := by decide +kernel
theorem dX10_takeBack_57 : decode cX10_takeBack 57 = .ok (.iadd, 1) := by decide +kernel
theorem dX10_takeBack_58 : decode cX10_takeBack 58 = .ok (.iastore, 1) := by decide +kernel
theorem dX10_takeBack_59 : decode cX10_takeBack 59 = .ok (.return_, 1) := by decide +kernel
theorem dX10_day_0 : decode cX10_day 0 = .ok (.aload_n 0, 1) := by decide +kernel
theorem dX10_day_1 : decode cX10_day 1 = .ok (.aload_n 0, 1) := by decide +kernel
theorem dX10_day_2 : decode cX10_day 2 = .ok (.getfield 103, 3) := by decide +kernel
theorem dX10_day_5 : decode cX10_day 5 = .ok (.sipush 199, 3) := by decide +kernel
theorem dX10_day_8 : decode cX10_day 8 = .ok (.if_icmp .ne 7, 3) := by decide +kernel
theorem dX10_day_11 : decode cX10_day 11 = .ok (.iconst 1, 1) := by decide +kernel
theorem dX10_day_12 : decode cX10_day 12 = .ok (.goto 4, 3) := by decide +kernel
theorem dX10_day_15 : decode cX10_day 15 = .ok (.iconst 0, 1) := by decide +kernel
theorem dX10_day_16 : decode cX10_day 16 = .ok (.iconst 1, 1) := by decide +kernel
theorem dX10_day_17 : decode cX10_day 17 = .ok (.invokevirtual 186, 3) := by decide +kernel
theorem dX10_day_20 : decode cX10_day 20 = .ok (.ifCond .eq 5, 3) := by decide +kernel
theorem dX10_day_23 : decode cX10_day 23 = .ok (.iconst 0, 1) := by decide +kernel
theorem dX10_day_24 : decode cX10_day 24 = .ok (.ireturn, 1) := by decide +kernel
theorem dX10_day_25 : decode cX10_day 25 = .ok (.aload_n 0, 1) := by decide +kernel
theorem dX10_day_26 : decode cX10_day 26 = .ok (.dup, 1) := by decide +kernel
theorem dX10_day_27 : decode cX10_day 27 = .ok (.getfield 103, 3) := by decide +kernel
theorem dX10_day_30 : decode cX10_day 30 = .ok (.iconst 1, 1) := by decide +kernel
theorem dX10_day_31 : decode cX10_day 31 = .ok (.iadd, 1) := by decide +kernel
theorem dX10_day_32 : decode cX10_day 32 = .ok (.putfield 103, 3) := by decide +kernel
theorem dX10_day_35 : decode cX10_day 35 = .ok (.aload_n 0, 1) := by decide +kernel
theorem dX10_day_36 : decode cX10_day 36 = .ok (.getfield 26, 3) := by decide +kernel
theorem dX10_day_39 : decode cX10_day 39 = .ok (.invokevirtual 146, 3) := by decide +kernel
theorem dX10_day_42 : decode cX10_day 42 = .ok (.astore_n 1, 1) := by decide +kernel
theorem dX10_day_43 : decode cX10_day 43 = .ok (.aload_n 1, 1) := by decide +kernel
theorem dX10_day_44 : decode cX10_day 44 = .ok (.invokeinterface 150 1, 5) := by decide +kernel
theorem dX10_day_49 : decode cX10_day 49 = .ok (.ifCond .eq 58, 3) := by decide +kernel
theorem dX10_day_52 : decode cX10_day 52 = .ok (.aload_n 1, 1) := by decide +kernel
theorem dX10_day_53 : decode cX10_day 53 = .ok (.invokeinterface 156 1, 5) := by decide +kernel
theorem dX10_day_58 : decode cX10_day 58 = .ok (.checkcast 88, 3) := by decide +kernel
theorem dX10_day_61 : decode cX10_day 61 = .ok (.astore_n 2, 1) := by decide +kernel
theorem dX10_day_62 : decode cX10_day 62 = .ok (.aload_n 2, 1) := by decide +kernel
theorem dX10_day_63 : decode cX10_day 63 = .ok (.getfield 93, 3) := by decide +kernel
theorem dX10_day_66 : decode cX10_day 66 = .ok (.ifCond .ne (-23), 3) := by decide +kernel
theorem dX10_day_69 : decode cX10_day 69 = .ok (.aload_n 2, 1) := by decide +kernel
theorem dX10_day_70 : decode cX10_day 70 = .ok (.getfield 97, 3) := by decide +kernel
theorem dX10_day_73 : decode cX10_day 73 = .ok (.aload_n 0, 1) := by decide +kernel
theorem dX10_day_74 : decode cX10_day 74 = .ok (.getfield 103, 3) := by decide +kernel
theorem dX10_day_77 : decode cX10_day 77 = .ok (.if_icmp .eq 6, 3) := by decide +kernel
theorem dX10_day_80 : decode cX10_day 80 = .ok (.goto (-37), 3) := by decide +kernel
theorem dX10_day_83 : decode cX10_day 83 = .ok (.aload_n 2, 1) := by decide +kernel
theorem dX10_day_84 : decode cX10_day 84 = .ok (.iconst 1, 1) := by decide +kernel
theorem dX10_day_85 : decode cX10_day 85 = .ok (.putfield 93, 3) := by decide +kernel
theorem dX10_day_88 : decode cX10_day 88 = .ok (.aload_n 0, 1) := by decide +kernel
theorem dX10_day_89 : decode cX10_day 89 = .ok (.getfield 23, 3) := by decide +kernel
theorem dX10_day_92 : decode cX10_day 92 = .ok (.aload_n 2, 1) := by decide +kernel
theorem dX10_day_93 : decode cX10_day 93 = .ok (.getfield 90, 3) := by decide +kernel
theorem dX10_day_96 : decode cX10_day 96 = .ok (.dup2, 1) := by decide +kernel
theorem dX10_day_97 : decode cX10_day 97 = .ok (.iaload, 1) := by decide +kernel
theorem dX10_day_98 : decode cX10_day 98 = .ok (.aload_n 2, 1) := by decide +kernel
theorem dX10_day_99 : decode cX10_day 99 = .ok (.getfield 188, 3) := by decide +kernel
theorem dX10_day_102 : decode cX10_day 102 = .ok (.iadd, 1) := by decide +kernel
theorem dX10_day_103 : decode cX10_day 103 = .ok (.iastore, 1) := by decide +kernel
theorem dX10_day_104 : decode cX10_day 104 = .ok (.goto (-61), 3) := by decide +kernel
theorem dX10_day_107 : decode cX10_day 107 = .ok (.iconst 0, 1) := by decide +kernel
theorem dX10_day_108 : decode cX10_day 108 = .ok (.istore_n 1, 1) := by decide +kernel
theorem dX10_day_109 : decode cX10_day 109 = .ok (.aload_n 0, 1) := by decide +kernel
theorem dX10_day_110 : decode cX10_day 110 = .ok (.getfield 32, 3) := by decide +kernel
theorem dX10_day_113 : decode cX10_day 113 = .ok (.invokevirtual 146, 3) := by decide +kernel
theorem dX10_day_116 : decode cX10_day 116 = .ok (.astore_n 2, 1) := by decide +kernel
theorem dX10_day_117 : decode cX10_day 117 = .ok (.aload_n 2, 1) := by decide +kernel
theorem dX10_day_118 : decode cX10_day 118 = .ok (.invokeinterface 150 1, 5) := by decide +kernel
theorem dX10_day_123 : decode cX10_day 123 = .ok (.ifCond .eq 90, 3) := by decide +kernel
theorem dX10_day_126 : decode cX10_day 126 = .ok (.aload_n 2, 1) := by decide +kernel
theorem dX10_day_127 : decode cX10_day 127 = .ok (.invokeinterface 156 1, 5) := by decide +kernel
theorem dX10_day_132 : decode cX10_day 132 = .ok (.checkcast 64, 3) := by decide +kernel
theorem dX10_day_135 : decode cX10_day 135 = .ok (.astore_n 3, 1) := by decide +kernel
theorem dX10_day_136 : decode cX10_day 136 = .ok (.iconst 0, 1) := by decide +kernel
theorem dX10_day_137 : decode cX10_day 137 = .ok (.istore 4, 2) := by decide +kernel
theorem dX10_day_139 : decode cX10_day 139 = .ok (.iload 4, 2) := by decide +kernel
theorem dX10_day_141 : decode cX10_day 141 = .ok (.aload_n 0, 1) := by decide +kernel
theorem dX10_day_142 : decode cX10_day 142 = .ok (.getfield 10, 3) := by decide +kernel
theorem dX10_day_145 : decode cX10_day 145 = .ok (.invokevirtual 43, 3) := by decide +kernel
theorem dX10_day_148 : decode cX10_day 148 = .ok (.if_icmp .ge 62, 3) := by decide +kernel
theorem dX10_day_151 : decode cX10_day 151 = .ok (.aload_n 3, 1) := by decide +kernel
theorem dX10_day_152 : decode cX10_day 152 = .ok (.getfield 140, 3) := by decide +kernel
theorem dX10_day_155 : decode cX10_day 155 = .ok (.ifCond .ne 49, 3) := by decide +kernel
theorem dX10_day_158 : decode cX10_day 158 = .ok (.aload_n 3, 1) := by decide +kernel
theorem dX10_day_159 : decode cX10_day 159 = .ok (.iload 4, 2) := by decide +kernel
theorem dX10_day_161 : decode cX10_day 161 = .ok (.iconst 1, 1) := by decide +kernel
theorem dX10_day_162 : decode cX10_day 162 = .ok (.invokevirtual 63, 3) := by decide +kernel
theorem dX10_day_165 : decode cX10_day 165 = .ok (.ifCond .eq 39, 3) := by decide +kernel
theorem dX10_day_168 : decode cX10_day 168 = .ok (.aload_n 3, 1) := by decide +kernel
theorem dX10_day_169 : decode cX10_day 169 = .ok (.getfield 100, 3) := by decide +kernel
theorem dX10_day_172 : decode cX10_day 172 = .ok (.iload 4, 2) := by decide +kernel
theorem dX10_day_174 : decode cX10_day 174 = .ok (.iaload, 1) := by decide +kernel
theorem dX10_day_175 : decode cX10_day 175 = .ok (.aload_n 3, 1) := by decide +kernel
theorem dX10_day_176 : decode cX10_day 176 = .ok (.getfield 78, 3) := by decide +kernel
theorem dX10_day_179 : decode cX10_day 179 = .ok (.iload 4, 2) := by decide +kernel
theorem dX10_day_181 : decode cX10_day 181 = .ok (.iaload, 1) := by decide +kernel
theorem dX10_day_182 : decode cX10_day 182 = .ok (.iadd, 1) := by decide +kernel
theorem dX10_day_183 : decode cX10_day 183 = .ok (.aload_n 0, 1) := by decide +kernel
theorem dX10_day_184 : decode cX10_day 184 = .ok (.getfield 103, 3) := by decide +kernel
theorem dX10_day_187 : decode cX10_day 187 = .ok (.if_icmp .eq 6, 3) := by decide +kernel
theorem dX10_day_190 : decode cX10_day 190 = .ok (.goto 14, 3) := by decide +kernel
theorem dX10_day_193 : decode cX10_day 193 = .ok (.aload_n 3, 1) := by decide +kernel
theorem dX10_day_194 : decode cX10_day 194 = .ok (.getfield 75, 3) := by decide +kernel
theorem dX10_day_197 : decode cX10_day 197 = .ok (.iload 4, 2) := by decide +kernel
theorem dX10_day_199 : decode cX10_day 199 = .ok (.iconst 2, 1) := by decide +kernel
theorem dX10_day_200 : decode cX10_day 200 = .ok (.iastore, 1) := by decide +kernel
theorem dX10_day_201 : decode cX10_day 201 = .ok (.iinc 1 1, 3) := by decide +kernel
theorem dX10_day_204 : decode cX10_day 204 = .ok (.iinc 4 1, 3) := by decide +kernel
theorem dX10_day_207 : decode cX10_day 207 = .ok (.goto (-68), 3) := by decide +kernel
theorem dX10_day_210 : decode cX10_day 210 = .ok (.goto (-93), 3) := by decide +kernel
theorem dX10_day_213 : decode cX10_day 213 = .ok (.aload_n 0, 1) := by decide +kernel
theorem dX10_day_214 : decode cX10_day 214 = .ok (.getfield 32, 3) := by decide +kernel
theorem dX10_day_217 : decode cX10_day 217 = .ok (.invokevirtual 146, 3) := by decide +kernel
theorem dX10_day_220 : decode cX10_day 220 = .ok (.astore_n 2, 1) := by decide +kernel
theorem dX10_day_221 : decode cX10_day 221 = .ok (.aload_n 2, 1) := by decide +kernel
theorem dX10_day_222 : decode cX10_day 222 = .ok (.invokeinterface 150 1, 5) := by decide +kernel
theorem dX10_day_227 : decode cX10_day 227 = .ok (.ifCond .eq 54, 3) := by decide +kernel
theorem dX10_day_230 : decode cX10_day 230 = .ok (.aload_n 2, 1) := by decide +kernel
theorem dX10_day_231 : decode cX10_day 231 = .ok (.invokeinterface 156 1, 5) := by decide +kernel
theorem dX10_day_236 : decode cX10_day 236 = .ok (.checkcast 64, 3) := by decide +kernel
theorem dX10_day_239 : decode cX10_day 239 = .ok (.astore_n 3, 1) := by decide +kernel
theorem dX10_day_240 : decode cX10_day 240 = .ok (.iconst 0, 1) := by decide +kernel
theorem dX10_day_241 : decode cX10_day 241 = .ok (.istore 4, 2) := by decide +kernel
theorem dX10_day_243 : decode cX10_day 243 = .ok (.iload 4, 2) := by decide +kernel
theorem dX10_day_245 : decode cX10_day 245 = .ok (.aload_n 0, 1) := by decide +kernel
theorem dX10_day_246 : decode cX10_day 246 = .ok (.getfield 10, 3) := by decide +kernel
theorem dX10_day_249 : decode cX10_day 249 = .ok (.invokevirtual 43, 3) := by decide +kernel
theorem dX10_day_252 : decode cX10_day 252 = .ok (.if_icmp .ge 26, 3) := by decide +kernel
theorem dX10_day_255 : decode cX10_day 255 = .ok (.aload_n 0, 1) := by decide +kernel
theorem dX10_day_256 : decode cX10_day 256 = .ok (.aload_n 3, 1) := by decide +kernel
theorem dX10_day_257 : decode cX10_day 257 = .ok (.iload 4, 2) := by decide +kernel
theorem dX10_day_259 : decode cX10_day 259 = .ok (.invokevirtual 191, 3) := by decide +kernel
theorem dX10_day_262 : decode cX10_day 262 = .ok (.ifCond .eq 10, 3) := by decide +kernel
theorem dX10_day_265 : decode cX10_day 265 = .ok (.aload_n 0, 1) := by decide +kernel
theorem dX10_day_266 : decode cX10_day 266 = .ok (.aload_n 3, 1) := by decide +kernel
theorem dX10_day_267 : decode cX10_day 267 = .ok (.iload 4, 2) := by decide +kernel
theorem dX10_day_269 : decode cX10_day 269 = .ok (.invokevirtual 194, 3) := by decide +kernel
theorem dX10_day_272 : decode cX10_day 272 = .ok (.iinc 4 1, 3) := by decide +kernel
theorem dX10_day_275 : decode cX10_day 275 = .ok (.goto (-32), 3) := by decide +kernel
theorem dX10_day_278 : decode cX10_day 278 = .ok (.goto (-57), 3) := by decide +kernel
theorem dX10_day_281 : decode cX10_day 281 = .ok (.aload_n 0, 1) := by decide +kernel
theorem dX10_day_282 : decode cX10_day 282 = .ok (.getfield 32, 3) := by decide +kernel
theorem dX10_day_285 : decode cX10_day 285 = .ok (.invokevirtual 146, 3) := by decide +kernel
theorem dX10_day_288 : decode cX10_day 288 = .ok (.astore_n 2, 1) := by decide +kernel
theorem dX10_day_289 : decode cX10_day 289 = .ok (.aload_n 2, 1) := by decide +kernel
theorem dX10_day_290 : decode cX10_day 290 = .ok (.invokeinterface 150 1, 5) := by decide +kernel
theorem dX10_day_295 : decode cX10_day 295 = .ok (.ifCond .eq 79, 3) := by decide +kernel
theorem dX10_day_298 : decode cX10_day 298 = .ok (.aload_n 2, 1) := by decide +kernel
theorem dX10_day_299 : decode cX10_day 299 = .ok (.invokeinterface 156 1, 5) := by decide +kernel
theorem dX10_day_304 : decode cX10_day 304 = .ok (.checkcast 64, 3) := by decide +kernel
theorem dX10_day_307 : decode cX10_day 307 = .ok (.astore_n 3, 1) := by decide +kernel
theorem dX10_day_308 : decode cX10_day 308 = .ok (.iconst 0, 1) := by decide +kernel
theorem dX10_day_309 : decode cX10_day 309 = .ok (.istore 4, 2) := by decide +kernel
theorem dX10_day_311 : decode cX10_day 311 = .ok (.iload 4, 2) := by decide +kernel
theorem dX10_day_313 : decode cX10_day 313 = .ok (.aload_n 0, 1) := by decide +kernel
theorem dX10_day_314 : decode cX10_day 314 = .ok (.getfield 10, 3) := by decide +kernel
theorem dX10_day_317 : decode cX10_day 317 = .ok (.invokevirtual 43, 3) := by decide +kernel
theorem dX10_day_320 : decode cX10_day 320 = .ok (.if_icmp .ge 51, 3) := by decide +kernel
theorem dX10_day_323 : decode cX10_day 323 = .ok (.aload_n 3, 1) := by decide +kernel
theorem dX10_day_324 : decode cX10_day 324 = .ok (.iload 4, 2) := by decide +kernel
theorem dX10_day_326 : decode cX10_day 326 = .ok (.iconst 0, 1) := by decide +kernel
theorem dX10_day_327 : decode cX10_day 327 = .ok (.invokevirtual 63, 3) := by decide +kernel
theorem dX10_day_330 : decode cX10_day 330 = .ok (.ifCond .eq 35, 3) := by decide +kernel
theorem dX10_day_333 : decode cX10_day 333 = .ok (.aload_n 0, 1) := by decide +kernel
theorem dX10_day_334 : decode cX10_day 334 = .ok (.aload_n 3, 1) := by decide +kernel
theorem dX10_day_335 : decode cX10_day 335 = .ok (.iload 4, 2) := by decide +kernel
theorem dX10_day_337 : decode cX10_day 337 = .ok (.invokevirtual 180, 3) := by decide +kernel
theorem dX10_day_340 : decode cX10_day 340 = .ok (.ifCond .ne 6, 3) := by decide +kernel
theorem dX10_day_343 : decode cX10_day 343 = .ok (.goto 22, 3) := by decide +kernel
theorem dX10_day_346 : decode cX10_day 346 = .ok (.aload_n 3, 1) := by decide +kernel
theorem dX10_day_347 : decode cX10_day 347 = .ok (.getfield 126, 3) := by decide +kernel
theorem dX10_day_350 : decode cX10_day 350 = .ok (.iload 4, 2) := by decide +kernel
theorem dX10_day_352 : decode cX10_day 352 = .ok (.iconst (-1), 1) := by decide +kernel
theorem dX10_day_353 : decode cX10_day 353 = .ok (.iastore, 1) := by decide +kernel
theorem dX10_day_354 : decode cX10_day 354 = .ok (.aload_n 3, 1) := by decide +kernel
theorem dX10_day_355 : decode cX10_day 355 = .ok (.getfield 198, 3) := by decide +kernel
theorem dX10_day_358 : decode cX10_day 358 = .ok (.iload 4, 2) := by decide +kernel
theorem dX10_day_360 : decode cX10_day 360 = .ok (.dup2, 1) := by decide +kernel
theorem dX10_day_361 : decode cX10_day 361 = .ok (.iaload, 1) := by decide +kernel
theorem dX10_day_362 : decode cX10_day 362 = .ok (.iconst 1, 1) := by decide +kernel
theorem dX10_day_363 : decode cX10_day 363 = .ok (.iadd, 1) := by decide +kernel
theorem dX10_day_364 : decode cX10_day 364 = .ok (.iastore, 1) := by decide +kernel
theorem dX10_day_365 : decode cX10_day 365 = .ok (.iinc 4 1, 3) := by decide +kernel
theorem dX10_day_368 : decode cX10_day 368 = .ok (.goto (-57), 3) := by decide +kernel
theorem dX10_day_371 : decode cX10_day 371 = .ok (.goto (-82), 3) := by decide +kernel
theorem dX10_day_374 : decode cX10_day 374 = .ok (.aload_n 0, 1) := by decide +kernel
theorem dX10_day_375 : decode cX10_day 375 = .ok (.invokevirtual 201, 3) := by decide +kernel
theorem dX10_day_378 : decode cX10_day 378 = .ok (.aload_n 0, 1) := by decide +kernel
theorem dX10_day_379 : decode cX10_day 379 = .ok (.getfield 32, 3) := by decide +kernel
theorem dX10_day_382 : decode cX10_day 382 = .ok (.invokevirtual 146, 3) := by decide +kernel
theorem dX10_day_385 : decode cX10_day 385 = .ok (.astore_n 2, 1) := by decide +kernel
theorem dX10_day_386 : decode cX10_day 386 = .ok (.aload_n 2, 1) := by decide +kernel
theorem dX10_day_387 : decode cX10_day 387 = .ok (.invokeinterface 150 1, 5) := by decide +kernel
theorem dX10_day_392 : decode cX10_day 392 = .ok (.ifCond .eq 28, 3) := by decide +kernel
theorem dX10_day_395 : decode cX10_day 395 = .ok (.aload_n 2, 1) := by decide +kernel
theorem dX10_day_396 : decode cX10_day 396 = .ok (.invokeinterface 156 1, 5) := by decide +kernel
theorem dX10_day_401 : decode cX10_day 401 = .ok (.checkcast 64, 3) := by decide +kernel
theorem dX10_day_404 : decode cX10_day 404 = .ok (.astore_n 3, 1) := by decide +kernel
theorem dX10_day_405 : decode cX10_day 405 = .ok (.aload_n 3, 1) := by decide +kernel
theorem dX10_day_406 : decode cX10_day 406 = .ok (.getfield 140, 3) := by decide +kernel
theorem dX10_day_409 : decode cX10_day 409 = .ok (.ifCond .eq 8, 3) := by decide +kernel
theorem dX10_day_412 : decode cX10_day 412 = .ok (.aload_n 0, 1) := by decide +kernel
theorem dX10_day_413 : decode cX10_day 413 = .ok (.aload_n 3, 1) := by decide +kernel
theorem dX10_day_414 : decode cX10_day 414 = .ok (.invokevirtual 204, 3) := by decide +kernel
theorem dX10_day_417 : decode cX10_day 417 = .ok (.goto (-31), 3) := by decide +kernel
theorem dX10_day_420 : decode cX10_day 420 = .ok (.iload_n 1, 1) := by decide +kernel
theorem dX10_day_421 : decode cX10_day 421 = .ok (.ireturn, 1) := by decide +kernel
theorem dX10_step_0 : decode cX10_step 0 = .ok (.iload_n 1, 1) := by decide +kernel
theorem dX10_step_1 : decode cX10_step 1 = .ok (.iconst 0, 1) := by decide +kernel
theorem dX10_step_2 : decode cX10_step 2 = .ok (.iconst 3, 1) := by decide +kernel
theorem dX10_step_3 : decode cX10_step 3 = .ok (.invokestatic 47, 3) := by decide +kernel
theorem dX10_step_6 : decode cX10_step 6 = .ok (.ifCond .eq 52, 3) := by decide +kernel
theorem dX10_step_9 : decode cX10_step 9 = .ok (.iload_n 2, 1) := by decide +kernel
theorem dX10_step_10 : decode cX10_step 10 = .ok (.iconst 1, 1) := by decide +kernel
theorem dX10_step_11 : decode cX10_step 11 = .ok (.bipush 9, 2) := by decide +kernel
theorem dX10_step_13 : decode cX10_step 13 = .ok (.invokestatic 47, 3) := by decide +kernel
theorem dX10_step_16 : decode cX10_step 16 = .ok (.ifCond .eq 42, 3) := by decide +kernel
theorem dX10_step_19 : decode cX10_step 19 = .ok (.aload_n 0, 1) := by decide +kernel
theorem dX10_step_20 : decode cX10_step 20 = .ok (.iload_n 3, 1) := by decide +kernel
theorem dX10_step_21 : decode cX10_step 21 = .ok (.invokevirtual 208, 3) := by decide +kernel
theorem dX10_step_24 : decode cX10_step 24 = .ok (.ifCond .ne 34, 3) := by decide +kernel
theorem dX10_step_27 : decode cX10_step 27 = .ok (.iload_n 1, 1) := by decide +kernel
theorem dX10_step_28 : decode cX10_step 28 = .ok (.ifCond .ne 15, 3) := by decide +kernel
theorem dX10_step_31 : decode cX10_step 31 = .ok (.iload 4, 2) := by decide +kernel
theorem dX10_step_33 : decode cX10_step 33 = .ok (.iconst 0, 1) := by decide +kernel
theorem dX10_step_34 : decode cX10_step 34 = .ok (.sipush 255, 3) := by decide +kernel
theorem dX10_step_37 : decode cX10_step 37 = .ok (.invokestatic 47, 3) := by decide +kernel
theorem dX10_step_40 : decode cX10_step 40 = .ok (.ifCond .eq 18, 3) := by decide +kernel
theorem dX10_step_43 : decode cX10_step 43 = .ok (.iload_n 1, 1) := by decide +kernel
theorem dX10_step_44 : decode cX10_step 44 = .ok (.iconst 1, 1) := by decide +kernel
theorem dX10_step_45 : decode cX10_step 45 = .ok (.if_icmp .ne 17, 3) := by decide +kernel
theorem dX10_step_48 : decode cX10_step 48 = .ok (.iload 4, 2) := by decide +kernel
theorem dX10_step_50 : decode cX10_step 50 = .ok (.iconst 0, 1) := by decide +kernel
theorem dX10_step_51 : decode cX10_step 51 = .ok (.iconst 3, 1) := by decide +kernel
theorem dX10_step_52 : decode cX10_step 52 = .ok (.invokestatic 47, 3) := by decide +kernel
theorem dX10_step_55 : decode cX10_step 55 = .ok (.ifCond .ne 7, 3) := by decide +kernel
theorem dX10_step_58 : decode cX10_step 58 = .ok (.iconst 1, 1) := by decide +kernel
theorem dX10_step_59 : decode cX10_step 59 = .ok (.goto 4, 3) := by decide +kernel
theorem dX10_step_62 : decode cX10_step 62 = .ok (.iconst 0, 1) := by decide +kernel
theorem dX10_step_63 : decode cX10_step 63 = .ok (.istore 5, 2) := by decide +kernel
theorem dX10_step_65 : decode cX10_step 65 = .ok (.aload_n 0, 1) := by decide +kernel
theorem dX10_step_66 : decode cX10_step 66 = .ok (.iload 5, 2) := by decide +kernel
theorem dX10_step_68 : decode cX10_step 68 = .ok (.iconst 1, 1) := by decide +kernel
theorem dX10_step_69 : decode cX10_step 69 = .ok (.invokevirtual 186, 3) := by decide +kernel
theorem dX10_step_72 : decode cX10_step 72 = .ok (.ifCond .ne 28, 3) := by decide +kernel
theorem dX10_step_75 : decode cX10_step 75 = .ok (.aload_n 0, 1) := by decide +kernel
theorem dX10_step_76 : decode cX10_step 76 = .ok (.aload_n 0, 1) := by decide +kernel
theorem dX10_step_77 : decode cX10_step 77 = .ok (.getfield 10, 3) := by decide +kernel
theorem dX10_step_80 : decode cX10_step 80 = .ok (.invokevirtual 43, 3) := by decide +kernel
theorem dX10_step_83 : decode cX10_step 83 = .ok (.bipush 12, 2) := by decide +kernel
theorem dX10_step_85 : decode cX10_step 85 = .ok (.if_icmp .ne 7, 3) := by decide +kernel
theorem dX10_step_88 : decode cX10_step 88 = .ok (.iconst 1, 1) := by decide +kernel
theorem dX10_step_89 : decode cX10_step 89 = .ok (.goto 4, 3) := by decide +kernel
theorem dX10_step_92 : decode cX10_step 92 = .ok (.iconst 0, 1) := by decide +kernel
theorem dX10_step_93 : decode cX10_step 93 = .ok (.iconst 2, 1) := by decide +kernel
theorem dX10_step_94 : decode cX10_step 94 = .ok (.invokevirtual 39, 3) := by decide +kernel
theorem dX10_step_97 : decode cX10_step 97 = .ok (.ifCond .eq 5, 3) := by decide +kernel
theorem dX10_step_100 : decode cX10_step 100 = .ok (.iconst 0, 1) := by decide +kernel
theorem dX10_step_101 : decode cX10_step 101 = .ok (.ireturn, 1) := by decide +kernel
theorem dX10_step_102 : decode cX10_step 102 = .ok (.aload_n 0, 1) := by decide +kernel
theorem dX10_step_103 : decode cX10_step 103 = .ok (.getfield 10, 3) := by decide +kernel
theorem dX10_step_106 : decode cX10_step 106 = .ok (.new 55, 3) := by decide +kernel
theorem dX10_step_109 : decode cX10_step 109 = .ok (.dup, 1) := by decide +kernel
theorem dX10_step_110 : decode cX10_step 110 = .ok (.iload_n 1, 1) := by decide +kernel
theorem dX10_step_111 : decode cX10_step 111 = .ok (.iload_n 2, 1) := by decide +kernel
theorem dX10_step_112 : decode cX10_step 112 = .ok (.iload_n 3, 1) := by decide +kernel
theorem dX10_step_113 : decode cX10_step 113 = .ok (.iload 4, 2) := by decide +kernel
theorem dX10_step_115 : decode cX10_step 115 = .ok (.invokespecial 211, 3) := by decide +kernel
theorem dX10_step_118 : decode cX10_step 118 = .ok (.invokevirtual 214, 3) := by decide +kernel
theorem dX10_step_121 : decode cX10_step 121 = .ok (.pop, 1) := by decide +kernel
theorem dX10_step_122 : decode cX10_step 122 = .ok (.aload_n 0, 1) := by decide +kernel
theorem dX10_step_123 : decode cX10_step 123 = .ok (.getfield 10, 3) := by decide +kernel
theorem dX10_step_126 : decode cX10_step 126 = .ok (.invokevirtual 43, 3) := by decide +kernel
theorem dX10_step_129 : decode cX10_step 129 = .ok (.iconst 1, 1) := by decide +kernel
theorem dX10_step_130 : decode cX10_step 130 = .ok (.isub, 1) := by decide +kernel
theorem dX10_step_131 : decode cX10_step 131 = .ok (.ireturn, 1) := by decide +kernel
theorem dX10_isNoRole_0 : decode cX10_isNoRole 0 = .ok (.iload_n 0, 1) := by decide +kernel
theorem dX10_isNoRole_1 : decode cX10_isNoRole 1 = .ok (.iconst 0, 1) := by decide +kernel
theorem dX10_isNoRole_2 : decode cX10_isNoRole 2 = .ok (.iconst 3, 1) := by decide +kernel
theorem dX10_isNoRole_3 : decode cX10_isNoRole 3 = .ok (.invokestatic 47, 3) := by decide +kernel
theorem dX10_isNoRole_6 : decode cX10_isNoRole 6 = .ok (.ifCond .ne 7, 3) := by decide +kernel
theorem dX10_isNoRole_9 : decode cX10_isNoRole 9 = .ok (.iconst 1, 1) := by decide +kernel
theorem dX10_isNoRole_10 : decode cX10_isNoRole 10 = .ok (.goto 4, 3) := by decide +kernel
theorem dX10_isNoRole_13 : decode cX10_isNoRole 13 = .ok (.iconst 0, 1) := by decide +kernel
theorem dX10_isNoRole_14 : decode cX10_isNoRole 14 = .ok (.ireturn, 1) := by decide +kernel
theorem dX10_role_0 : decode cX10_role 0 = .ok (.aload_n 0, 1) := by decide +kernel
theorem dX10_role_1 : decode cX10_role 1 = .ok (.iload_n 1, 1) := by decide +kernel
theorem dX10_role_2 : decode cX10_role 2 = .ok (.invokestatic 218, 3) := by decide +kernel
theorem dX10_role_5 : decode cX10_role 5 = .ok (.iconst 1, 1) := by decide +kernel
theorem dX10_role_6 : decode cX10_role 6 = .ok (.invokevirtual 186, 3) := by decide +kernel
theorem dX10_role_9 : decode cX10_role 9 = .ok (.ifCond .ne 16, 3) := by decide +kernel
theorem dX10_role_12 : decode cX10_role 12 = .ok (.aload_n 0, 1) := by decide +kernel
theorem dX10_role_13 : decode cX10_role 13 = .ok (.aload_n 0, 1) := by decide +kernel
theorem dX10_role_14 : decode cX10_role 14 = .ok (.iload_n 2, 1) := by decide +kernel
theorem dX10_role_15 : decode cX10_role 15 = .ok (.invokevirtual 208, 3) := by decide +kernel
theorem dX10_role_18 : decode cX10_role 18 = .ok (.iconst 2, 1) := by decide +kernel
theorem dX10_role_19 : decode cX10_role 19 = .ok (.invokevirtual 39, 3) := by decide +kernel
theorem dX10_role_22 : decode cX10_role 22 = .ok (.ifCond .eq 5, 3) := by decide +kernel
theorem dX10_role_25 : decode cX10_role 25 = .ok (.iconst 0, 1) := by decide +kernel
theorem dX10_role_26 : decode cX10_role 26 = .ok (.ireturn, 1) := by decide +kernel
theorem dX10_role_27 : decode cX10_role 27 = .ok (.aload_n 0, 1) := by decide +kernel
theorem dX10_role_28 : decode cX10_role 28 = .ok (.getfield 16, 3) := by decide +kernel
theorem dX10_role_31 : decode cX10_role 31 = .ok (.iload_n 1, 1) := by decide +kernel
theorem dX10_role_32 : decode cX10_role 32 = .ok (.iaload, 1) := by decide +kernel
theorem dX10_role_33 : decode cX10_role 33 = .ok (.istore_n 3, 1) := by decide +kernel
theorem dX10_role_34 : decode cX10_role 34 = .ok (.aload_n 0, 1) := by decide +kernel
theorem dX10_role_35 : decode cX10_role 35 = .ok (.getfield 16, 3) := by decide +kernel
theorem dX10_role_38 : decode cX10_role 38 = .ok (.iload_n 1, 1) := by decide +kernel
theorem dX10_role_39 : decode cX10_role 39 = .ok (.iload_n 2, 1) := by decide +kernel
theorem dX10_role_40 : decode cX10_role 40 = .ok (.iastore, 1) := by decide +kernel
theorem dX10_role_41 : decode cX10_role 41 = .ok (.iload_n 3, 1) := by decide +kernel
theorem dX10_role_42 : decode cX10_role 42 = .ok (.ireturn, 1) := by decide +kernel
theorem dX10_right_0 : decode cX10_right 0 = .ok (.aload_n 0, 1) := by decide +kernel
theorem dX10_right_1 : decode cX10_right 1 = .ok (.iload_n 1, 1) := by decide +kernel
theorem dX10_right_2 : decode cX10_right 2 = .ok (.iconst 1, 1) := by decide +kernel
theorem dX10_right_3 : decode cX10_right 3 = .ok (.if_icmp .lt 11, 3) := by decide +kernel
theorem dX10_right_6 : decode cX10_right 6 = .ok (.aload_n 0, 1) := by decide +kernel
theorem dX10_right_7 : decode cX10_right 7 = .ok (.iload_n 1, 1) := by decide +kernel
theorem dX10_right_8 : decode cX10_right 8 = .ok (.invokevirtual 208, 3) := by decide +kernel
theorem dX10_right_11 : decode cX10_right 11 = .ok (.ifCond .eq 7, 3) := by decide +kernel
theorem dX10_right_14 : decode cX10_right 14 = .ok (.iconst 1, 1) := by decide +kernel
theorem dX10_right_15 : decode cX10_right 15 = .ok (.goto 4, 3) := by decide +kernel
theorem dX10_right_18 : decode cX10_right 18 = .ok (.iconst 0, 1) := by decide +kernel
theorem dX10_right_19 : decode cX10_right 19 = .ok (.iconst 1, 1) := by decide +kernel
theorem dX10_right_20 : decode cX10_right 20 = .ok (.invokevirtual 186, 3) := by decide +kernel
theorem dX10_right_23 : decode cX10_right 23 = .ok (.ifCond .ne 28, 3) := by decide +kernel
theorem dX10_right_26 : decode cX10_right 26 = .ok (.aload_n 0, 1) := by decide +kernel
theorem dX10_right_27 : decode cX10_right 27 = .ok (.aload_n 0, 1) := by decide +kernel
theorem dX10_right_28 : decode cX10_right 28 = .ok (.getfield 20, 3) := by decide +kernel
theorem dX10_right_31 : decode cX10_right 31 = .ok (.invokevirtual 43, 3) := by decide +kernel
theorem dX10_right_34 : decode cX10_right 34 = .ok (.bipush 6, 2) := by decide +kernel
theorem dX10_right_36 : decode cX10_right 36 = .ok (.if_icmp .ne 7, 3) := by decide +kernel
theorem dX10_right_39 : decode cX10_right 39 = .ok (.iconst 1, 1) := by decide +kernel
theorem dX10_right_40 : decode cX10_right 40 = .ok (.goto 4, 3) := by decide +kernel
theorem dX10_right_43 : decode cX10_right 43 = .ok (.iconst 0, 1) := by decide +kernel
theorem dX10_right_44 : decode cX10_right 44 = .ok (.iconst 2, 1) := by decide +kernel
theorem dX10_right_45 : decode cX10_right 45 = .ok (.invokevirtual 39, 3) := by decide +kernel
theorem dX10_right_48 : decode cX10_right 48 = .ok (.ifCond .eq 5, 3) := by decide +kernel
theorem dX10_right_51 : decode cX10_right 51 = .ok (.iconst 0, 1) := by decide +kernel
theorem dX10_right_52 : decode cX10_right 52 = .ok (.ireturn, 1) := by decide +kernel
theorem dX10_right_53 : decode cX10_right 53 = .ok (.aload_n 0, 1) := by decide +kernel
theorem dX10_right_54 : decode cX10_right 54 = .ok (.getfield 20, 3) := by decide +kernel
theorem dX10_right_57 : decode cX10_right 57 = .ok (.iload_n 1, 1) := by decide +kernel
theorem dX10_right_58 : decode cX10_right 58 = .ok (.invokestatic 221, 3) := by decide +kernel
theorem dX10_right_61 : decode cX10_right 61 = .ok (.invokevirtual 214, 3) := by decide +kernel
theorem dX10_right_64 : decode cX10_right 64 = .ok (.pop, 1) := by decide +kernel
theorem dX10_right_65 : decode cX10_right 65 = .ok (.aload_n 0, 1) := by decide +kernel
theorem dX10_right_66 : decode cX10_right 66 = .ok (.getfield 20, 3) := by decide +kernel
theorem dX10_right_69 : decode cX10_right 69 = .ok (.invokevirtual 43, 3) := by decide +kernel
theorem dX10_right_72 : decode cX10_right 72 = .ok (.iconst 1, 1) := by decide +kernel
theorem dX10_right_73 : decode cX10_right 73 = .ok (.isub, 1) := by decide +kernel
theorem dX10_right_74 : decode cX10_right 74 = .ok (.ireturn, 1) := by decide +kernel
theorem dX10_isNoItem_0 : decode cX10_isNoItem 0 = .ok (.iload_n 0, 1) := by decide +kernel
theorem dX10_isNoItem_1 : decode cX10_isNoItem 1 = .ok (.iconst 0, 1) := by decide +kernel
theorem dX10_isNoItem_2 : decode cX10_isNoItem 2 = .ok (.iconst 3, 1) := by decide +kernel
theorem dX10_isNoItem_3 : decode cX10_isNoItem 3 = .ok (.invokestatic 47, 3) := by decide +kernel
theorem dX10_isNoItem_6 : decode cX10_isNoItem 6 = .ok (.ifCond .ne 7, 3) := by decide +kernel
theorem dX10_isNoItem_9 : decode cX10_isNoItem 9 = .ok (.iconst 1, 1) := by decide +kernel
theorem dX10_isNoItem_10 : decode cX10_isNoItem 10 = .ok (.goto 4, 3) := by decide +kernel
theorem dX10_isNoItem_13 : decode cX10_isNoItem 13 = .ok (.iconst 0, 1) := by decide +kernel
theorem dX10_isNoItem_14 : decode cX10_isNoItem 14 = .ok (.ireturn, 1) := by decide +kernel
theorem dX10_stock_0 : decode cX10_stock 0 = .ok (.aload_n 0, 1) := by decide +kernel
theorem dX10_stock_1 : decode cX10_stock 1 = .ok (.iload_n 1, 1) := by decide +kernel
theorem dX10_stock_2 : decode cX10_stock 2 = .ok (.invokestatic 225, 3) := by decide +kernel
theorem dX10_stock_5 : decode cX10_stock 5 = .ok (.iconst 1, 1) := by decide +kernel
theorem dX10_stock_6 : decode cX10_stock 6 = .ok (.invokevirtual 186, 3) := by decide +kernel
theorem dX10_stock_9 : decode cX10_stock 9 = .ok (.ifCond .ne 26, 3) := by decide +kernel
theorem dX10_stock_12 : decode cX10_stock 12 = .ok (.aload_n 0, 1) := by decide +kernel
theorem dX10_stock_13 : decode cX10_stock 13 = .ok (.iload_n 2, 1) := by decide +kernel
theorem dX10_stock_14 : decode cX10_stock 14 = .ok (.iconst 1, 1) := by decide +kernel
theorem dX10_stock_15 : decode cX10_stock 15 = .ok (.bipush 20, 2) := by decide +kernel
theorem dX10_stock_17 : decode cX10_stock 17 = .ok (.invokestatic 47, 3) := by decide +kernel
theorem dX10_stock_20 : decode cX10_stock 20 = .ok (.ifCond .ne 7, 3) := by decide +kernel
theorem dX10_stock_23 : decode cX10_stock 23 = .ok (.iconst 1, 1) := by decide +kernel
theorem dX10_stock_24 : decode cX10_stock 24 = .ok (.goto 4, 3) := by decide +kernel
theorem dX10_stock_27 : decode cX10_stock 27 = .ok (.iconst 0, 1) := by decide +kernel
theorem dX10_stock_28 : decode cX10_stock 28 = .ok (.iconst 2, 1) := by decide +kernel
theorem dX10_stock_29 : decode cX10_stock 29 = .ok (.invokevirtual 39, 3) := by decide +kernel
theorem dX10_stock_32 : decode cX10_stock 32 = .ok (.ifCond .eq 5, 3) := by decide +kernel
theorem dX10_stock_35 : decode cX10_stock 35 = .ok (.iconst 0, 1) := by decide +kernel
theorem dX10_stock_36 : decode cX10_stock 36 = .ok (.ireturn, 1) := by decide +kernel
theorem dX10_stock_37 : decode cX10_stock 37 = .ok (.aload_n 0, 1) := by decide +kernel
theorem dX10_stock_38 : decode cX10_stock 38 = .ok (.getfield 23, 3) := by decide +kernel
theorem dX10_stock_41 : decode cX10_stock 41 = .ok (.iload_n 1, 1) := by decide +kernel
theorem dX10_stock_42 : decode cX10_stock 42 = .ok (.dup2, 1) := by decide +kernel
theorem dX10_stock_43 : decode cX10_stock 43 = .ok (.iaload, 1) := by decide +kernel
theorem dX10_stock_44 : decode cX10_stock 44 = .ok (.iload_n 2, 1) := by decide +kernel
theorem dX10_stock_45 : decode cX10_stock 45 = .ok (.iadd, 1) := by decide +kernel
theorem dX10_stock_46 : decode cX10_stock 46 = .ok (.iastore, 1) := by decide +kernel
theorem dX10_stock_47 : decode cX10_stock 47 = .ok (.aload_n 0, 1) := by decide +kernel
theorem dX10_stock_48 : decode cX10_stock 48 = .ok (.getfield 23, 3) := by decide +kernel
theorem dX10_stock_51 : decode cX10_stock 51 = .ok (.iload_n 1, 1) := by decide +kernel
theorem dX10_stock_52 : decode cX10_stock 52 = .ok (.iaload, 1) := by decide +kernel
theorem dX10_stock_53 : decode cX10_stock 53 = .ok (.ireturn, 1) := by decide +kernel
theorem dX10_isNoDay_0 : decode cX10_isNoDay 0 = .ok (.iload_n 1, 1) := by decide +kernel
theorem dX10_isNoDay_1 : decode cX10_isNoDay 1 = .ok (.aload_n 0, 1) := by decide +kernel
theorem dX10_isNoDay_2 : decode cX10_isNoDay 2 = .ok (.getfield 103, 3) := by decide +kernel
theorem dX10_isNoDay_5 : decode cX10_isNoDay 5 = .ok (.iconst 1, 1) := by decide +kernel
theorem dX10_isNoDay_6 : decode cX10_isNoDay 6 = .ok (.iadd, 1) := by decide +kernel
theorem dX10_isNoDay_7 : decode cX10_isNoDay 7 = .ok (.sipush 199, 3) := by decide +kernel
theorem dX10_isNoDay_10 : decode cX10_isNoDay 10 = .ok (.invokestatic 47, 3) := by decide +kernel
theorem dX10_isNoDay_13 : decode cX10_isNoDay 13 = .ok (.ifCond .ne 7, 3) := by decide +kernel
theorem dX10_isNoDay_16 : decode cX10_isNoDay 16 = .ok (.iconst 1, 1) := by decide +kernel
theorem dX10_isNoDay_17 : decode cX10_isNoDay 17 = .ok (.goto 4, 3) := by decide +kernel
theorem dX10_isNoDay_20 : decode cX10_isNoDay 20 = .ok (.iconst 0, 1) := by decide +kernel
theorem dX10_isNoDay_21 : decode cX10_isNoDay 21 = .ok (.ireturn, 1) := by decide +kernel
theorem dX10_order_0 : decode cX10_order 0 = .ok (.aload_n 0, 1) := by decide +kernel
theorem dX10_order_1 : decode cX10_order 1 = .ok (.iload_n 1, 1) := by decide +kernel
theorem dX10_order_2 : decode cX10_order 2 = .ok (.invokestatic 225, 3) := by decide +kernel
theorem dX10_order_5 : decode cX10_order 5 = .ok (.iconst 1, 1) := by decide +kernel
theorem dX10_order_6 : decode cX10_order 6 = .ok (.invokevirtual 186, 3) := by decide +kernel
theorem dX10_order_9 : decode cX10_order 9 = .ok (.ifCond .ne 59, 3) := by decide +kernel
theorem dX10_order_12 : decode cX10_order 12 = .ok (.aload_n 0, 1) := by decide +kernel
theorem dX10_order_13 : decode cX10_order 13 = .ok (.iload_n 2, 1) := by decide +kernel
theorem dX10_order_14 : decode cX10_order 14 = .ok (.iconst 1, 1) := by decide +kernel
theorem dX10_order_15 : decode cX10_order 15 = .ok (.bipush 20, 2) := by decide +kernel
theorem dX10_order_17 : decode cX10_order 17 = .ok (.invokestatic 47, 3) := by decide +kernel
theorem dX10_order_20 : decode cX10_order 20 = .ok (.ifCond .eq 11, 3) := by decide +kernel
theorem dX10_order_23 : decode cX10_order 23 = .ok (.aload_n 0, 1) := by decide +kernel
theorem dX10_order_24 : decode cX10_order 24 = .ok (.iload_n 3, 1) := by decide +kernel
theorem dX10_order_25 : decode cX10_order 25 = .ok (.invokevirtual 228, 3) := by decide +kernel
theorem dX10_order_28 : decode cX10_order 28 = .ok (.ifCond .eq 7, 3) := by decide +kernel
theorem dX10_order_31 : decode cX10_order 31 = .ok (.iconst 1, 1) := by decide +kernel
theorem dX10_order_32 : decode cX10_order 32 = .ok (.goto 4, 3) := by decide +kernel
theorem dX10_order_35 : decode cX10_order 35 = .ok (.iconst 0, 1) := by decide +kernel
theorem dX10_order_36 : decode cX10_order 36 = .ok (.iconst 2, 1) := by decide +kernel
theorem dX10_order_37 : decode cX10_order 37 = .ok (.invokevirtual 39, 3) := by decide +kernel
theorem dX10_order_40 : decode cX10_order 40 = .ok (.ifCond .ne 28, 3) := by decide +kernel
theorem dX10_order_43 : decode cX10_order 43 = .ok (.aload_n 0, 1) := by decide +kernel
theorem dX10_order_44 : decode cX10_order 44 = .ok (.aload_n 0, 1) := by decide +kernel
theorem dX10_order_45 : decode cX10_order 45 = .ok (.getfield 26, 3) := by decide +kernel
theorem dX10_order_48 : decode cX10_order 48 = .ok (.invokevirtual 43, 3) := by decide +kernel
theorem dX10_order_51 : decode cX10_order 51 = .ok (.bipush 20, 2) := by decide +kernel
theorem dX10_order_53 : decode cX10_order 53 = .ok (.if_icmp .ne 7, 3) := by decide +kernel
theorem dX10_order_56 : decode cX10_order 56 = .ok (.iconst 1, 1) := by decide +kernel
theorem dX10_order_57 : decode cX10_order 57 = .ok (.goto 4, 3) := by decide +kernel
theorem dX10_order_60 : decode cX10_order 60 = .ok (.iconst 0, 1) := by decide +kernel
theorem dX10_order_61 : decode cX10_order 61 = .ok (.iconst 3, 1) := by decide +kernel
theorem dX10_order_62 : decode cX10_order 62 = .ok (.invokevirtual 39, 3) := by decide +kernel
theorem dX10_order_65 : decode cX10_order 65 = .ok (.ifCond .eq 5, 3) := by decide +kernel
theorem dX10_order_68 : decode cX10_order 68 = .ok (.iconst 0, 1) := by decide +kernel
theorem dX10_order_69 : decode cX10_order 69 = .ok (.ireturn, 1) := by decide +kernel
theorem dX10_order_70 : decode cX10_order 70 = .ok (.aload_n 0, 1) := by decide +kernel
theorem dX10_order_71 : decode cX10_order 71 = .ok (.getfield 26, 3) := by decide +kernel
theorem dX10_order_74 : decode cX10_order 74 = .ok (.new 88, 3) := by decide +kernel
theorem dX10_order_77 : decode cX10_order 77 = .ok (.dup, 1) := by decide +kernel
theorem dX10_order_78 : decode cX10_order 78 = .ok (.iload_n 1, 1) := by decide +kernel
theorem dX10_order_79 : decode cX10_order 79 = .ok (.iload_n 2, 1) := by decide +kernel
theorem dX10_order_80 : decode cX10_order 80 = .ok (.iload_n 3, 1) := by decide +kernel
theorem dX10_order_81 : decode cX10_order 81 = .ok (.invokespecial 231, 3) := by decide +kernel
theorem dX10_order_84 : decode cX10_order 84 = .ok (.invokevirtual 214, 3) := by decide +kernel
theorem dX10_order_87 : decode cX10_order 87 = .ok (.pop, 1) := by decide +kernel
theorem dX10_order_88 : decode cX10_order 88 = .ok (.aload_n 0, 1) := by decide +kernel
theorem dX10_order_89 : decode cX10_order 89 = .ok (.getfield 26, 3) := by decide +kernel
theorem dX10_order_92 : decode cX10_order 92 = .ok (.invokevirtual 43, 3) := by decide +kernel
theorem dX10_order_95 : decode cX10_order 95 = .ok (.iconst 1, 1) := by decide +kernel
theorem dX10_order_96 : decode cX10_order 96 = .ok (.isub, 1) := by decide +kernel
theorem dX10_order_97 : decode cX10_order 97 = .ok (.ireturn, 1) := by decide +kernel
theorem dX10_isNoDelay_0 : decode cX10_isNoDelay 0 = .ok (.aload_n 0, 1) := by decide +kernel
theorem dX10_isNoDelay_1 : decode cX10_isNoDelay 1 = .ok (.iload_n 1, 1) := by decide +kernel
theorem dX10_isNoDelay_2 : decode cX10_isNoDelay 2 = .ok (.iconst 0, 1) := by decide +kernel
theorem dX10_isNoDelay_3 : decode cX10_isNoDelay 3 = .ok (.aload_n 0, 1) := by decide +kernel
theorem dX10_isNoDelay_4 : decode cX10_isNoDelay 4 = .ok (.getfield 26, 3) := by decide +kernel
theorem dX10_isNoDelay_7 : decode cX10_isNoDelay 7 = .ok (.invokevirtual 43, 3) := by decide +kernel
theorem dX10_isNoDelay_10 : decode cX10_isNoDelay 10 = .ok (.iconst 1, 1) := by decide +kernel
theorem dX10_isNoDelay_11 : decode cX10_isNoDelay 11 = .ok (.isub, 1) := by decide +kernel
theorem dX10_isNoDelay_12 : decode cX10_isNoDelay 12 = .ok (.invokestatic 47, 3) := by decide +kernel
theorem dX10_isNoDelay_15 : decode cX10_isNoDelay 15 = .ok (.ifCond .ne 7, 3) := by decide +kernel
theorem dX10_isNoDelay_18 : decode cX10_isNoDelay 18 = .ok (.iconst 1, 1) := by decide +kernel
theorem dX10_isNoDelay_19 : decode cX10_isNoDelay 19 = .ok (.goto 4, 3) := by decide +kernel
theorem dX10_isNoDelay_22 : decode cX10_isNoDelay 22 = .ok (.iconst 0, 1) := by decide +kernel
theorem dX10_isNoDelay_23 : decode cX10_isNoDelay 23 = .ok (.iconst 1, 1) := by decide +kernel
theorem dX10_isNoDelay_24 : decode cX10_isNoDelay 24 = .ok (.invokevirtual 186, 3) := by decide +kernel
theorem dX10_isNoDelay_27 : decode cX10_isNoDelay 27 = .ok (.ifCond .ne 48, 3) := by decide +kernel
theorem dX10_isNoDelay_30 : decode cX10_isNoDelay 30 = .ok (.aload_n 0, 1) := by decide +kernel
theorem dX10_isNoDelay_31 : decode cX10_isNoDelay 31 = .ok (.iload_n 2, 1) := by decide +kernel
theorem dX10_isNoDelay_32 : decode cX10_isNoDelay 32 = .ok (.iconst 1, 1) := by decide +kernel
theorem dX10_isNoDelay_33 : decode cX10_isNoDelay 33 = .ok (.bipush 30, 2) := by decide +kernel
theorem dX10_isNoDelay_35 : decode cX10_isNoDelay 35 = .ok (.invokestatic 47, 3) := by decide +kernel
theorem dX10_isNoDelay_38 : decode cX10_isNoDelay 38 = .ok (.ifCond .ne 7, 3) := by decide +kernel
theorem dX10_isNoDelay_41 : decode cX10_isNoDelay 41 = .ok (.iconst 1, 1) := by decide +kernel
theorem dX10_isNoDelay_42 : decode cX10_isNoDelay 42 = .ok (.goto 4, 3) := by decide +kernel
theorem dX10_isNoDelay_45 : decode cX10_isNoDelay 45 = .ok (.iconst 0, 1) := by decide +kernel
theorem dX10_isNoDelay_46 : decode cX10_isNoDelay 46 = .ok (.iconst 2, 1) := by decide +kernel
theorem dX10_isNoDelay_47 : decode cX10_isNoDelay 47 = .ok (.invokevirtual 39, 3) := by decide +kernel
theorem dX10_isNoDelay_50 : decode cX10_isNoDelay 50 = .ok (.ifCond .ne 25, 3) := by decide +kernel
theorem dX10_isNoDelay_53 : decode cX10_isNoDelay 53 = .ok (.aload_n 0, 1) := by decide +kernel
theorem dX10_isNoDelay_54 : decode cX10_isNoDelay 54 = .ok (.aload_n 0, 1) := by decide +kernel
theorem dX10_isNoDelay_55 : decode cX10_isNoDelay 55 = .ok (.getfield 26, 3) := by decide +kernel
theorem dX10_isNoDelay_58 : decode cX10_isNoDelay 58 = .ok (.iload_n 1, 1) := by decide +kernel
theorem dX10_isNoDelay_59 : decode cX10_isNoDelay 59 = .ok (.invokevirtual 51, 3) := by decide +kernel
theorem dX10_isNoDelay_62 : decode cX10_isNoDelay 62 = .ok (.checkcast 88, 3) := by decide +kernel
theorem dX10_isNoDelay_65 : decode cX10_isNoDelay 65 = .ok (.getfield 93, 3) := by decide +kernel
theorem dX10_isNoDelay_68 : decode cX10_isNoDelay 68 = .ok (.iconst 3, 1) := by decide +kernel
theorem dX10_isNoDelay_69 : decode cX10_isNoDelay 69 = .ok (.invokevirtual 39, 3) := by decide +kernel
theorem dX10_isNoDelay_72 : decode cX10_isNoDelay 72 = .ok (.ifCond .eq 7, 3) := by decide +kernel
theorem dX10_isNoDelay_75 : decode cX10_isNoDelay 75 = .ok (.iconst 1, 1) := by decide +kernel
theorem dX10_isNoDelay_76 : decode cX10_isNoDelay 76 = .ok (.goto 4, 3) := by decide +kernel
theorem dX10_isNoDelay_79 : decode cX10_isNoDelay 79 = .ok (.iconst 0, 1) := by decide +kernel
theorem dX10_isNoDelay_80 : decode cX10_isNoDelay 80 = .ok (.ireturn, 1) := by decide +kernel
theorem dX10_late_0 : decode cX10_late 0 = .ok (.aload_n 0, 1) := by decide +kernel
theorem dX10_late_1 : decode cX10_late 1 = .ok (.iload_n 1, 1) := by decide +kernel
theorem dX10_late_2 : decode cX10_late 2 = .ok (.iload_n 2, 1) := by decide +kernel
theorem dX10_late_3 : decode cX10_late 3 = .ok (.invokevirtual 234, 3) := by decide +kernel
theorem dX10_late_6 : decode cX10_late 6 = .ok (.ifCond .eq 5, 3) := by decide +kernel
theorem dX10_late_9 : decode cX10_late 9 = .ok (.iconst 0, 1) := by decide +kernel
theorem dX10_late_10 : decode cX10_late 10 = .ok (.ireturn, 1) := by decide +kernel
theorem dX10_late_11 : decode cX10_late 11 = .ok (.aload_n 0, 1) := by decide +kernel
theorem dX10_late_12 : decode cX10_late 12 = .ok (.getfield 26, 3) := by decide +kernel
theorem dX10_late_15 : decode cX10_late 15 = .ok (.iload_n 1, 1) := by decide +kernel
theorem dX10_late_16 : decode cX10_late 16 = .ok (.invokevirtual 51, 3) := by decide +kernel
theorem dX10_late_19 : decode cX10_late 19 = .ok (.checkcast 88, 3) := by decide +kernel
theorem dX10_late_22 : decode cX10_late 22 = .ok (.dup, 1) := by decide +kernel
theorem dX10_late_23 : decode cX10_late 23 = .ok (.getfield 97, 3) := by decide +kernel
theorem dX10_late_26 : decode cX10_late 26 = .ok (.iload_n 2, 1) := by decide +kernel
theorem dX10_late_27 : decode cX10_late 27 = .ok (.iadd, 1) := by decide +kernel
theorem dX10_late_28 : decode cX10_late 28 = .ok (.putfield 97, 3) := by decide +kernel
theorem dX10_late_31 : decode cX10_late 31 = .ok (.aload_n 0, 1) := by decide +kernel
theorem dX10_late_32 : decode cX10_late 32 = .ok (.getfield 26, 3) := by decide +kernel
theorem dX10_late_35 : decode cX10_late 35 = .ok (.iload_n 1, 1) := by decide +kernel
theorem dX10_late_36 : decode cX10_late 36 = .ok (.invokevirtual 51, 3) := by decide +kernel
theorem dX10_late_39 : decode cX10_late 39 = .ok (.checkcast 88, 3) := by decide +kernel
theorem dX10_late_42 : decode cX10_late 42 = .ok (.getfield 97, 3) := by decide +kernel
theorem dX10_late_45 : decode cX10_late 45 = .ok (.ireturn, 1) := by decide +kernel
theorem dX10_session_0 : decode cX10_session 0 = .ok (.aload_n 0, 1) := by decide +kernel
theorem dX10_session_1 : decode cX10_session 1 = .ok (.iload_n 1, 1) := by decide +kernel
theorem dX10_session_2 : decode cX10_session 2 = .ok (.iconst 0, 1) := by decide +kernel
theorem dX10_session_3 : decode cX10_session 3 = .ok (.aload_n 0, 1) := by decide +kernel
theorem dX10_session_4 : decode cX10_session 4 = .ok (.getfield 10, 3) := by decide +kernel
theorem dX10_session_7 : decode cX10_session 7 = .ok (.invokevirtual 43, 3) := by decide +kernel
theorem dX10_session_10 : decode cX10_session 10 = .ok (.iconst 1, 1) := by decide +kernel
theorem dX10_session_11 : decode cX10_session 11 = .ok (.isub, 1) := by decide +kernel
theorem dX10_session_12 : decode cX10_session 12 = .ok (.invokestatic 47, 3) := by decide +kernel
theorem dX10_session_15 : decode cX10_session 15 = .ok (.ifCond .ne 7, 3) := by decide +kernel
theorem dX10_session_18 : decode cX10_session 18 = .ok (.iconst 1, 1) := by decide +kernel
theorem dX10_session_19 : decode cX10_session 19 = .ok (.goto 4, 3) := by decide +kernel
theorem dX10_session_22 : decode cX10_session 22 = .ok (.iconst 0, 1) := by decide +kernel
theorem dX10_session_23 : decode cX10_session 23 = .ok (.iconst 1, 1) := by decide +kernel
theorem dX10_session_24 : decode cX10_session 24 = .ok (.invokevirtual 186, 3) := by decide +kernel
theorem dX10_session_27 : decode cX10_session 27 = .ok (.ifCond .ne 77, 3) := by decide +kernel
theorem dX10_session_30 : decode cX10_session 30 = .ok (.aload_n 0, 1) := by decide +kernel
theorem dX10_session_31 : decode cX10_session 31 = .ok (.aload_n 0, 1) := by decide +kernel
theorem dX10_session_32 : decode cX10_session 32 = .ok (.getfield 10, 3) := by decide +kernel
theorem dX10_session_35 : decode cX10_session 35 = .ok (.iload_n 1, 1) := by decide +kernel
theorem dX10_session_36 : decode cX10_session 36 = .ok (.invokevirtual 51, 3) := by decide +kernel
theorem dX10_session_39 : decode cX10_session 39 = .ok (.checkcast 55, 3) := by decide +kernel
theorem dX10_session_42 : decode cX10_session 42 = .ok (.getfield 60, 3) := by decide +kernel
theorem dX10_session_45 : decode cX10_session 45 = .ok (.iconst 2, 1) := by decide +kernel
theorem dX10_session_46 : decode cX10_session 46 = .ok (.if_icmp .ne 21, 3) := by decide +kernel
theorem dX10_session_49 : decode cX10_session 49 = .ok (.aload_n 0, 1) := by decide +kernel
theorem dX10_session_50 : decode cX10_session 50 = .ok (.iload_n 2, 1) := by decide +kernel
theorem dX10_session_51 : decode cX10_session 51 = .ok (.invokevirtual 228, 3) := by decide +kernel
theorem dX10_session_54 : decode cX10_session 54 = .ok (.ifCond .ne 13, 3) := by decide +kernel
theorem dX10_session_57 : decode cX10_session 57 = .ok (.iload_n 3, 1) := by decide +kernel
theorem dX10_session_58 : decode cX10_session 58 = .ok (.iconst 1, 1) := by decide +kernel
theorem dX10_session_59 : decode cX10_session 59 = .ok (.bipush 9, 2) := by decide +kernel
theorem dX10_session_61 : decode cX10_session 61 = .ok (.invokestatic 47, 3) := by decide +kernel
theorem dX10_session_64 : decode cX10_session 64 = .ok (.ifCond .ne 7, 3) := by decide +kernel
theorem dX10_session_67 : decode cX10_session 67 = .ok (.iconst 1, 1) := by decide +kernel
theorem dX10_session_68 : decode cX10_session 68 = .ok (.goto 4, 3) := by decide +kernel
theorem dX10_session_71 : decode cX10_session 71 = .ok (.iconst 0, 1) := by decide +kernel
theorem dX10_session_72 : decode cX10_session 72 = .ok (.iconst 2, 1) := by decide +kernel
theorem dX10_session_73 : decode cX10_session 73 = .ok (.invokevirtual 39, 3) := by decide +kernel
theorem dX10_session_76 : decode cX10_session 76 = .ok (.ifCond .ne 28, 3) := by decide +kernel
theorem dX10_session_79 : decode cX10_session 79 = .ok (.aload_n 0, 1) := by decide +kernel
theorem dX10_session_80 : decode cX10_session 80 = .ok (.aload_n 0, 1) := by decide +kernel
theorem dX10_session_81 : decode cX10_session 81 = .ok (.getfield 29, 3) := by decide +kernel
theorem dX10_session_84 : decode cX10_session 84 = .ok (.invokevirtual 43, 3) := by decide +kernel
theorem dX10_session_87 : decode cX10_session 87 = .ok (.bipush 20, 2) := by decide +kernel
theorem dX10_session_89 : decode cX10_session 89 = .ok (.if_icmp .ne 7, 3) := by decide +kernel
theorem dX10_session_92 : decode cX10_session 92 = .ok (.iconst 1, 1) := by decide +kernel
theorem dX10_session_93 : decode cX10_session 93 = .ok (.goto 4, 3) := by decide +kernel
theorem dX10_session_96 : decode cX10_session 96 = .ok (.iconst 0, 1) := by decide +kernel
theorem dX10_session_97 : decode cX10_session 97 = .ok (.iconst 3, 1) := by decide +kernel
theorem dX10_session_98 : decode cX10_session 98 = .ok (.invokevirtual 39, 3) := by decide +kernel
theorem dX10_session_101 : decode cX10_session 101 = .ok (.ifCond .eq 5, 3) := by decide +kernel
theorem dX10_session_104 : decode cX10_session 104 = .ok (.iconst 0, 1) := by decide +kernel
theorem dX10_session_105 : decode cX10_session 105 = .ok (.ireturn, 1) := by decide +kernel
theorem dX10_session_106 : decode cX10_session 106 = .ok (.aload_n 0, 1) := by decide +kernel
theorem dX10_session_107 : decode cX10_session 107 = .ok (.getfield 29, 3) := by decide +kernel
theorem dX10_session_110 : decode cX10_session 110 = .ok (.new 129, 3) := by decide +kernel
theorem dX10_session_113 : decode cX10_session 113 = .ok (.dup, 1) := by decide +kernel
theorem dX10_session_114 : decode cX10_session 114 = .ok (.iload_n 1, 1) := by decide +kernel
theorem dX10_session_115 : decode cX10_session 115 = .ok (.iload_n 2, 1) := by decide +kernel
theorem dX10_session_116 : decode cX10_session 116 = .ok (.iload_n 3, 1) := by decide +kernel
theorem dX10_session_117 : decode cX10_session 117 = .ok (.invokespecial 237, 3) := by decide +kernel
theorem dX10_session_120 : decode cX10_session 120 = .ok (.invokevirtual 214, 3) := by decide +kernel
theorem dX10_session_123 : decode cX10_session 123 = .ok (.pop, 1) := by decide +kernel
theorem dX10_session_124 : decode cX10_session 124 = .ok (.aload_n 0, 1) := by decide +kernel
theorem dX10_session_125 : decode cX10_session 125 = .ok (.invokevirtual 201, 3) := by decide +kernel
theorem dX10_session_128 : decode cX10_session 128 = .ok (.aload_n 0, 1) := by decide +kernel
theorem dX10_session_129 : decode cX10_session 129 = .ok (.getfield 29, 3) := by decide +kernel
theorem dX10_session_132 : decode cX10_session 132 = .ok (.invokevirtual 43, 3) := by decide +kernel
theorem dX10_session_135 : decode cX10_session 135 = .ok (.iconst 1, 1) := by decide +kernel
theorem dX10_session_136 : decode cX10_session 136 = .ok (.isub, 1) := by decide +kernel
theorem dX10_session_137 : decode cX10_session 137 = .ok (.ireturn, 1) := by decide +kernel
theorem dX10_ofSessionNow_0 : decode cX10_ofSessionNow 0 = .ok (.aload_n 0, 1) := by decide +kernel
theorem dX10_ofSessionNow_1 : decode cX10_ofSessionNow 1 = .ok (.getfield 29, 3) := by decide +kernel
theorem dX10_ofSessionNow_4 : decode cX10_ofSessionNow 4 = .ok (.iload_n 1, 1) := by decide +kernel
theorem dX10_ofSessionNow_5 : decode cX10_ofSessionNow 5 = .ok (.invokevirtual 51, 3) := by decide +kernel
theorem dX10_ofSessionNow_8 : decode cX10_ofSessionNow 8 = .ok (.checkcast 129, 3) := by decide +kernel
theorem dX10_ofSessionNow_11 : decode cX10_ofSessionNow 11 = .ok (.astore_n 3, 1) := by decide +kernel
theorem dX10_ofSessionNow_12 : decode cX10_ofSessionNow 12 = .ok (.iconst 4, 1) := by decide +kernel
theorem dX10_ofSessionNow_13 : decode cX10_ofSessionNow 13 = .ok (.newarray .int, 2) := by decide +kernel
theorem dX10_ofSessionNow_15 : decode cX10_ofSessionNow 15 = .ok (.dup, 1) := by decide +kernel
theorem dX10_ofSessionNow_16 : decode cX10_ofSessionNow 16 = .ok (.iconst 0, 1) := by decide +kernel
theorem dX10_ofSessionNow_17 : decode cX10_ofSessionNow 17 = .ok (.aload_n 3, 1) := by decide +kernel
theorem dX10_ofSessionNow_18 : decode cX10_ofSessionNow 18 = .ok (.getfield 160, 3) := by decide +kernel
theorem dX10_ofSessionNow_21 : decode cX10_ofSessionNow 21 = .ok (.iastore, 1) := by decide +kernel
theorem dX10_ofSessionNow_22 : decode cX10_ofSessionNow 22 = .ok (.dup, 1) := by decide +kernel
theorem dX10_ofSessionNow_23 : decode cX10_ofSessionNow 23 = .ok (.iconst 1, 1) := by decide +kernel
theorem dX10_ofSessionNow_24 : decode cX10_ofSessionNow 24 = .ok (.aload_n 3, 1) := by decide +kernel
theorem dX10_ofSessionNow_25 : decode cX10_ofSessionNow 25 = .ok (.getfield 131, 3) := by decide +kernel
theorem dX10_ofSessionNow_28 : decode cX10_ofSessionNow 28 = .ok (.iastore, 1) := by decide +kernel
theorem dX10_ofSessionNow_29 : decode cX10_ofSessionNow 29 = .ok (.dup, 1) := by decide +kernel
theorem dX10_ofSessionNow_30 : decode cX10_ofSessionNow 30 = .ok (.iconst 2, 1) := by decide +kernel
theorem dX10_ofSessionNow_31 : decode cX10_ofSessionNow 31 = .ok (.aload_n 3, 1) := by decide +kernel
theorem dX10_ofSessionNow_32 : decode cX10_ofSessionNow 32 = .ok (.getfield 166, 3) := by decide +kernel
theorem dX10_ofSessionNow_35 : decode cX10_ofSessionNow 35 = .ok (.iastore, 1) := by decide +kernel
theorem dX10_ofSessionNow_36 : decode cX10_ofSessionNow 36 = .ok (.dup, 1) := by decide +kernel
theorem dX10_ofSessionNow_37 : decode cX10_ofSessionNow 37 = .ok (.iconst 3, 1) := by decide +kernel
theorem dX10_ofSessionNow_38 : decode cX10_ofSessionNow 38 = .ok (.aload_n 0, 1) := by decide +kernel
theorem dX10_ofSessionNow_39 : decode cX10_ofSessionNow 39 = .ok (.iload_n 1, 1) := by decide +kernel
theorem dX10_ofSessionNow_40 : decode cX10_ofSessionNow 40 = .ok (.invokevirtual 163, 3) := by decide +kernel
theorem dX10_ofSessionNow_43 : decode cX10_ofSessionNow 43 = .ok (.iastore, 1) := by decide +kernel
theorem dX10_ofSessionNow_44 : decode cX10_ofSessionNow 44 = .ok (.astore 4, 2) := by decide +kernel
theorem dX10_ofSessionNow_46 : decode cX10_ofSessionNow 46 = .ok (.aload 4, 2) := by decide +kernel
theorem dX10_ofSessionNow_48 : decode cX10_ofSessionNow 48 = .ok (.iload_n 2, 1) := by decide +kernel
theorem dX10_ofSessionNow_49 : decode cX10_ofSessionNow 49 = .ok (.iaload, 1) := by decide +kernel
theorem dX10_ofSessionNow_50 : decode cX10_ofSessionNow 50 = .ok (.ireturn, 1) := by decide +kernel
theorem dX10_ofSession_0 : decode cX10_ofSession 0 = .ok (.aload_n 0, 1) := by decide +kernel
theorem dX10_ofSession_1 : decode cX10_ofSession 1 = .ok (.iload_n 1, 1) := by decide +kernel
theorem dX10_ofSession_2 : decode cX10_ofSession 2 = .ok (.iconst 0, 1) := by decide +kernel
theorem dX10_ofSession_3 : decode cX10_ofSession 3 = .ok (.aload_n 0, 1) := by decide +kernel
theorem dX10_ofSession_4 : decode cX10_ofSession 4 = .ok (.getfield 29, 3) := by decide +kernel
theorem dX10_ofSession_7 : decode cX10_ofSession 7 = .ok (.invokevirtual 43, 3) := by decide +kernel
theorem dX10_ofSession_10 : decode cX10_ofSession 10 = .ok (.iconst 1, 1) := by decide +kernel
theorem dX10_ofSession_11 : decode cX10_ofSession 11 = .ok (.isub, 1) := by decide +kernel
theorem dX10_ofSession_12 : decode cX10_ofSession 12 = .ok (.invokestatic 47, 3) := by decide +kernel
theorem dX10_ofSession_15 : decode cX10_ofSession 15 = .ok (.ifCond .ne 7, 3) := by decide +kernel
theorem dX10_ofSession_18 : decode cX10_ofSession 18 = .ok (.iconst 1, 1) := by decide +kernel
theorem dX10_ofSession_19 : decode cX10_ofSession 19 = .ok (.goto 4, 3) := by decide +kernel
theorem dX10_ofSession_22 : decode cX10_ofSession 22 = .ok (.iconst 0, 1) := by decide +kernel
theorem dX10_ofSession_23 : decode cX10_ofSession 23 = .ok (.iconst 1, 1) := by decide +kernel
theorem dX10_ofSession_24 : decode cX10_ofSession 24 = .ok (.invokevirtual 186, 3) := by decide +kernel
theorem dX10_ofSession_27 : decode cX10_ofSession 27 = .ok (.ifCond .ne 25, 3) := by decide +kernel
theorem dX10_ofSession_30 : decode cX10_ofSession 30 = .ok (.aload_n 0, 1) := by decide +kernel
theorem dX10_ofSession_31 : decode cX10_ofSession 31 = .ok (.iload_n 2, 1) := by decide +kernel
theorem dX10_ofSession_32 : decode cX10_ofSession 32 = .ok (.iconst 0, 1) := by decide +kernel
theorem dX10_ofSession_33 : decode cX10_ofSession 33 = .ok (.iconst 3, 1) := by decide +kernel
theorem dX10_ofSession_34 : decode cX10_ofSession 34 = .ok (.invokestatic 47, 3) := by decide +kernel
theorem dX10_ofSession_37 : decode cX10_ofSession 37 = .ok (.ifCond .ne 7, 3) := by decide +kernel
theorem dX10_ofSession_40 : decode cX10_ofSession 40 = .ok (.iconst 1, 1) := by decide +kernel
theorem dX10_ofSession_41 : decode cX10_ofSession 41 = .ok (.goto 4, 3) := by decide +kernel
theorem dX10_ofSession_44 : decode cX10_ofSession 44 = .ok (.iconst 0, 1) := by decide +kernel
theorem dX10_ofSession_45 : decode cX10_ofSession 45 = .ok (.iconst 2, 1) := by decide +kernel
theorem dX10_ofSession_46 : decode cX10_ofSession 46 = .ok (.invokevirtual 39, 3) := by decide +kernel
theorem dX10_ofSession_49 : decode cX10_ofSession 49 = .ok (.ifCond .eq 7, 3) := by decide +kernel
theorem dX10_ofSession_52 : decode cX10_ofSession 52 = .ok (.iconst 0, 1) := by decide +kernel
theorem dX10_ofSession_53 : decode cX10_ofSession 53 = .ok (.goto 9, 3) := by decide +kernel
theorem dX10_ofSession_56 : decode cX10_ofSession 56 = .ok (.aload_n 0, 1) := by decide +kernel
theorem dX10_ofSession_57 : decode cX10_ofSession 57 = .ok (.iload_n 1, 1) := by decide +kernel
theorem dX10_ofSession_58 : decode cX10_ofSession 58 = .ok (.iload_n 2, 1) := by decide +kernel
theorem dX10_ofSession_59 : decode cX10_ofSession 59 = .ok (.invokevirtual 238, 3) := by decide +kernel
theorem dX10_ofSession_62 : decode cX10_ofSession 62 = .ok (.ireturn, 1) := by decide +kernel
theorem dX10_ofItemNow_0 : decode cX10_ofItemNow 0 = .ok (.iload_n 2, 1) := by decide +kernel
theorem dX10_ofItemNow_1 : decode cX10_ofItemNow 1 = .ok (.ifCond .ne 10, 3) := by decide +kernel
theorem dX10_ofItemNow_4 : decode cX10_ofItemNow 4 = .ok (.aload_n 0, 1) := by decide +kernel
theorem dX10_ofItemNow_5 : decode cX10_ofItemNow 5 = .ok (.getfield 23, 3) := by decide +kernel
theorem dX10_ofItemNow_8 : decode cX10_ofItemNow 8 = .ok (.iload_n 1, 1) := by decide +kernel
theorem dX10_ofItemNow_9 : decode cX10_ofItemNow 9 = .ok (.iaload, 1) := by decide +kernel
theorem dX10_ofItemNow_10 : decode cX10_ofItemNow 10 = .ok (.ireturn, 1) := by decide +kernel
theorem dX10_ofItemNow_11 : decode cX10_ofItemNow 11 = .ok (.iload_n 2, 1) := by decide +kernel
theorem dX10_ofItemNow_12 : decode cX10_ofItemNow 12 = .ok (.iconst 2, 1) := by decide +kernel
theorem dX10_ofItemNow_13 : decode cX10_ofItemNow 13 = .ok (.if_icmp .ne 9, 3) := by decide +kernel
theorem dX10_ofItemNow_16 : decode cX10_ofItemNow 16 = .ok (.aload_n 0, 1) := by decide +kernel
theorem dX10_ofItemNow_17 : decode cX10_ofItemNow 17 = .ok (.iload_n 1, 1) := by decide +kernel
theorem dX10_ofItemNow_18 : decode cX10_ofItemNow 18 = .ok (.invokevirtual 132, 3) := by decide +kernel
theorem dX10_ofItemNow_21 : decode cX10_ofItemNow 21 = .ok (.ireturn, 1) := by decide +kernel
theorem dX10_ofItemNow_22 : decode cX10_ofItemNow 22 = .ok (.iconst 0, 1) := by decide +kernel
theorem dX10_ofItemNow_23 : decode cX10_ofItemNow 23 = .ok (.istore_n 3, 1) := by decide +kernel
theorem dX10_ofItemNow_24 : decode cX10_ofItemNow 24 = .ok (.iload_n 2, 1) := by decide +kernel
theorem dX10_ofItemNow_25 : decode cX10_ofItemNow 25 = .ok (.iconst 1, 1) := by decide +kernel
theorem dX10_ofItemNow_26 : decode cX10_ofItemNow 26 = .ok (.if_icmp .ne 68, 3) := by decide +kernel
theorem dX10_ofItemNow_29 : decode cX10_ofItemNow 29 = .ok (.aload_n 0, 1) := by decide +kernel
theorem dX10_ofItemNow_30 : decode cX10_ofItemNow 30 = .ok (.getfield 26, 3) := by decide +kernel
theorem dX10_ofItemNow_33 : decode cX10_ofItemNow 33 = .ok (.invokevirtual 146, 3) := by decide +kernel
theorem dX10_ofItemNow_36 : decode cX10_ofItemNow 36 = .ok (.astore 4, 2) := by decide +kernel
theorem dX10_ofItemNow_38 : decode cX10_ofItemNow 38 = .ok (.aload 4, 2) := by decide +kernel
theorem dX10_ofItemNow_40 : decode cX10_ofItemNow 40 = .ok (.invokeinterface 150 1, 5) := by decide +kernel
theorem dX10_ofItemNow_45 : decode cX10_ofItemNow 45 = .ok (.ifCond .eq 47, 3) := by decide +kernel
theorem dX10_ofItemNow_48 : decode cX10_ofItemNow 48 = .ok (.aload 4, 2) := by decide +kernel
theorem dX10_ofItemNow_50 : decode cX10_ofItemNow 50 = .ok (.invokeinterface 156 1, 5) := by decide +kernel
theorem dX10_ofItemNow_55 : decode cX10_ofItemNow 55 = .ok (.checkcast 88, 3) := by decide +kernel
theorem dX10_ofItemNow_58 : decode cX10_ofItemNow 58 = .ok (.astore 5, 2) := by decide +kernel
theorem dX10_ofItemNow_60 : decode cX10_ofItemNow 60 = .ok (.iload_n 3, 1) := by decide +kernel
theorem dX10_ofItemNow_61 : decode cX10_ofItemNow 61 = .ok (.aload 5, 2) := by decide +kernel
theorem dX10_ofItemNow_63 : decode cX10_ofItemNow 63 = .ok (.getfield 90, 3) := by decide +kernel
theorem dX10_ofItemNow_66 : decode cX10_ofItemNow 66 = .ok (.iload_n 1, 1) := by decide +kernel
theorem dX10_ofItemNow_67 : decode cX10_ofItemNow 67 = .ok (.if_icmp .ne 19, 3) := by decide +kernel
theorem dX10_ofItemNow_70 : decode cX10_ofItemNow 70 = .ok (.aload 5, 2) := by decide +kernel
theorem dX10_ofItemNow_72 : decode cX10_ofItemNow 72 = .ok (.getfield 93, 3) := by decide +kernel
theorem dX10_ofItemNow_75 : decode cX10_ofItemNow 75 = .ok (.ifCond .ne 11, 3) := by decide +kernel
theorem dX10_ofItemNow_78 : decode cX10_ofItemNow 78 = .ok (.aload 5, 2) := by decide +kernel
theorem dX10_ofItemNow_80 : decode cX10_ofItemNow 80 = .ok (.getfield 188, 3) := by decide +kernel
theorem dX10_ofItemNow_83 : decode cX10_ofItemNow 83 = .ok (.goto 4, 3) := by decide +kernel
theorem dX10_ofItemNow_86 : decode cX10_ofItemNow 86 = .ok (.iconst 0, 1) := by decide +kernel
theorem dX10_ofItemNow_87 : decode cX10_ofItemNow 87 = .ok (.iadd, 1) := by decide +kernel
theorem dX10_ofItemNow_88 : decode cX10_ofItemNow 88 = .ok (.istore_n 3, 1) := by decide +kernel
theorem dX10_ofItemNow_89 : decode cX10_ofItemNow 89 = .ok (.goto (-51), 3) := by decide +kernel
theorem dX10_ofItemNow_92 : decode cX10_ofItemNow 92 = .ok (.iload_n 3, 1) := by decide +kernel
theorem dX10_ofItemNow_93 : decode cX10_ofItemNow 93 = .ok (.ireturn, 1) := by decide +kernel
theorem dX10_ofItemNow_94 : decode cX10_ofItemNow 94 = .ok (.aload_n 0, 1) := by decide +kernel
theorem dX10_ofItemNow_95 : decode cX10_ofItemNow 95 = .ok (.getfield 32, 3) := by decide +kernel
theorem dX10_ofItemNow_98 : decode cX10_ofItemNow 98 = .ok (.invokevirtual 146, 3) := by decide +kernel
theorem dX10_ofItemNow_101 : decode cX10_ofItemNow 101 = .ok (.astore 4, 2) := by decide +kernel
theorem dX10_ofItemNow_103 : decode cX10_ofItemNow 103 = .ok (.aload 4, 2) := by decide +kernel
theorem dX10_ofItemNow_105 : decode cX10_ofItemNow 105 = .ok (.invokeinterface 150 1, 5) := by decide +kernel
theorem dX10_ofItemNow_110 : decode cX10_ofItemNow 110 = .ok (.ifCond .eq 96, 3) := by decide +kernel
theorem dX10_ofItemNow_113 : decode cX10_ofItemNow 113 = .ok (.aload 4, 2) := by decide +kernel
theorem dX10_ofItemNow_115 : decode cX10_ofItemNow 115 = .ok (.invokeinterface 156 1, 5) := by decide +kernel
theorem dX10_ofItemNow_120 : decode cX10_ofItemNow 120 = .ok (.checkcast 64, 3) := by decide +kernel
theorem dX10_ofItemNow_123 : decode cX10_ofItemNow 123 = .ok (.astore 5, 2) := by decide +kernel
theorem dX10_ofItemNow_125 : decode cX10_ofItemNow 125 = .ok (.iconst 0, 1) := by decide +kernel
theorem dX10_ofItemNow_126 : decode cX10_ofItemNow 126 = .ok (.istore 6, 2) := by decide +kernel
theorem dX10_ofItemNow_128 : decode cX10_ofItemNow 128 = .ok (.iload 6, 2) := by decide +kernel
theorem dX10_ofItemNow_130 : decode cX10_ofItemNow 130 = .ok (.aload_n 0, 1) := by decide +kernel
theorem dX10_ofItemNow_131 : decode cX10_ofItemNow 131 = .ok (.getfield 10, 3) := by decide +kernel
theorem dX10_ofItemNow_134 : decode cX10_ofItemNow 134 = .ok (.invokevirtual 43, 3) := by decide +kernel
theorem dX10_ofItemNow_137 : decode cX10_ofItemNow 137 = .ok (.if_icmp .ge 66, 3) := by decide +kernel
theorem dX10_ofItemNow_140 : decode cX10_ofItemNow 140 = .ok (.iload_n 3, 1) := by decide +kernel
theorem dX10_ofItemNow_141 : decode cX10_ofItemNow 141 = .ok (.aload_n 0, 1) := by decide +kernel
theorem dX10_ofItemNow_142 : decode cX10_ofItemNow 142 = .ok (.getfield 10, 3) := by decide +kernel
theorem dX10_ofItemNow_145 : decode cX10_ofItemNow 145 = .ok (.iload 6, 2) := by decide +kernel
theorem dX10_ofItemNow_147 : decode cX10_ofItemNow 147 = .ok (.invokevirtual 51, 3) := by decide +kernel
theorem dX10_ofItemNow_150 : decode cX10_ofItemNow 150 = .ok (.checkcast 55, 3) := by decide +kernel
theorem dX10_ofItemNow_153 : decode cX10_ofItemNow 153 = .ok (.getfield 60, 3) := by decide +kernel
theorem dX10_ofItemNow_156 : decode cX10_ofItemNow 156 = .ok (.iconst 1, 1) := by decide +kernel
theorem dX10_ofItemNow_157 : decode cX10_ofItemNow 157 = .ok (.if_icmp .ne 37, 3) := by decide +kernel
theorem dX10_ofItemNow_160 : decode cX10_ofItemNow 160 = .ok (.aload_n 0, 1) := by decide +kernel
theorem dX10_ofItemNow_161 : decode cX10_ofItemNow 161 = .ok (.getfield 10, 3) := by decide +kernel
theorem dX10_ofItemNow_164 : decode cX10_ofItemNow 164 = .ok (.iload 6, 2) := by decide +kernel
theorem dX10_ofItemNow_166 : decode cX10_ofItemNow 166 = .ok (.invokevirtual 51, 3) := by decide +kernel
theorem dX10_ofItemNow_169 : decode cX10_ofItemNow 169 = .ok (.checkcast 55, 3) := by decide +kernel
theorem dX10_ofItemNow_172 : decode cX10_ofItemNow 172 = .ok (.getfield 57, 3) := by decide +kernel
theorem dX10_ofItemNow_175 : decode cX10_ofItemNow 175 = .ok (.iload_n 1, 1) := by decide +kernel
theorem dX10_ofItemNow_176 : decode cX10_ofItemNow 176 = .ok (.if_icmp .ne 18, 3) := by decide +kernel
theorem dX10_ofItemNow_179 : decode cX10_ofItemNow 179 = .ok (.aload_n 0, 1) := by decide +kernel
theorem dX10_ofItemNow_180 : decode cX10_ofItemNow 180 = .ok (.aload 5, 2) := by decide +kernel
theorem dX10_ofItemNow_182 : decode cX10_ofItemNow 182 = .ok (.iload 6, 2) := by decide +kernel
theorem dX10_ofItemNow_184 : decode cX10_ofItemNow 184 = .ok (.invokevirtual 176, 3) := by decide +kernel
theorem dX10_ofItemNow_187 : decode cX10_ofItemNow 187 = .ok (.ifCond .eq 7, 3) := by decide +kernel
theorem dX10_ofItemNow_190 : decode cX10_ofItemNow 190 = .ok (.iconst 1, 1) := by decide +kernel
theorem dX10_ofItemNow_191 : decode cX10_ofItemNow 191 = .ok (.goto 4, 3) := by decide +kernel
theorem dX10_ofItemNow_194 : decode cX10_ofItemNow 194 = .ok (.iconst 0, 1) := by decide +kernel
theorem dX10_ofItemNow_195 : decode cX10_ofItemNow 195 = .ok (.iadd, 1) := by decide +kernel
theorem dX10_ofItemNow_196 : decode cX10_ofItemNow 196 = .ok (.istore_n 3, 1) := by decide +kernel
theorem dX10_ofItemNow_197 : decode cX10_ofItemNow 197 = .ok (.iinc 6 1, 3) := by decide +kernel
theorem dX10_ofItemNow_200 : decode cX10_ofItemNow 200 = .ok (.goto (-72), 3) := by decide +kernel
theorem dX10_ofItemNow_203 : decode cX10_ofItemNow 203 = .ok (.goto (-100), 3) := by decide +kernel
theorem dX10_ofItemNow_206 : decode cX10_ofItemNow 206 = .ok (.iload_n 3, 1) := by decide +kernel
theorem dX10_ofItemNow_207 : decode cX10_ofItemNow 207 = .ok (.ireturn, 1) := by decide +kernel
theorem dX10_ofItem_0 : decode cX10_ofItem 0 = .ok (.aload_n 0, 1) := by decide +kernel
theorem dX10_ofItem_1 : decode cX10_ofItem 1 = .ok (.iload_n 1, 1) := by decide +kernel
theorem dX10_ofItem_2 : decode cX10_ofItem 2 = .ok (.invokestatic 225, 3) := by decide +kernel
theorem dX10_ofItem_5 : decode cX10_ofItem 5 = .ok (.iconst 1, 1) := by decide +kernel
theorem dX10_ofItem_6 : decode cX10_ofItem 6 = .ok (.invokevirtual 186, 3) := by decide +kernel
theorem dX10_ofItem_9 : decode cX10_ofItem 9 = .ok (.ifCond .ne 25, 3) := by decide +kernel
theorem dX10_ofItem_12 : decode cX10_ofItem 12 = .ok (.aload_n 0, 1) := by decide +kernel
theorem dX10_ofItem_13 : decode cX10_ofItem 13 = .ok (.iload_n 2, 1) := by decide +kernel
theorem dX10_ofItem_14 : decode cX10_ofItem 14 = .ok (.iconst 0, 1) := by decide +kernel
theorem dX10_ofItem_15 : decode cX10_ofItem 15 = .ok (.iconst 3, 1) := by decide +kernel
theorem dX10_ofItem_16 : decode cX10_ofItem 16 = .ok (.invokestatic 47, 3) := by decide +kernel
theorem dX10_ofItem_19 : decode cX10_ofItem 19 = .ok (.ifCond .ne 7, 3) := by decide +kernel
theorem dX10_ofItem_22 : decode cX10_ofItem 22 = .ok (.iconst 1, 1) := by decide +kernel
theorem dX10_ofItem_23 : decode cX10_ofItem 23 = .ok (.goto 4, 3) := by decide +kernel
theorem dX10_ofItem_26 : decode cX10_ofItem 26 = .ok (.iconst 0, 1) := by decide +kernel
theorem dX10_ofItem_27 : decode cX10_ofItem 27 = .ok (.iconst 2, 1) := by decide +kernel
theorem dX10_ofItem_28 : decode cX10_ofItem 28 = .ok (.invokevirtual 39, 3) := by decide +kernel
theorem dX10_ofItem_31 : decode cX10_ofItem 31 = .ok (.ifCond .eq 7, 3) := by decide +kernel
theorem dX10_ofItem_34 : decode cX10_ofItem 34 = .ok (.iconst 0, 1) := by decide +kernel
theorem dX10_ofItem_35 : decode cX10_ofItem 35 = .ok (.goto 9, 3) := by decide +kernel
theorem dX10_ofItem_38 : decode cX10_ofItem 38 = .ok (.aload_n 0, 1) := by decide +kernel
theorem dX10_ofItem_39 : decode cX10_ofItem 39 = .ok (.iload_n 1, 1) := by decide +kernel
theorem dX10_ofItem_40 : decode cX10_ofItem 40 = .ok (.iload_n 2, 1) := by decide +kernel
theorem dX10_ofItem_41 : decode cX10_ofItem 41 = .ok (.invokevirtual 241, 3) := by decide +kernel
theorem dX10_ofItem_44 : decode cX10_ofItem 44 = .ok (.ireturn, 1) := by decide +kernel
theorem dX10_join_0 : decode cX10_join 0 = .ok (.aload_n 0, 1) := by decide +kernel
theorem dX10_join_1 : decode cX10_join 1 = .ok (.iload_n 1, 1) := by decide +kernel
theorem dX10_join_2 : decode cX10_join 2 = .ok (.invokestatic 218, 3) := by decide +kernel
theorem dX10_join_5 : decode cX10_join 5 = .ok (.iconst 1, 1) := by decide +kernel
theorem dX10_join_6 : decode cX10_join 6 = .ok (.invokevirtual 186, 3) := by decide +kernel
theorem dX10_join_9 : decode cX10_join 9 = .ok (.ifCond .ne 50, 3) := by decide +kernel
theorem dX10_join_12 : decode cX10_join 12 = .ok (.aload_n 0, 1) := by decide +kernel
theorem dX10_join_13 : decode cX10_join 13 = .ok (.aload_n 0, 1) := by decide +kernel
theorem dX10_join_14 : decode cX10_join 14 = .ok (.iload_n 2, 1) := by decide +kernel
theorem dX10_join_15 : decode cX10_join 15 = .ok (.invokevirtual 228, 3) := by decide +kernel
theorem dX10_join_18 : decode cX10_join 18 = .ok (.iconst 2, 1) := by decide +kernel
theorem dX10_join_19 : decode cX10_join 19 = .ok (.invokevirtual 39, 3) := by decide +kernel
theorem dX10_join_22 : decode cX10_join 22 = .ok (.ifCond .ne 37, 3) := by decide +kernel
theorem dX10_join_25 : decode cX10_join 25 = .ok (.aload_n 0, 1) := by decide +kernel
theorem dX10_join_26 : decode cX10_join 26 = .ok (.aload_n 0, 1) := by decide +kernel
theorem dX10_join_27 : decode cX10_join 27 = .ok (.getfield 32, 3) := by decide +kernel
theorem dX10_join_30 : decode cX10_join 30 = .ok (.invokevirtual 43, 3) := by decide +kernel
theorem dX10_join_33 : decode cX10_join 33 = .ok (.bipush 8, 2) := by decide +kernel
theorem dX10_join_35 : decode cX10_join 35 = .ok (.if_icmp .eq 12, 3) := by decide +kernel
theorem dX10_join_38 : decode cX10_join 38 = .ok (.aload_n 0, 1) := by decide +kernel
theorem dX10_join_39 : decode cX10_join 39 = .ok (.getfield 16, 3) := by decide +kernel
theorem dX10_join_42 : decode cX10_join 42 = .ok (.iload_n 1, 1) := by decide +kernel
theorem dX10_join_43 : decode cX10_join 43 = .ok (.iaload, 1) := by decide +kernel
theorem dX10_join_44 : decode cX10_join 44 = .ok (.ifCond .ne 7, 3) := by decide +kernel
theorem dX10_join_47 : decode cX10_join 47 = .ok (.iconst 1, 1) := by decide +kernel
theorem dX10_join_48 : decode cX10_join 48 = .ok (.goto 4, 3) := by decide +kernel
theorem dX10_join_51 : decode cX10_join 51 = .ok (.iconst 0, 1) := by decide +kernel
theorem dX10_join_52 : decode cX10_join 52 = .ok (.iconst 3, 1) := by decide +kernel
theorem dX10_join_53 : decode cX10_join 53 = .ok (.invokevirtual 39, 3) := by decide +kernel
theorem dX10_join_56 : decode cX10_join 56 = .ok (.ifCond .eq 5, 3) := by decide +kernel
theorem dX10_join_59 : decode cX10_join 59 = .ok (.iconst 0, 1) := by decide +kernel
theorem dX10_join_60 : decode cX10_join 60 = .ok (.ireturn, 1) := by decide +kernel
theorem dX10_join_61 : decode cX10_join 61 = .ok (.aload_n 0, 1) := by decide +kernel
theorem dX10_join_62 : decode cX10_join 62 = .ok (.getfield 32, 3) := by decide +kernel
theorem dX10_join_65 : decode cX10_join 65 = .ok (.new 64, 3) := by decide +kernel
theorem dX10_join_68 : decode cX10_join 68 = .ok (.dup, 1) := by decide +kernel
theorem dX10_join_69 : decode cX10_join 69 = .ok (.aload_n 0, 1) := by decide +kernel
theorem dX10_join_70 : decode cX10_join 70 = .ok (.getfield 16, 3) := by decide +kernel
theorem dX10_join_73 : decode cX10_join 73 = .ok (.iload_n 1, 1) := by decide +kernel
theorem dX10_join_74 : decode cX10_join 74 = .ok (.iaload, 1) := by decide +kernel
theorem dX10_join_75 : decode cX10_join 75 = .ok (.iload_n 2, 1) := by decide +kernel
theorem dX10_join_76 : decode cX10_join 76 = .ok (.invokespecial 244, 3) := by decide +kernel
theorem dX10_join_79 : decode cX10_join 79 = .ok (.invokevirtual 214, 3) := by decide +kernel
theorem dX10_join_82 : decode cX10_join 82 = .ok (.pop, 1) := by decide +kernel
theorem dX10_join_83 : decode cX10_join 83 = .ok (.aload_n 0, 1) := by decide +kernel
theorem dX10_join_84 : decode cX10_join 84 = .ok (.invokevirtual 201, 3) := by decide +kernel
theorem dX10_join_87 : decode cX10_join 87 = .ok (.aload_n 0, 1) := by decide +kernel
theorem dX10_join_88 : decode cX10_join 88 = .ok (.getfield 32, 3) := by decide +kernel
theorem dX10_join_91 : decode cX10_join 91 = .ok (.invokevirtual 43, 3) := by decide +kernel
theorem dX10_join_94 : decode cX10_join 94 = .ok (.iconst 1, 1) := by decide +kernel
theorem dX10_join_95 : decode cX10_join 95 = .ok (.isub, 1) := by decide +kernel
theorem dX10_join_96 : decode cX10_join 96 = .ok (.ireturn, 1) := by decide +kernel
theorem dX10_isNo_0 : decode cX10_isNo 0 = .ok (.iload_n 1, 1) := by decide +kernel
theorem dX10_isNo_1 : decode cX10_isNo 1 = .ok (.iconst 0, 1) := by decide +kernel
theorem dX10_isNo_2 : decode cX10_isNo 2 = .ok (.aload_n 0, 1) := by decide +kernel
theorem dX10_isNo_3 : decode cX10_isNo 3 = .ok (.getfield 32, 3) := by decide +kernel
theorem dX10_isNo_6 : decode cX10_isNo 6 = .ok (.invokevirtual 43, 3) := by decide +kernel
theorem dX10_isNo_9 : decode cX10_isNo 9 = .ok (.iconst 1, 1) := by decide +kernel
theorem dX10_isNo_10 : decode cX10_isNo 10 = .ok (.isub, 1) := by decide +kernel
theorem dX10_isNo_11 : decode cX10_isNo 11 = .ok (.invokestatic 47, 3) := by decide +kernel
theorem dX10_isNo_14 : decode cX10_isNo 14 = .ok (.ifCond .ne 7, 3) := by decide +kernel
theorem dX10_isNo_17 : decode cX10_isNo 17 = .ok (.iconst 1, 1) := by decide +kernel
theorem dX10_isNo_18 : decode cX10_isNo 18 = .ok (.goto 4, 3) := by decide +kernel
theorem dX10_isNo_21 : decode cX10_isNo 21 = .ok (.iconst 0, 1) := by decide +kernel
theorem dX10_isNo_22 : decode cX10_isNo 22 = .ok (.ireturn, 1) := by decide +kernel
theorem dX10_isNoJoiner_0 : decode cX10_isNoJoiner 0 = .ok (.aload_n 0, 1) := by decide +kernel
theorem dX10_isNoJoiner_1 : decode cX10_isNoJoiner 1 = .ok (.aload_n 0, 1) := by decide +kernel
theorem dX10_isNoJoiner_2 : decode cX10_isNoJoiner 2 = .ok (.iload_n 1, 1) := by decide +kernel
theorem dX10_isNoJoiner_3 : decode cX10_isNoJoiner 3 = .ok (.invokevirtual 247, 3) := by decide +kernel
theorem dX10_isNoJoiner_6 : decode cX10_isNoJoiner 6 = .ok (.iconst 1, 1) := by decide +kernel
theorem dX10_isNoJoiner_7 : decode cX10_isNoJoiner 7 = .ok (.invokevirtual 186, 3) := by decide +kernel
theorem dX10_isNoJoiner_10 : decode cX10_isNoJoiner 10 = .ok (.ireturn, 1) := by decide +kernel
theorem dX10_leave_0 : decode cX10_leave 0 = .ok (.aload_n 0, 1) := by decide +kernel
theorem dX10_leave_1 : decode cX10_leave 1 = .ok (.iload_n 1, 1) := by decide +kernel
theorem dX10_leave_2 : decode cX10_leave 2 = .ok (.invokevirtual 250, 3) := by decide +kernel
theorem dX10_leave_5 : decode cX10_leave 5 = .ok (.ifCond .ne 25, 3) := by decide +kernel
theorem dX10_leave_8 : decode cX10_leave 8 = .ok (.aload_n 0, 1) := by decide +kernel
theorem dX10_leave_9 : decode cX10_leave 9 = .ok (.aload_n 0, 1) := by decide +kernel
theorem dX10_leave_10 : decode cX10_leave 10 = .ok (.getfield 32, 3) := by decide +kernel
theorem dX10_leave_13 : decode cX10_leave 13 = .ok (.iload_n 1, 1) := by decide +kernel
theorem dX10_leave_14 : decode cX10_leave 14 = .ok (.invokevirtual 51, 3) := by decide +kernel
theorem dX10_leave_17 : decode cX10_leave 17 = .ok (.checkcast 64, 3) := by decide +kernel
theorem dX10_leave_20 : decode cX10_leave 20 = .ok (.getfield 140, 3) := by decide +kernel
theorem dX10_leave_23 : decode cX10_leave 23 = .ok (.iconst 2, 1) := by decide +kernel
theorem dX10_leave_24 : decode cX10_leave 24 = .ok (.invokevirtual 39, 3) := by decide +kernel
theorem dX10_leave_27 : decode cX10_leave 27 = .ok (.ifCond .eq 5, 3) := by decide +kernel
theorem dX10_leave_30 : decode cX10_leave 30 = .ok (.iconst 0, 1) := by decide +kernel
theorem dX10_leave_31 : decode cX10_leave 31 = .ok (.ireturn, 1) := by decide +kernel
theorem dX10_leave_32 : decode cX10_leave 32 = .ok (.aload_n 0, 1) := by decide +kernel
theorem dX10_leave_33 : decode cX10_leave 33 = .ok (.getfield 32, 3) := by decide +kernel
theorem dX10_leave_36 : decode cX10_leave 36 = .ok (.iload_n 1, 1) := by decide +kernel
theorem dX10_leave_37 : decode cX10_leave 37 = .ok (.invokevirtual 51, 3) := by decide +kernel
theorem dX10_leave_40 : decode cX10_leave 40 = .ok (.checkcast 64, 3) := by decide +kernel
theorem dX10_leave_43 : decode cX10_leave 43 = .ok (.astore_n 2, 1) := by decide +kernel
theorem dX10_leave_44 : decode cX10_leave 44 = .ok (.aload_n 2, 1) := by decide +kernel
theorem dX10_leave_45 : decode cX10_leave 45 = .ok (.iconst 1, 1) := by decide +kernel
theorem dX10_leave_46 : decode cX10_leave 46 = .ok (.putfield 140, 3) := by decide +kernel
theorem dX10_leave_49 : decode cX10_leave 49 = .ok (.iconst 0, 1) := by decide +kernel
theorem dX10_leave_50 : decode cX10_leave 50 = .ok (.istore_n 3, 1) := by decide +kernel
theorem dX10_leave_51 : decode cX10_leave 51 = .ok (.iload_n 3, 1) := by decide +kernel
theorem dX10_leave_52 : decode cX10_leave 52 = .ok (.bipush 12, 2) := by decide +kernel
theorem dX10_leave_54 : decode cX10_leave 54 = .ok (.if_icmp .ge 25, 3) := by decide +kernel
theorem dX10_leave_57 : decode cX10_leave 57 = .ok (.aload_n 2, 1) := by decide +kernel
theorem dX10_leave_58 : decode cX10_leave 58 = .ok (.iload_n 3, 1) := by decide +kernel
theorem dX10_leave_59 : decode cX10_leave 59 = .ok (.iconst 0, 1) := by decide +kernel
theorem dX10_leave_60 : decode cX10_leave 60 = .ok (.invokevirtual 63, 3) := by decide +kernel
theorem dX10_leave_63 : decode cX10_leave 63 = .ok (.ifCond .eq 10, 3) := by decide +kernel
theorem dX10_leave_66 : decode cX10_leave 66 = .ok (.aload_n 2, 1) := by decide +kernel
theorem dX10_leave_67 : decode cX10_leave 67 = .ok (.getfield 126, 3) := by decide +kernel
theorem dX10_leave_70 : decode cX10_leave 70 = .ok (.iload_n 3, 1) := by decide +kernel
theorem dX10_leave_71 : decode cX10_leave 71 = .ok (.iconst (-1), 1) := by decide +kernel
theorem dX10_leave_72 : decode cX10_leave 72 = .ok (.iastore, 1) := by decide +kernel
theorem dX10_leave_73 : decode cX10_leave 73 = .ok (.iinc 3 1, 3) := by decide +kernel
theorem dX10_leave_76 : decode cX10_leave 76 = .ok (.goto (-25), 3) := by decide +kernel
theorem dX10_leave_79 : decode cX10_leave 79 = .ok (.aload_n 0, 1) := by decide +kernel
theorem dX10_leave_80 : decode cX10_leave 80 = .ok (.invokevirtual 201, 3) := by decide +kernel
theorem dX10_leave_83 : decode cX10_leave 83 = .ok (.aload_n 2, 1) := by decide +kernel
theorem dX10_leave_84 : decode cX10_leave 84 = .ok (.iconst 1, 1) := by decide +kernel
theorem dX10_leave_85 : decode cX10_leave 85 = .ok (.invokevirtual 253, 3) := by decide +kernel
theorem dX10_leave_88 : decode cX10_leave 88 = .ok (.aload_n 2, 1) := by decide +kernel
theorem dX10_leave_89 : decode cX10_leave 89 = .ok (.iconst 2, 1) := by decide +kernel
theorem dX10_leave_90 : decode cX10_leave 90 = .ok (.invokevirtual 253, 3) := by decide +kernel
theorem dX10_leave_93 : decode cX10_leave 93 = .ok (.iadd, 1) := by decide +kernel
theorem dX10_leave_94 : decode cX10_leave 94 = .ok (.ireturn, 1) := by decide +kernel
theorem dX10_isNoStep_0 : decode cX10_isNoStep 0 = .ok (.aload_n 0, 1) := by decide +kernel
theorem dX10_isNoStep_1 : decode cX10_isNoStep 1 = .ok (.aload_n 0, 1) := by decide +kernel
theorem dX10_isNoStep_2 : decode cX10_isNoStep 2 = .ok (.iload_n 1, 1) := by decide +kernel
theorem dX10_isNoStep_3 : decode cX10_isNoStep 3 = .ok (.invokevirtual 247, 3) := by decide +kernel
theorem dX10_isNoStep_6 : decode cX10_isNoStep 6 = .ok (.ifCond .ne 31, 3) := by decide +kernel
theorem dX10_isNoStep_9 : decode cX10_isNoStep 9 = .ok (.iload_n 2, 1) := by decide +kernel
theorem dX10_isNoStep_10 : decode cX10_isNoStep 10 = .ok (.iconst 0, 1) := by decide +kernel
theorem dX10_isNoStep_11 : decode cX10_isNoStep 11 = .ok (.bipush 11, 2) := by decide +kernel
theorem dX10_isNoStep_13 : decode cX10_isNoStep 13 = .ok (.invokestatic 47, 3) := by decide +kernel
theorem dX10_isNoStep_16 : decode cX10_isNoStep 16 = .ok (.ifCond .eq 21, 3) := by decide +kernel
theorem dX10_isNoStep_19 : decode cX10_isNoStep 19 = .ok (.aload_n 0, 1) := by decide +kernel
theorem dX10_isNoStep_20 : decode cX10_isNoStep 20 = .ok (.getfield 32, 3) := by decide +kernel
theorem dX10_isNoStep_23 : decode cX10_isNoStep 23 = .ok (.iload_n 1, 1) := by decide +kernel
theorem dX10_isNoStep_24 : decode cX10_isNoStep 24 = .ok (.invokevirtual 51, 3) := by decide +kernel
theorem dX10_isNoStep_27 : decode cX10_isNoStep 27 = .ok (.checkcast 64, 3) := by decide +kernel
theorem dX10_isNoStep_30 : decode cX10_isNoStep 30 = .ok (.iload_n 2, 1) := by decide +kernel
theorem dX10_isNoStep_31 : decode cX10_isNoStep 31 = .ok (.invokevirtual 256, 3) := by decide +kernel
theorem dX10_isNoStep_34 : decode cX10_isNoStep 34 = .ok (.ifCond .ne 7, 3) := by decide +kernel
theorem dX10_isNoStep_37 : decode cX10_isNoStep 37 = .ok (.iconst 1, 1) := by decide +kernel
theorem dX10_isNoStep_38 : decode cX10_isNoStep 38 = .ok (.goto 4, 3) := by decide +kernel
theorem dX10_isNoStep_41 : decode cX10_isNoStep 41 = .ok (.iconst 0, 1) := by decide +kernel
theorem dX10_isNoStep_42 : decode cX10_isNoStep 42 = .ok (.iconst 1, 1) := by decide +kernel
theorem dX10_isNoStep_43 : decode cX10_isNoStep 43 = .ok (.invokevirtual 186, 3) := by decide +kernel
theorem dX10_isNoStep_46 : decode cX10_isNoStep 46 = .ok (.ireturn, 1) := by decide +kernel
theorem dX10_ofStepNow_0 : decode cX10_ofStepNow 0 = .ok (.iload_n 3, 1) := by decide +kernel
theorem dX10_ofStepNow_1 : decode cX10_ofStepNow 1 = .ok (.tableswitch 92 0 4 #[35, 42, 60, 78, 85], 35) := by decide +kernel
theorem dX10_ofStepNow_36 : decode cX10_ofStepNow 36 = .ok (.aload_n 1, 1) := by decide +kernel
theorem dX10_ofStepNow_37 : decode cX10_ofStepNow 37 = .ok (.getfield 75, 3) := by decide +kernel
theorem dX10_ofStepNow_40 : decode cX10_ofStepNow 40 = .ok (.iload_n 2, 1) := by decide +kernel
theorem dX10_ofStepNow_41 : decode cX10_ofStepNow 41 = .ok (.iaload, 1) := by decide +kernel
theorem dX10_ofStepNow_42 : decode cX10_ofStepNow 42 = .ok (.ireturn, 1) := by decide +kernel
theorem dX10_ofStepNow_43 : decode cX10_ofStepNow 43 = .ok (.aload_n 1, 1) := by decide +kernel
theorem dX10_ofStepNow_44 : decode cX10_ofStepNow 44 = .ok (.getfield 140, 3) := by decide +kernel
theorem dX10_ofStepNow_47 : decode cX10_ofStepNow 47 = .ok (.ifCond .eq 7, 3) := by decide +kernel
theorem dX10_ofStepNow_50 : decode cX10_ofStepNow 50 = .ok (.iconst (-1), 1) := by decide +kernel
theorem dX10_ofStepNow_51 : decode cX10_ofStepNow 51 = .ok (.goto 9, 3) := by decide +kernel
theorem dX10_ofStepNow_54 : decode cX10_ofStepNow 54 = .ok (.aload_n 0, 1) := by decide +kernel
theorem dX10_ofStepNow_55 : decode cX10_ofStepNow 55 = .ok (.aload_n 1, 1) := by decide +kernel
theorem dX10_ofStepNow_56 : decode cX10_ofStepNow 56 = .ok (.iload_n 2, 1) := by decide +kernel
theorem dX10_ofStepNow_57 : decode cX10_ofStepNow 57 = .ok (.invokevirtual 135, 3) := by decide +kernel
theorem dX10_ofStepNow_60 : decode cX10_ofStepNow 60 = .ok (.ireturn, 1) := by decide +kernel
theorem dX10_ofStepNow_61 : decode cX10_ofStepNow 61 = .ok (.aload_n 1, 1) := by decide +kernel
theorem dX10_ofStepNow_62 : decode cX10_ofStepNow 62 = .ok (.getfield 140, 3) := by decide +kernel
theorem dX10_ofStepNow_65 : decode cX10_ofStepNow 65 = .ok (.ifCond .eq 7, 3) := by decide +kernel
theorem dX10_ofStepNow_68 : decode cX10_ofStepNow 68 = .ok (.iconst (-1), 1) := by decide +kernel
theorem dX10_ofStepNow_69 : decode cX10_ofStepNow 69 = .ok (.goto 9, 3) := by decide +kernel
theorem dX10_ofStepNow_72 : decode cX10_ofStepNow 72 = .ok (.aload_n 0, 1) := by decide +kernel
theorem dX10_ofStepNow_73 : decode cX10_ofStepNow 73 = .ok (.aload_n 1, 1) := by decide +kernel
theorem dX10_ofStepNow_74 : decode cX10_ofStepNow 74 = .ok (.iload_n 2, 1) := by decide +kernel
theorem dX10_ofStepNow_75 : decode cX10_ofStepNow 75 = .ok (.invokevirtual 123, 3) := by decide +kernel
theorem dX10_ofStepNow_78 : decode cX10_ofStepNow 78 = .ok (.ireturn, 1) := by decide +kernel
theorem dX10_ofStepNow_79 : decode cX10_ofStepNow 79 = .ok (.aload_n 1, 1) := by decide +kernel
theorem dX10_ofStepNow_80 : decode cX10_ofStepNow 80 = .ok (.getfield 126, 3) := by decide +kernel
theorem dX10_ofStepNow_83 : decode cX10_ofStepNow 83 = .ok (.iload_n 2, 1) := by decide +kernel
theorem dX10_ofStepNow_84 : decode cX10_ofStepNow 84 = .ok (.iaload, 1) := by decide +kernel
theorem dX10_ofStepNow_85 : decode cX10_ofStepNow 85 = .ok (.ireturn, 1) := by decide +kernel
theorem dX10_ofStepNow_86 : decode cX10_ofStepNow 86 = .ok (.aload_n 0, 1) := by decide +kernel
theorem dX10_ofStepNow_87 : decode cX10_ofStepNow 87 = .ok (.aload_n 1, 1) := by decide +kernel
theorem dX10_ofStepNow_88 : decode cX10_ofStepNow 88 = .ok (.iload_n 2, 1) := by decide +kernel
theorem dX10_ofStepNow_89 : decode cX10_ofStepNow 89 = .ok (.invokevirtual 138, 3) := by decide +kernel
theorem dX10_ofStepNow_92 : decode cX10_ofStepNow 92 = .ok (.ireturn, 1) := by decide +kernel
theorem dX10_ofStepNow_93 : decode cX10_ofStepNow 93 = .ok (.aload_n 1, 1) := by decide +kernel
theorem dX10_ofStepNow_94 : decode cX10_ofStepNow 94 = .ok (.getfield 198, 3) := by decide +kernel
theorem dX10_ofStepNow_97 : decode cX10_ofStepNow 97 = .ok (.iload_n 2, 1) := by decide +kernel
theorem dX10_ofStepNow_98 : decode cX10_ofStepNow 98 = .ok (.iaload, 1) := by decide +kernel
theorem dX10_ofStepNow_99 : decode cX10_ofStepNow 99 = .ok (.ireturn, 1) := by decide +kernel
theorem dX10_ofStep_0 : decode cX10_ofStep 0 = .ok (.aload_n 0, 1) := by decide +kernel
theorem dX10_ofStep_1 : decode cX10_ofStep 1 = .ok (.iload_n 1, 1) := by decide +kernel
theorem dX10_ofStep_2 : decode cX10_ofStep 2 = .ok (.iload_n 2, 1) := by decide +kernel
theorem dX10_ofStep_3 : decode cX10_ofStep 3 = .ok (.invokevirtual 259, 3) := by decide +kernel
theorem dX10_ofStep_6 : decode cX10_ofStep 6 = .ok (.ifCond .ne 25, 3) := by decide +kernel
theorem dX10_ofStep_9 : decode cX10_ofStep 9 = .ok (.aload_n 0, 1) := by decide +kernel
theorem dX10_ofStep_10 : decode cX10_ofStep 10 = .ok (.iload_n 3, 1) := by decide +kernel
theorem dX10_ofStep_11 : decode cX10_ofStep 11 = .ok (.iconst 0, 1) := by decide +kernel
theorem dX10_ofStep_12 : decode cX10_ofStep 12 = .ok (.iconst 5, 1) := by decide +kernel
theorem dX10_ofStep_13 : decode cX10_ofStep 13 = .ok (.invokestatic 47, 3) := by decide +kernel
theorem dX10_ofStep_16 : decode cX10_ofStep 16 = .ok (.ifCond .ne 7, 3) := by decide +kernel
theorem dX10_ofStep_19 : decode cX10_ofStep 19 = .ok (.iconst 1, 1) := by decide +kernel
theorem dX10_ofStep_20 : decode cX10_ofStep 20 = .ok (.goto 4, 3) := by decide +kernel
theorem dX10_ofStep_23 : decode cX10_ofStep 23 = .ok (.iconst 0, 1) := by decide +kernel
theorem dX10_ofStep_24 : decode cX10_ofStep 24 = .ok (.iconst 2, 1) := by decide +kernel
theorem dX10_ofStep_25 : decode cX10_ofStep 25 = .ok (.invokevirtual 39, 3) := by decide +kernel
theorem dX10_ofStep_28 : decode cX10_ofStep 28 = .ok (.ifCond .eq 7, 3) := by decide +kernel
theorem dX10_ofStep_31 : decode cX10_ofStep 31 = .ok (.iconst 0, 1) := by decide +kernel
theorem dX10_ofStep_32 : decode cX10_ofStep 32 = .ok (.goto 20, 3) := by decide +kernel
theorem dX10_ofStep_35 : decode cX10_ofStep 35 = .ok (.aload_n 0, 1) := by decide +kernel
theorem dX10_ofStep_36 : decode cX10_ofStep 36 = .ok (.aload_n 0, 1) := by decide +kernel
theorem dX10_ofStep_37 : decode cX10_ofStep 37 = .ok (.getfield 32, 3) := by decide +kernel
theorem dX10_ofStep_40 : decode cX10_ofStep 40 = .ok (.iload_n 1, 1) := by decide +kernel
theorem dX10_ofStep_41 : decode cX10_ofStep 41 = .ok (.invokevirtual 51, 3) := by decide +kernel
theorem dX10_ofStep_44 : decode cX10_ofStep 44 = .ok (.checkcast 64, 3) := by decide +kernel
theorem dX10_ofStep_47 : decode cX10_ofStep 47 = .ok (.iload_n 2, 1) := by decide +kernel
theorem dX10_ofStep_48 : decode cX10_ofStep 48 = .ok (.iload_n 3, 1) := by decide +kernel
theorem dX10_ofStep_49 : decode cX10_ofStep 49 = .ok (.invokevirtual 262, 3) := by decide +kernel
theorem dX10_ofStep_52 : decode cX10_ofStep 52 = .ok (.ireturn, 1) := by decide +kernel
theorem dX10_rightsOf_0 : decode cX10_rightsOf 0 = .ok (.iconst 0, 1) := by decide +kernel
theorem dX10_rightsOf_1 : decode cX10_rightsOf 1 = .ok (.istore_n 2, 1) := by decide +kernel
theorem dX10_rightsOf_2 : decode cX10_rightsOf 2 = .ok (.iconst 0, 1) := by decide +kernel
theorem dX10_rightsOf_3 : decode cX10_rightsOf 3 = .ok (.istore_n 3, 1) := by decide +kernel
theorem dX10_rightsOf_4 : decode cX10_rightsOf 4 = .ok (.iload_n 3, 1) := by decide +kernel
theorem dX10_rightsOf_5 : decode cX10_rightsOf 5 = .ok (.aload_n 0, 1) := by decide +kernel
theorem dX10_rightsOf_6 : decode cX10_rightsOf 6 = .ok (.getfield 20, 3) := by decide +kernel
theorem dX10_rightsOf_9 : decode cX10_rightsOf 9 = .ok (.invokevirtual 43, 3) := by decide +kernel
theorem dX10_rightsOf_12 : decode cX10_rightsOf 12 = .ok (.if_icmp .ge 40, 3) := by decide +kernel
theorem dX10_rightsOf_15 : decode cX10_rightsOf 15 = .ok (.iload_n 2, 1) := by decide +kernel
theorem dX10_rightsOf_16 : decode cX10_rightsOf 16 = .ok (.aload_n 1, 1) := by decide +kernel
theorem dX10_rightsOf_17 : decode cX10_rightsOf 17 = .ok (.aload_n 0, 1) := by decide +kernel
theorem dX10_rightsOf_18 : decode cX10_rightsOf 18 = .ok (.getfield 20, 3) := by decide +kernel
theorem dX10_rightsOf_21 : decode cX10_rightsOf 21 = .ok (.iload_n 3, 1) := by decide +kernel
theorem dX10_rightsOf_22 : decode cX10_rightsOf 22 = .ok (.invokevirtual 51, 3) := by decide +kernel
theorem dX10_rightsOf_25 : decode cX10_rightsOf 25 = .ok (.checkcast 70, 3) := by decide +kernel
theorem dX10_rightsOf_28 : decode cX10_rightsOf 28 = .ok (.invokevirtual 266, 3) := by decide +kernel
theorem dX10_rightsOf_31 : decode cX10_rightsOf 31 = .ok (.invokevirtual 269, 3) := by decide +kernel
theorem dX10_rightsOf_34 : decode cX10_rightsOf 34 = .ok (.ifCond .eq 9, 3) := by decide +kernel
theorem dX10_rightsOf_37 : decode cX10_rightsOf 37 = .ok (.iconst 1, 1) := by decide +kernel
theorem dX10_rightsOf_38 : decode cX10_rightsOf 38 = .ok (.iload_n 3, 1) := by decide +kernel
theorem dX10_rightsOf_39 : decode cX10_rightsOf 39 = .ok (.ishl, 1) := by decide +kernel
theorem dX10_rightsOf_40 : decode cX10_rightsOf 40 = .ok (.goto 4, 3) := by decide +kernel
theorem dX10_rightsOf_43 : decode cX10_rightsOf 43 = .ok (.iconst 0, 1) := by decide +kernel
theorem dX10_rightsOf_44 : decode cX10_rightsOf 44 = .ok (.ior, 1) := by decide +kernel
theorem dX10_rightsOf_45 : decode cX10_rightsOf 45 = .ok (.istore_n 2, 1) := by decide +kernel
theorem dX10_rightsOf_46 : decode cX10_rightsOf 46 = .ok (.iinc 3 1, 3) := by decide +kernel
theorem dX10_rightsOf_49 : decode cX10_rightsOf 49 = .ok (.goto (-45), 3) := by decide +kernel
theorem dX10_rightsOf_52 : decode cX10_rightsOf 52 = .ok (.iload_n 2, 1) := by decide +kernel
theorem dX10_rightsOf_53 : decode cX10_rightsOf 53 = .ok (.ireturn, 1) := by decide +kernel
theorem dX10_ofJoinerNow_0 : decode cX10_ofJoinerNow 0 = .ok (.bipush 7, 2) := by decide +kernel
theorem dX10_ofJoinerNow_2 : decode cX10_ofJoinerNow 2 = .ok (.newarray .int, 2) := by decide +kernel
theorem dX10_ofJoinerNow_4 : decode cX10_ofJoinerNow 4 = .ok (.dup, 1) := by decide +kernel
theorem dX10_ofJoinerNow_5 : decode cX10_ofJoinerNow 5 = .ok (.iconst 0, 1) := by decide +kernel
theorem dX10_ofJoinerNow_6 : decode cX10_ofJoinerNow 6 = .ok (.aload_n 1, 1) := by decide +kernel
theorem dX10_ofJoinerNow_7 : decode cX10_ofJoinerNow 7 = .ok (.getfield 118, 3) := by decide +kernel
theorem dX10_ofJoinerNow_10 : decode cX10_ofJoinerNow 10 = .ok (.iastore, 1) := by decide +kernel
theorem dX10_ofJoinerNow_11 : decode cX10_ofJoinerNow 11 = .ok (.dup, 1) := by decide +kernel
theorem dX10_ofJoinerNow_12 : decode cX10_ofJoinerNow 12 = .ok (.iconst 1, 1) := by decide +kernel
theorem dX10_ofJoinerNow_13 : decode cX10_ofJoinerNow 13 = .ok (.aload_n 1, 1) := by decide +kernel
theorem dX10_ofJoinerNow_14 : decode cX10_ofJoinerNow 14 = .ok (.getfield 106, 3) := by decide +kernel
theorem dX10_ofJoinerNow_17 : decode cX10_ofJoinerNow 17 = .ok (.iastore, 1) := by decide +kernel
theorem dX10_ofJoinerNow_18 : decode cX10_ofJoinerNow 18 = .ok (.dup, 1) := by decide +kernel
theorem dX10_ofJoinerNow_19 : decode cX10_ofJoinerNow 19 = .ok (.iconst 2, 1) := by decide +kernel
theorem dX10_ofJoinerNow_20 : decode cX10_ofJoinerNow 20 = .ok (.aload_n 1, 1) := by decide +kernel
theorem dX10_ofJoinerNow_21 : decode cX10_ofJoinerNow 21 = .ok (.iconst 2, 1) := by decide +kernel
theorem dX10_ofJoinerNow_22 : decode cX10_ofJoinerNow 22 = .ok (.invokevirtual 253, 3) := by decide +kernel
theorem dX10_ofJoinerNow_25 : decode cX10_ofJoinerNow 25 = .ok (.iastore, 1) := by decide +kernel
theorem dX10_ofJoinerNow_26 : decode cX10_ofJoinerNow 26 = .ok (.dup, 1) := by decide +kernel
theorem dX10_ofJoinerNow_27 : decode cX10_ofJoinerNow 27 = .ok (.iconst 3, 1) := by decide +kernel
theorem dX10_ofJoinerNow_28 : decode cX10_ofJoinerNow 28 = .ok (.aload_n 1, 1) := by decide +kernel
theorem dX10_ofJoinerNow_29 : decode cX10_ofJoinerNow 29 = .ok (.iconst 1, 1) := by decide +kernel
theorem dX10_ofJoinerNow_30 : decode cX10_ofJoinerNow 30 = .ok (.invokevirtual 253, 3) := by decide +kernel
theorem dX10_ofJoinerNow_33 : decode cX10_ofJoinerNow 33 = .ok (.iastore, 1) := by decide +kernel
theorem dX10_ofJoinerNow_34 : decode cX10_ofJoinerNow 34 = .ok (.dup, 1) := by decide +kernel
theorem dX10_ofJoinerNow_35 : decode cX10_ofJoinerNow 35 = .ok (.iconst 4, 1) := by decide +kernel
theorem dX10_ofJoinerNow_36 : decode cX10_ofJoinerNow 36 = .ok (.aload_n 0, 1) := by decide +kernel
theorem dX10_ofJoinerNow_37 : decode cX10_ofJoinerNow 37 = .ok (.aload_n 1, 1) := by decide +kernel
theorem dX10_ofJoinerNow_38 : decode cX10_ofJoinerNow 38 = .ok (.invokevirtual 272, 3) := by decide +kernel
theorem dX10_ofJoinerNow_41 : decode cX10_ofJoinerNow 41 = .ok (.iastore, 1) := by decide +kernel
theorem dX10_ofJoinerNow_42 : decode cX10_ofJoinerNow 42 = .ok (.dup, 1) := by decide +kernel
theorem dX10_ofJoinerNow_43 : decode cX10_ofJoinerNow 43 = .ok (.iconst 5, 1) := by decide +kernel
theorem dX10_ofJoinerNow_44 : decode cX10_ofJoinerNow 44 = .ok (.aload_n 1, 1) := by decide +kernel
theorem dX10_ofJoinerNow_45 : decode cX10_ofJoinerNow 45 = .ok (.getfield 140, 3) := by decide +kernel
theorem dX10_ofJoinerNow_48 : decode cX10_ofJoinerNow 48 = .ok (.ifCond .eq 7, 3) := by decide +kernel
theorem dX10_ofJoinerNow_51 : decode cX10_ofJoinerNow 51 = .ok (.iconst 1, 1) := by decide +kernel
theorem dX10_ofJoinerNow_52 : decode cX10_ofJoinerNow 52 = .ok (.goto 4, 3) := by decide +kernel
theorem dX10_ofJoinerNow_55 : decode cX10_ofJoinerNow 55 = .ok (.iconst 0, 1) := by decide +kernel
theorem dX10_ofJoinerNow_56 : decode cX10_ofJoinerNow 56 = .ok (.iastore, 1) := by decide +kernel
theorem dX10_ofJoinerNow_57 : decode cX10_ofJoinerNow 57 = .ok (.dup, 1) := by decide +kernel
theorem dX10_ofJoinerNow_58 : decode cX10_ofJoinerNow 58 = .ok (.bipush 6, 2) := by decide +kernel
theorem dX10_ofJoinerNow_60 : decode cX10_ofJoinerNow 60 = .ok (.aload_n 0, 1) := by decide +kernel
theorem dX10_ofJoinerNow_61 : decode cX10_ofJoinerNow 61 = .ok (.aload_n 1, 1) := by decide +kernel
theorem dX10_ofJoinerNow_62 : decode cX10_ofJoinerNow 62 = .ok (.invokevirtual 276, 3) := by decide +kernel
theorem dX10_ofJoinerNow_65 : decode cX10_ofJoinerNow 65 = .ok (.iastore, 1) := by decide +kernel
theorem dX10_ofJoinerNow_66 : decode cX10_ofJoinerNow 66 = .ok (.astore_n 3, 1) := by decide +kernel
theorem dX10_ofJoinerNow_67 : decode cX10_ofJoinerNow 67 = .ok (.aload_n 3, 1) := by decide +kernel
theorem dX10_ofJoinerNow_68 : decode cX10_ofJoinerNow 68 = .ok (.iload_n 2, 1) := by decide +kernel
theorem dX10_ofJoinerNow_69 : decode cX10_ofJoinerNow 69 = .ok (.iaload, 1) := by decide +kernel
theorem dX10_ofJoinerNow_70 : decode cX10_ofJoinerNow 70 = .ok (.ireturn, 1) := by decide +kernel
theorem dX10_ofJoiner_0 : decode cX10_ofJoiner 0 = .ok (.aload_n 0, 1) := by decide +kernel
theorem dX10_ofJoiner_1 : decode cX10_ofJoiner 1 = .ok (.iload_n 1, 1) := by decide +kernel
theorem dX10_ofJoiner_2 : decode cX10_ofJoiner 2 = .ok (.invokevirtual 250, 3) := by decide +kernel
theorem dX10_ofJoiner_5 : decode cX10_ofJoiner 5 = .ok (.ifCond .ne 26, 3) := by decide +kernel
theorem dX10_ofJoiner_8 : decode cX10_ofJoiner 8 = .ok (.aload_n 0, 1) := by decide +kernel
theorem dX10_ofJoiner_9 : decode cX10_ofJoiner 9 = .ok (.iload_n 2, 1) := by decide +kernel
theorem dX10_ofJoiner_10 : decode cX10_ofJoiner 10 = .ok (.iconst 0, 1) := by decide +kernel
theorem dX10_ofJoiner_11 : decode cX10_ofJoiner 11 = .ok (.bipush 6, 2) := by decide +kernel
theorem dX10_ofJoiner_13 : decode cX10_ofJoiner 13 = .ok (.invokestatic 47, 3) := by decide +kernel
theorem dX10_ofJoiner_16 : decode cX10_ofJoiner 16 = .ok (.ifCond .ne 7, 3) := by decide +kernel
theorem dX10_ofJoiner_19 : decode cX10_ofJoiner 19 = .ok (.iconst 1, 1) := by decide +kernel
theorem dX10_ofJoiner_20 : decode cX10_ofJoiner 20 = .ok (.goto 4, 3) := by decide +kernel
theorem dX10_ofJoiner_23 : decode cX10_ofJoiner 23 = .ok (.iconst 0, 1) := by decide +kernel
theorem dX10_ofJoiner_24 : decode cX10_ofJoiner 24 = .ok (.iconst 2, 1) := by decide +kernel
theorem dX10_ofJoiner_25 : decode cX10_ofJoiner 25 = .ok (.invokevirtual 39, 3) := by decide +kernel
theorem dX10_ofJoiner_28 : decode cX10_ofJoiner 28 = .ok (.ifCond .eq 7, 3) := by decide +kernel
theorem dX10_ofJoiner_31 : decode cX10_ofJoiner 31 = .ok (.iconst 0, 1) := by decide +kernel
theorem dX10_ofJoiner_32 : decode cX10_ofJoiner 32 = .ok (.goto 19, 3) := by decide +kernel
theorem dX10_ofJoiner_35 : decode cX10_ofJoiner 35 = .ok (.aload_n 0, 1) := by decide +kernel
theorem dX10_ofJoiner_36 : decode cX10_ofJoiner 36 = .ok (.aload_n 0, 1) := by decide +kernel
theorem dX10_ofJoiner_37 : decode cX10_ofJoiner 37 = .ok (.getfield 32, 3) := by decide +kernel
theorem dX10_ofJoiner_40 : decode cX10_ofJoiner 40 = .ok (.iload_n 1, 1) := by decide +kernel
theorem dX10_ofJoiner_41 : decode cX10_ofJoiner 41 = .ok (.invokevirtual 51, 3) := by decide +kernel
theorem dX10_ofJoiner_44 : decode cX10_ofJoiner 44 = .ok (.checkcast 64, 3) := by decide +kernel
theorem dX10_ofJoiner_47 : decode cX10_ofJoiner 47 = .ok (.iload_n 2, 1) := by decide +kernel
theorem dX10_ofJoiner_48 : decode cX10_ofJoiner 48 = .ok (.invokevirtual 279, 3) := by decide +kernel
theorem dX10_ofJoiner_51 : decode cX10_ofJoiner 51 = .ok (.ireturn, 1) := by decide +kernel
theorem dX10_count_0 : decode cX10_count 0 = .ok (.iconst 0, 1) := by decide +kernel
theorem dX10_count_1 : decode cX10_count 1 = .ok (.istore_n 2, 1) := by decide +kernel
theorem dX10_count_2 : decode cX10_count 2 = .ok (.iconst 0, 1) := by decide +kernel
theorem dX10_count_3 : decode cX10_count 3 = .ok (.istore_n 3, 1) := by decide +kernel
theorem dX10_count_4 : decode cX10_count 4 = .ok (.iconst 0, 1) := by decide +kernel
theorem dX10_count_5 : decode cX10_count 5 = .ok (.istore 4, 2) := by decide +kernel
theorem dX10_count_7 : decode cX10_count 7 = .ok (.iconst 0, 1) := by decide +kernel
theorem dX10_count_8 : decode cX10_count 8 = .ok (.istore 5, 2) := by decide +kernel
theorem dX10_count_10 : decode cX10_count 10 = .ok (.iconst 0, 1) := by decide +kernel
theorem dX10_count_11 : decode cX10_count 11 = .ok (.istore 6, 2) := by decide +kernel
theorem dX10_count_13 : decode cX10_count 13 = .ok (.aload_n 0, 1) := by decide +kernel
theorem dX10_count_14 : decode cX10_count 14 = .ok (.getfield 32, 3) := by decide +kernel
theorem dX10_count_17 : decode cX10_count 17 = .ok (.invokevirtual 146, 3) := by decide +kernel
theorem dX10_count_20 : decode cX10_count 20 = .ok (.astore 7, 2) := by decide +kernel
theorem dX10_count_22 : decode cX10_count 22 = .ok (.aload 7, 2) := by decide +kernel
theorem dX10_count_24 : decode cX10_count 24 = .ok (.invokeinterface 150 1, 5) := by decide +kernel
theorem dX10_count_29 : decode cX10_count 29 = .ok (.ifCond .eq 68, 3) := by decide +kernel
theorem dX10_count_32 : decode cX10_count 32 = .ok (.aload 7, 2) := by decide +kernel
theorem dX10_count_34 : decode cX10_count 34 = .ok (.invokeinterface 156 1, 5) := by decide +kernel
theorem dX10_count_39 : decode cX10_count 39 = .ok (.checkcast 64, 3) := by decide +kernel
theorem dX10_count_42 : decode cX10_count 42 = .ok (.astore 8, 2) := by decide +kernel
theorem dX10_count_44 : decode cX10_count 44 = .ok (.iload_n 2, 1) := by decide +kernel
theorem dX10_count_45 : decode cX10_count 45 = .ok (.aload 8, 2) := by decide +kernel
theorem dX10_count_47 : decode cX10_count 47 = .ok (.getfield 140, 3) := by decide +kernel
theorem dX10_count_50 : decode cX10_count 50 = .ok (.ifCond .eq 7, 3) := by decide +kernel
theorem dX10_count_53 : decode cX10_count 53 = .ok (.iconst 1, 1) := by decide +kernel
theorem dX10_count_54 : decode cX10_count 54 = .ok (.goto 4, 3) := by decide +kernel
theorem dX10_count_57 : decode cX10_count 57 = .ok (.iconst 0, 1) := by decide +kernel
theorem dX10_count_58 : decode cX10_count 58 = .ok (.iadd, 1) := by decide +kernel
theorem dX10_count_59 : decode cX10_count 59 = .ok (.istore_n 2, 1) := by decide +kernel
theorem dX10_count_60 : decode cX10_count 60 = .ok (.iload_n 3, 1) := by decide +kernel
theorem dX10_count_61 : decode cX10_count 61 = .ok (.aload 8, 2) := by decide +kernel
theorem dX10_count_63 : decode cX10_count 63 = .ok (.iconst 2, 1) := by decide +kernel
theorem dX10_count_64 : decode cX10_count 64 = .ok (.invokevirtual 253, 3) := by decide +kernel
theorem dX10_count_67 : decode cX10_count 67 = .ok (.iadd, 1) := by decide +kernel
theorem dX10_count_68 : decode cX10_count 68 = .ok (.istore_n 3, 1) := by decide +kernel
theorem dX10_count_69 : decode cX10_count 69 = .ok (.iload 4, 2) := by decide +kernel
theorem dX10_count_71 : decode cX10_count 71 = .ok (.aload 8, 2) := by decide +kernel
theorem dX10_count_73 : decode cX10_count 73 = .ok (.iconst 1, 1) := by decide +kernel
theorem dX10_count_74 : decode cX10_count 74 = .ok (.invokevirtual 253, 3) := by decide +kernel
theorem dX10_count_77 : decode cX10_count 77 = .ok (.iadd, 1) := by decide +kernel
theorem dX10_count_78 : decode cX10_count 78 = .ok (.istore 4, 2) := by decide +kernel
theorem dX10_count_80 : decode cX10_count 80 = .ok (.iload 5, 2) := by decide +kernel
theorem dX10_count_82 : decode cX10_count 82 = .ok (.aload_n 0, 1) := by decide +kernel
theorem dX10_count_83 : decode cX10_count 83 = .ok (.aload 8, 2) := by decide +kernel
theorem dX10_count_85 : decode cX10_count 85 = .ok (.invokevirtual 272, 3) := by decide +kernel
theorem dX10_count_88 : decode cX10_count 88 = .ok (.invokestatic 69, 3) := by decide +kernel
theorem dX10_count_91 : decode cX10_count 91 = .ok (.iadd, 1) := by decide +kernel
theorem dX10_count_92 : decode cX10_count 92 = .ok (.istore 5, 2) := by decide +kernel
theorem dX10_count_94 : decode cX10_count 94 = .ok (.goto (-72), 3) := by decide +kernel
theorem dX10_count_97 : decode cX10_count 97 = .ok (.iconst 0, 1) := by decide +kernel
theorem dX10_count_98 : decode cX10_count 98 = .ok (.istore 7, 2) := by decide +kernel
theorem dX10_count_100 : decode cX10_count 100 = .ok (.iload 7, 2) := by decide +kernel
theorem dX10_count_102 : decode cX10_count 102 = .ok (.aload_n 0, 1) := by decide +kernel
theorem dX10_count_103 : decode cX10_count 103 = .ok (.getfield 29, 3) := by decide +kernel
theorem dX10_count_106 : decode cX10_count 106 = .ok (.invokevirtual 43, 3) := by decide +kernel
theorem dX10_count_109 : decode cX10_count 109 = .ok (.if_icmp .ge 20, 3) := by decide +kernel
theorem dX10_count_112 : decode cX10_count 112 = .ok (.iload 6, 2) := by decide +kernel
theorem dX10_count_114 : decode cX10_count 114 = .ok (.aload_n 0, 1) := by decide +kernel
theorem dX10_count_115 : decode cX10_count 115 = .ok (.iload 7, 2) := by decide +kernel
theorem dX10_count_117 : decode cX10_count 117 = .ok (.invokevirtual 163, 3) := by decide +kernel
theorem dX10_count_120 : decode cX10_count 120 = .ok (.iadd, 1) := by decide +kernel
theorem dX10_count_121 : decode cX10_count 121 = .ok (.istore 6, 2) := by decide +kernel
theorem dX10_count_123 : decode cX10_count 123 = .ok (.iinc 7 1, 3) := by decide +kernel
theorem dX10_count_126 : decode cX10_count 126 = .ok (.goto (-26), 3) := by decide +kernel
theorem dX10_count_129 : decode cX10_count 129 = .ok (.bipush 11, 2) := by decide +kernel
theorem dX10_count_131 : decode cX10_count 131 = .ok (.newarray .int, 2) := by decide +kernel
theorem dX10_count_133 : decode cX10_count 133 = .ok (.dup, 1) := by decide +kernel
theorem dX10_count_134 : decode cX10_count 134 = .ok (.iconst 0, 1) := by decide +kernel
theorem dX10_count_135 : decode cX10_count 135 = .ok (.aload_n 0, 1) := by decide +kernel
theorem dX10_count_136 : decode cX10_count 136 = .ok (.getfield 10, 3) := by decide +kernel
theorem dX10_count_139 : decode cX10_count 139 = .ok (.invokevirtual 43, 3) := by decide +kernel
theorem dX10_count_142 : decode cX10_count 142 = .ok (.iastore, 1) := by decide +kernel
theorem dX10_count_143 : decode cX10_count 143 = .ok (.dup, 1) := by decide +kernel
theorem dX10_count_144 : decode cX10_count 144 = .ok (.iconst 1, 1) := by decide +kernel
theorem dX10_count_145 : decode cX10_count 145 = .ok (.aload_n 0, 1) := by decide +kernel
theorem dX10_count_146 : decode cX10_count 146 = .ok (.getfield 20, 3) := by decide +kernel
theorem dX10_count_149 : decode cX10_count 149 = .ok (.invokevirtual 43, 3) := by decide +kernel
theorem dX10_count_152 : decode cX10_count 152 = .ok (.iastore, 1) := by decide +kernel
theorem dX10_count_153 : decode cX10_count 153 = .ok (.dup, 1) := by decide +kernel
theorem dX10_count_154 : decode cX10_count 154 = .ok (.iconst 2, 1) := by decide +kernel
theorem dX10_count_155 : decode cX10_count 155 = .ok (.aload_n 0, 1) := by decide +kernel
theorem dX10_count_156 : decode cX10_count 156 = .ok (.getfield 26, 3) := by decide +kernel
theorem dX10_count_159 : decode cX10_count 159 = .ok (.invokevirtual 43, 3) := by decide +kernel
theorem dX10_count_162 : decode cX10_count 162 = .ok (.iastore, 1) := by decide +kernel
theorem dX10_count_163 : decode cX10_count 163 = .ok (.dup, 1) := by decide +kernel
theorem dX10_count_164 : decode cX10_count 164 = .ok (.iconst 3, 1) := by decide +kernel
theorem dX10_count_165 : decode cX10_count 165 = .ok (.aload_n 0, 1) := by decide +kernel
theorem dX10_count_166 : decode cX10_count 166 = .ok (.getfield 29, 3) := by decide +kernel
theorem dX10_count_169 : decode cX10_count 169 = .ok (.invokevirtual 43, 3) := by decide +kernel
theorem dX10_count_172 : decode cX10_count 172 = .ok (.iastore, 1) := by decide +kernel
theorem dX10_count_173 : decode cX10_count 173 = .ok (.dup, 1) := by decide +kernel
theorem dX10_count_174 : decode cX10_count 174 = .ok (.iconst 4, 1) := by decide +kernel
theorem dX10_count_175 : decode cX10_count 175 = .ok (.aload_n 0, 1) := by decide +kernel
theorem dX10_count_176 : decode cX10_count 176 = .ok (.getfield 32, 3) := by decide +kernel
theorem dX10_count_179 : decode cX10_count 179 = .ok (.invokevirtual 43, 3) := by decide +kernel
theorem dX10_count_182 : decode cX10_count 182 = .ok (.iastore, 1) := by decide +kernel
theorem dX10_count_183 : decode cX10_count 183 = .ok (.dup, 1) := by decide +kernel
theorem dX10_count_184 : decode cX10_count 184 = .ok (.iconst 5, 1) := by decide +kernel
theorem dX10_count_185 : decode cX10_count 185 = .ok (.iload_n 2, 1) := by decide +kernel
theorem dX10_count_186 : decode cX10_count 186 = .ok (.iastore, 1) := by decide +kernel
theorem dX10_count_187 : decode cX10_count 187 = .ok (.dup, 1) := by decide +kernel
theorem dX10_count_188 : decode cX10_count 188 = .ok (.bipush 6, 2) := by decide +kernel
theorem dX10_count_190 : decode cX10_count 190 = .ok (.iload_n 3, 1) := by decide +kernel
theorem dX10_count_191 : decode cX10_count 191 = .ok (.iastore, 1) := by decide +kernel
theorem dX10_count_192 : decode cX10_count 192 = .ok (.dup, 1) := by decide +kernel
theorem dX10_count_193 : decode cX10_count 193 = .ok (.bipush 7, 2) := by decide +kernel
theorem dX10_count_195 : decode cX10_count 195 = .ok (.iload 4, 2) := by decide +kernel
theorem dX10_count_197 : decode cX10_count 197 = .ok (.iastore, 1) := by decide +kernel
theorem dX10_count_198 : decode cX10_count 198 = .ok (.dup, 1) := by decide +kernel
theorem dX10_count_199 : decode cX10_count 199 = .ok (.bipush 8, 2) := by decide +kernel
theorem dX10_count_201 : decode cX10_count 201 = .ok (.iload 5, 2) := by decide +kernel
theorem dX10_count_203 : decode cX10_count 203 = .ok (.iastore, 1) := by decide +kernel
theorem dX10_count_204 : decode cX10_count 204 = .ok (.dup, 1) := by decide +kernel
theorem dX10_count_205 : decode cX10_count 205 = .ok (.bipush 9, 2) := by decide +kernel
theorem dX10_count_207 : decode cX10_count 207 = .ok (.iload 6, 2) := by decide +kernel
theorem dX10_count_209 : decode cX10_count 209 = .ok (.iastore, 1) := by decide +kernel
theorem dX10_count_210 : decode cX10_count 210 = .ok (.dup, 1) := by decide +kernel
theorem dX10_count_211 : decode cX10_count 211 = .ok (.bipush 10, 2) := by decide +kernel
theorem dX10_count_213 : decode cX10_count 213 = .ok (.aload_n 0, 1) := by decide +kernel
theorem dX10_count_214 : decode cX10_count 214 = .ok (.getfield 103, 3) := by decide +kernel
theorem dX10_count_217 : decode cX10_count 217 = .ok (.iastore, 1) := by decide +kernel
theorem dX10_count_218 : decode cX10_count 218 = .ok (.astore 7, 2) := by decide +kernel
theorem dX10_count_220 : decode cX10_count 220 = .ok (.aload 7, 2) := by decide +kernel
theorem dX10_count_222 : decode cX10_count 222 = .ok (.iload_n 1, 1) := by decide +kernel
theorem dX10_count_223 : decode cX10_count 223 = .ok (.iaload, 1) := by decide +kernel
theorem dX10_count_224 : decode cX10_count 224 = .ok (.ireturn, 1) := by decide +kernel
theorem dX10_many_0 : decode cX10_many 0 = .ok (.aload_n 0, 1) := by decide +kernel
theorem dX10_many_1 : decode cX10_many 1 = .ok (.iload_n 1, 1) := by decide +kernel
theorem dX10_many_2 : decode cX10_many 2 = .ok (.iconst 0, 1) := by decide +kernel
theorem dX10_many_3 : decode cX10_many 3 = .ok (.bipush 10, 2) := by decide +kernel
theorem dX10_many_5 : decode cX10_many 5 = .ok (.invokestatic 47, 3) := by decide +kernel
theorem dX10_many_8 : decode cX10_many 8 = .ok (.ifCond .ne 7, 3) := by decide +kernel
theorem dX10_many_11 : decode cX10_many 11 = .ok (.iconst 1, 1) := by decide +kernel
theorem dX10_many_12 : decode cX10_many 12 = .ok (.goto 4, 3) := by decide +kernel
theorem dX10_many_15 : decode cX10_many 15 = .ok (.iconst 0, 1) := by decide +kernel
theorem dX10_many_16 : decode cX10_many 16 = .ok (.iconst 1, 1) := by decide +kernel
theorem dX10_many_17 : decode cX10_many 17 = .ok (.invokevirtual 186, 3) := by decide +kernel
theorem dX10_many_20 : decode cX10_many 20 = .ok (.ifCond .eq 7, 3) := by decide +kernel
theorem dX10_many_23 : decode cX10_many 23 = .ok (.iconst 0, 1) := by decide +kernel
theorem dX10_many_24 : decode cX10_many 24 = .ok (.goto 8, 3) := by decide +kernel
theorem dX10_many_27 : decode cX10_many 27 = .ok (.aload_n 0, 1) := by decide +kernel
theorem dX10_many_28 : decode cX10_many 28 = .ok (.iload_n 1, 1) := by decide +kernel
theorem dX10_many_29 : decode cX10_many 29 = .ok (.invokevirtual 282, 3) := by decide +kernel
theorem dX10_many_32 : decode cX10_many 32 = .ok (.ireturn, 1) := by decide +kernel
theorem dX10_meanDays_0 : decode cX10_meanDays 0 = .ok (.aload_n 0, 1) := by decide +kernel
theorem dX10_meanDays_1 : decode cX10_meanDays 1 = .ok (.iconst 0, 1) := by decide +kernel
theorem dX10_meanDays_2 : decode cX10_meanDays 2 = .ok (.putfield 35, 3) := by decide +kernel
theorem dX10_meanDays_5 : decode cX10_meanDays 5 = .ok (.iconst 0, 1) := by decide +kernel
theorem dX10_meanDays_6 : decode cX10_meanDays 6 = .ok (.istore_n 1, 1) := by decide +kernel
theorem dX10_meanDays_7 : decode cX10_meanDays 7 = .ok (.iconst 0, 1) := by decide +kernel
theorem dX10_meanDays_8 : decode cX10_meanDays 8 = .ok (.istore_n 2, 1) := by decide +kernel
theorem dX10_meanDays_9 : decode cX10_meanDays 9 = .ok (.aload_n 0, 1) := by decide +kernel
theorem dX10_meanDays_10 : decode cX10_meanDays 10 = .ok (.getfield 32, 3) := by decide +kernel
theorem dX10_meanDays_13 : decode cX10_meanDays 13 = .ok (.invokevirtual 146, 3) := by decide +kernel
theorem dX10_meanDays_16 : decode cX10_meanDays 16 = .ok (.astore_n 3, 1) := by decide +kernel
theorem dX10_meanDays_17 : decode cX10_meanDays 17 = .ok (.aload_n 3, 1) := by decide +kernel
theorem dX10_meanDays_18 : decode cX10_meanDays 18 = .ok (.invokeinterface 150 1, 5) := by decide +kernel
theorem dX10_meanDays_23 : decode cX10_meanDays 23 = .ok (.ifCond .eq 48, 3) := by decide +kernel
theorem dX10_meanDays_26 : decode cX10_meanDays 26 = .ok (.aload_n 3, 1) := by decide +kernel
theorem dX10_meanDays_27 : decode cX10_meanDays 27 = .ok (.invokeinterface 156 1, 5) := by decide +kernel
theorem dX10_meanDays_32 : decode cX10_meanDays 32 = .ok (.checkcast 64, 3) := by decide +kernel
theorem dX10_meanDays_35 : decode cX10_meanDays 35 = .ok (.astore 4, 2) := by decide +kernel
theorem dX10_meanDays_37 : decode cX10_meanDays 37 = .ok (.aload_n 0, 1) := by decide +kernel
theorem dX10_meanDays_38 : decode cX10_meanDays 38 = .ok (.aload 4, 2) := by decide +kernel
theorem dX10_meanDays_40 : decode cX10_meanDays 40 = .ok (.invokevirtual 276, 3) := by decide +kernel
theorem dX10_meanDays_43 : decode cX10_meanDays 43 = .ok (.istore 5, 2) := by decide +kernel
theorem dX10_meanDays_45 : decode cX10_meanDays 45 = .ok (.iload 5, 2) := by decide +kernel
theorem dX10_meanDays_47 : decode cX10_meanDays 47 = .ok (.iconst (-1), 1) := by decide +kernel
theorem dX10_meanDays_48 : decode cX10_meanDays 48 = .ok (.if_icmp .ne 6, 3) := by decide +kernel
theorem dX10_meanDays_51 : decode cX10_meanDays 51 = .ok (.goto (-34), 3) := by decide +kernel
theorem dX10_meanDays_54 : decode cX10_meanDays 54 = .ok (.iinc 1 1, 3) := by decide +kernel
theorem dX10_meanDays_57 : decode cX10_meanDays 57 = .ok (.iload_n 2, 1) := by decide +kernel
theorem dX10_meanDays_58 : decode cX10_meanDays 58 = .ok (.iload 5, 2) := by decide +kernel
theorem dX10_meanDays_60 : decode cX10_meanDays 60 = .ok (.aload 4, 2) := by decide +kernel
theorem dX10_meanDays_62 : decode cX10_meanDays 62 = .ok (.getfield 106, 3) := by decide +kernel
theorem dX10_meanDays_65 : decode cX10_meanDays 65 = .ok (.isub, 1) := by decide +kernel
theorem dX10_meanDays_66 : decode cX10_meanDays 66 = .ok (.iadd, 1) := by decide +kernel
theorem dX10_meanDays_67 : decode cX10_meanDays 67 = .ok (.istore_n 2, 1) := by decide +kernel
theorem dX10_meanDays_68 : decode cX10_meanDays 68 = .ok (.goto (-51), 3) := by decide +kernel
theorem dX10_meanDays_71 : decode cX10_meanDays 71 = .ok (.iload_n 1, 1) := by decide +kernel
theorem dX10_meanDays_72 : decode cX10_meanDays 72 = .ok (.ifCond .ne 7, 3) := by decide +kernel
theorem dX10_meanDays_75 : decode cX10_meanDays 75 = .ok (.dconst 0, 1) := by decide +kernel
theorem dX10_meanDays_76 : decode cX10_meanDays 76 = .ok (.goto 8, 3) := by decide +kernel
theorem dX10_meanDays_79 : decode cX10_meanDays 79 = .ok (.iload_n 2, 1) := by decide +kernel
theorem dX10_meanDays_80 : decode cX10_meanDays 80 = .ok (.i2d, 1) := by decide +kernel
theorem dX10_meanDays_81 : decode cX10_meanDays 81 = .ok (.iload_n 1, 1) := by decide +kernel
theorem dX10_meanDays_82 : decode cX10_meanDays 82 = .ok (.i2d, 1) := by decide +kernel
theorem dX10_meanDays_83 : decode cX10_meanDays 83 = .ok (.ddiv, 1) := by decide +kernel
theorem dX10_meanDays_84 : decode cX10_meanDays 84 = .ok (.dreturn, 1) := by decide +kernel
theorem dX10_rightOnNow_0 : decode cX10_rightOnNow 0 = .ok (.aload_n 0, 1) := by decide +kernel
theorem dX10_rightOnNow_1 : decode cX10_rightOnNow 1 = .ok (.getfield 20, 3) := by decide +kernel
theorem dX10_rightOnNow_4 : decode cX10_rightOnNow 4 = .ok (.iload_n 2, 1) := by decide +kernel
theorem dX10_rightOnNow_5 : decode cX10_rightOnNow 5 = .ok (.invokevirtual 51, 3) := by decide +kernel
theorem dX10_rightOnNow_8 : decode cX10_rightOnNow 8 = .ok (.checkcast 70, 3) := by decide +kernel
theorem dX10_rightOnNow_11 : decode cX10_rightOnNow 11 = .ok (.invokevirtual 266, 3) := by decide +kernel
theorem dX10_rightOnNow_14 : decode cX10_rightOnNow 14 = .ok (.istore_n 3, 1) := by decide +kernel
theorem dX10_rightOnNow_15 : decode cX10_rightOnNow 15 = .ok (.aload_n 1, 1) := by decide +kernel
theorem dX10_rightOnNow_16 : decode cX10_rightOnNow 16 = .ok (.getfield 140, 3) := by decide +kernel
theorem dX10_rightOnNow_19 : decode cX10_rightOnNow 19 = .ok (.ifCond .ne 14, 3) := by decide +kernel
theorem dX10_rightOnNow_22 : decode cX10_rightOnNow 22 = .ok (.iload_n 3, 1) := by decide +kernel
theorem dX10_rightOnNow_23 : decode cX10_rightOnNow 23 = .ok (.aload_n 1, 1) := by decide +kernel
theorem dX10_rightOnNow_24 : decode cX10_rightOnNow 24 = .ok (.getfield 118, 3) := by decide +kernel
theorem dX10_rightOnNow_27 : decode cX10_rightOnNow 27 = .ok (.iconst (-1), 1) := by decide +kernel
theorem dX10_rightOnNow_28 : decode cX10_rightOnNow 28 = .ok (.ixor, 1) := by decide +kernel
theorem dX10_rightOnNow_29 : decode cX10_rightOnNow 29 = .ok (.iand, 1) := by decide +kernel
theorem dX10_rightOnNow_30 : decode cX10_rightOnNow 30 = .ok (.ifCond .eq 5, 3) := by decide +kernel
theorem dX10_rightOnNow_33 : decode cX10_rightOnNow 33 = .ok (.iconst (-1), 1) := by decide +kernel
theorem dX10_rightOnNow_34 : decode cX10_rightOnNow 34 = .ok (.ireturn, 1) := by decide +kernel
theorem dX10_rightOnNow_35 : decode cX10_rightOnNow 35 = .ok (.aload_n 0, 1) := by decide +kernel
theorem dX10_rightOnNow_36 : decode cX10_rightOnNow 36 = .ok (.aload_n 1, 1) := by decide +kernel
theorem dX10_rightOnNow_37 : decode cX10_rightOnNow 37 = .ok (.iload_n 3, 1) := by decide +kernel
theorem dX10_rightOnNow_38 : decode cX10_rightOnNow 38 = .ok (.i2l, 1) := by decide +kernel
theorem dX10_rightOnNow_39 : decode cX10_rightOnNow 39 = .ok (.invokevirtual 143, 3) := by decide +kernel
theorem dX10_rightOnNow_42 : decode cX10_rightOnNow 42 = .ok (.istore 4, 2) := by decide +kernel
theorem dX10_rightOnNow_44 : decode cX10_rightOnNow 44 = .ok (.iload 4, 2) := by decide +kernel
theorem dX10_rightOnNow_46 : decode cX10_rightOnNow 46 = .ok (.iconst (-1), 1) := by decide +kernel
theorem dX10_rightOnNow_47 : decode cX10_rightOnNow 47 = .ok (.if_icmp .ne 7, 3) := by decide +kernel
theorem dX10_rightOnNow_50 : decode cX10_rightOnNow 50 = .ok (.iconst (-1), 1) := by decide +kernel
theorem dX10_rightOnNow_51 : decode cX10_rightOnNow 51 = .ok (.goto 7, 3) := by decide +kernel
theorem dX10_rightOnNow_54 : decode cX10_rightOnNow 54 = .ok (.iload 4, 2) := by decide +kernel
theorem dX10_rightOnNow_56 : decode cX10_rightOnNow 56 = .ok (.iconst 1, 1) := by decide +kernel
theorem dX10_rightOnNow_57 : decode cX10_rightOnNow 57 = .ok (.iadd, 1) := by decide +kernel
theorem dX10_rightOnNow_58 : decode cX10_rightOnNow 58 = .ok (.ireturn, 1) := by decide +kernel
theorem dX10_rightOn_0 : decode cX10_rightOn 0 = .ok (.aload_n 0, 1) := by decide +kernel
theorem dX10_rightOn_1 : decode cX10_rightOn 1 = .ok (.iload_n 1, 1) := by decide +kernel
theorem dX10_rightOn_2 : decode cX10_rightOn 2 = .ok (.invokevirtual 250, 3) := by decide +kernel
theorem dX10_rightOn_5 : decode cX10_rightOn 5 = .ok (.ifCond .ne 33, 3) := by decide +kernel
theorem dX10_rightOn_8 : decode cX10_rightOn 8 = .ok (.aload_n 0, 1) := by decide +kernel
theorem dX10_rightOn_9 : decode cX10_rightOn 9 = .ok (.iload_n 2, 1) := by decide +kernel
theorem dX10_rightOn_10 : decode cX10_rightOn 10 = .ok (.iconst 0, 1) := by decide +kernel
theorem dX10_rightOn_11 : decode cX10_rightOn 11 = .ok (.aload_n 0, 1) := by decide +kernel
theorem dX10_rightOn_12 : decode cX10_rightOn 12 = .ok (.getfield 20, 3) := by decide +kernel
theorem dX10_rightOn_15 : decode cX10_rightOn 15 = .ok (.invokevirtual 43, 3) := by decide +kernel
theorem dX10_rightOn_18 : decode cX10_rightOn 18 = .ok (.iconst 1, 1) := by decide +kernel
theorem dX10_rightOn_19 : decode cX10_rightOn 19 = .ok (.isub, 1) := by decide +kernel
theorem dX10_rightOn_20 : decode cX10_rightOn 20 = .ok (.invokestatic 47, 3) := by decide +kernel
theorem dX10_rightOn_23 : decode cX10_rightOn 23 = .ok (.ifCond .ne 7, 3) := by decide +kernel
theorem dX10_rightOn_26 : decode cX10_rightOn 26 = .ok (.iconst 1, 1) := by decide +kernel
theorem dX10_rightOn_27 : decode cX10_rightOn 27 = .ok (.goto 4, 3) := by decide +kernel
theorem dX10_rightOn_30 : decode cX10_rightOn 30 = .ok (.iconst 0, 1) := by decide +kernel
theorem dX10_rightOn_31 : decode cX10_rightOn 31 = .ok (.iconst 1, 1) := by decide +kernel
theorem dX10_rightOn_32 : decode cX10_rightOn 32 = .ok (.invokevirtual 39, 3) := by decide +kernel
theorem dX10_rightOn_35 : decode cX10_rightOn 35 = .ok (.ifCond .eq 7, 3) := by decide +kernel
theorem dX10_rightOn_38 : decode cX10_rightOn 38 = .ok (.iconst 0, 1) := by decide +kernel
theorem dX10_rightOn_39 : decode cX10_rightOn 39 = .ok (.goto 19, 3) := by decide +kernel
theorem dX10_rightOn_42 : decode cX10_rightOn 42 = .ok (.aload_n 0, 1) := by decide +kernel
theorem dX10_rightOn_43 : decode cX10_rightOn 43 = .ok (.aload_n 0, 1) := by decide +kernel
theorem dX10_rightOn_44 : decode cX10_rightOn 44 = .ok (.getfield 32, 3) := by decide +kernel
theorem dX10_rightOn_47 : decode cX10_rightOn 47 = .ok (.iload_n 1, 1) := by decide +kernel
theorem dX10_rightOn_48 : decode cX10_rightOn 48 = .ok (.invokevirtual 51, 3) := by decide +kernel
theorem dX10_rightOn_51 : decode cX10_rightOn 51 = .ok (.checkcast 64, 3) := by decide +kernel
theorem dX10_rightOn_54 : decode cX10_rightOn 54 = .ok (.iload_n 2, 1) := by decide +kernel
theorem dX10_rightOn_55 : decode cX10_rightOn 55 = .ok (.invokevirtual 285, 3) := by decide +kernel
theorem dX10_rightOn_58 : decode cX10_rightOn 58 = .ok (.ireturn, 1) := by decide +kernel
theorem dX10_shiftBy_0 : decode cX10_shiftBy 0 = .ok (.aload_n 0, 1) := by decide +kernel
theorem dX10_shiftBy_1 : decode cX10_shiftBy 1 = .ok (.iload_n 1, 1) := by decide +kernel
theorem dX10_shiftBy_2 : decode cX10_shiftBy 2 = .ok (.iload_n 2, 1) := by decide +kernel
theorem dX10_shiftBy_3 : decode cX10_shiftBy 3 = .ok (.invokevirtual 234, 3) := by decide +kernel
theorem dX10_shiftBy_6 : decode cX10_shiftBy 6 = .ok (.ifCond .eq 5, 3) := by decide +kernel
theorem dX10_shiftBy_9 : decode cX10_shiftBy 9 = .ok (.iconst 0, 1) := by decide +kernel
theorem dX10_shiftBy_10 : decode cX10_shiftBy 10 = .ok (.ireturn, 1) := by decide +kernel
theorem dX10_shiftBy_11 : decode cX10_shiftBy 11 = .ok (.aload_n 0, 1) := by decide +kernel
theorem dX10_shiftBy_12 : decode cX10_shiftBy 12 = .ok (.getfield 32, 3) := by decide +kernel
theorem dX10_shiftBy_15 : decode cX10_shiftBy 15 = .ok (.invokevirtual 43, 3) := by decide +kernel
theorem dX10_shiftBy_18 : decode cX10_shiftBy 18 = .ok (.newarray .int, 2) := by decide +kernel
theorem dX10_shiftBy_20 : decode cX10_shiftBy 20 = .ok (.astore_n 3, 1) := by decide +kernel
theorem dX10_shiftBy_21 : decode cX10_shiftBy 21 = .ok (.iconst 0, 1) := by decide +kernel
theorem dX10_shiftBy_22 : decode cX10_shiftBy 22 = .ok (.istore 4, 2) := by decide +kernel
theorem dX10_shiftBy_24 : decode cX10_shiftBy 24 = .ok (.iload 4, 2) := by decide +kernel
theorem dX10_shiftBy_26 : decode cX10_shiftBy 26 = .ok (.aload_n 3, 1) := by decide +kernel
theorem dX10_shiftBy_27 : decode cX10_shiftBy 27 = .ok (.arraylength, 1) := by decide +kernel
theorem dX10_shiftBy_28 : decode cX10_shiftBy 28 = .ok (.if_icmp .ge 29, 3) := by decide +kernel
theorem dX10_shiftBy_31 : decode cX10_shiftBy 31 = .ok (.aload_n 3, 1) := by decide +kernel
theorem dX10_shiftBy_32 : decode cX10_shiftBy 32 = .ok (.iload 4, 2) := by decide +kernel
theorem dX10_shiftBy_34 : decode cX10_shiftBy 34 = .ok (.aload_n 0, 1) := by decide +kernel
theorem dX10_shiftBy_35 : decode cX10_shiftBy 35 = .ok (.aload_n 0, 1) := by decide +kernel
theorem dX10_shiftBy_36 : decode cX10_shiftBy 36 = .ok (.getfield 32, 3) := by decide +kernel
theorem dX10_shiftBy_39 : decode cX10_shiftBy 39 = .ok (.iload 4, 2) := by decide +kernel
theorem dX10_shiftBy_41 : decode cX10_shiftBy 41 = .ok (.invokevirtual 51, 3) := by decide +kernel
theorem dX10_shiftBy_44 : decode cX10_shiftBy 44 = .ok (.checkcast 64, 3) := by decide +kernel
theorem dX10_shiftBy_47 : decode cX10_shiftBy 47 = .ok (.invokevirtual 276, 3) := by decide +kernel
theorem dX10_shiftBy_50 : decode cX10_shiftBy 50 = .ok (.iastore, 1) := by decide +kernel
theorem dX10_shiftBy_51 : decode cX10_shiftBy 51 = .ok (.iinc 4 1, 3) := by decide +kernel
theorem dX10_shiftBy_54 : decode cX10_shiftBy 54 = .ok (.goto (-30), 3) := by decide +kernel
theorem dX10_shiftBy_57 : decode cX10_shiftBy 57 = .ok (.aload_n 0, 1) := by decide +kernel
theorem dX10_shiftBy_58 : decode cX10_shiftBy 58 = .ok (.getfield 26, 3) := by decide +kernel
theorem dX10_shiftBy_61 : decode cX10_shiftBy 61 = .ok (.iload_n 1, 1) := by decide +kernel
theorem dX10_shiftBy_62 : decode cX10_shiftBy 62 = .ok (.invokevirtual 51, 3) := by decide +kernel
theorem dX10_shiftBy_65 : decode cX10_shiftBy 65 = .ok (.checkcast 88, 3) := by decide +kernel
theorem dX10_shiftBy_68 : decode cX10_shiftBy 68 = .ok (.dup, 1) := by decide +kernel
theorem dX10_shiftBy_69 : decode cX10_shiftBy 69 = .ok (.getfield 97, 3) := by decide +kernel
theorem dX10_shiftBy_72 : decode cX10_shiftBy 72 = .ok (.iload_n 2, 1) := by decide +kernel
theorem dX10_shiftBy_73 : decode cX10_shiftBy 73 = .ok (.iadd, 1) := by decide +kernel
theorem dX10_shiftBy_74 : decode cX10_shiftBy 74 = .ok (.putfield 97, 3) := by decide +kernel
theorem dX10_shiftBy_77 : decode cX10_shiftBy 77 = .ok (.iconst 0, 1) := by decide +kernel
theorem dX10_shiftBy_78 : decode cX10_shiftBy 78 = .ok (.istore 4, 2) := by decide +kernel
theorem dX10_shiftBy_80 : decode cX10_shiftBy 80 = .ok (.iconst 0, 1) := by decide +kernel
theorem dX10_shiftBy_81 : decode cX10_shiftBy 81 = .ok (.istore 5, 2) := by decide +kernel
theorem dX10_shiftBy_83 : decode cX10_shiftBy 83 = .ok (.iload 5, 2) := by decide +kernel
theorem dX10_shiftBy_85 : decode cX10_shiftBy 85 = .ok (.aload_n 3, 1) := by decide +kernel
theorem dX10_shiftBy_86 : decode cX10_shiftBy 86 = .ok (.arraylength, 1) := by decide +kernel
theorem dX10_shiftBy_87 : decode cX10_shiftBy 87 = .ok (.if_icmp .ge 63, 3) := by decide +kernel
theorem dX10_shiftBy_90 : decode cX10_shiftBy 90 = .ok (.aload_n 3, 1) := by decide +kernel
theorem dX10_shiftBy_91 : decode cX10_shiftBy 91 = .ok (.iload 5, 2) := by decide +kernel
theorem dX10_shiftBy_93 : decode cX10_shiftBy 93 = .ok (.iaload, 1) := by decide +kernel
theorem dX10_shiftBy_94 : decode cX10_shiftBy 94 = .ok (.iconst (-1), 1) := by decide +kernel
theorem dX10_shiftBy_95 : decode cX10_shiftBy 95 = .ok (.if_icmp .eq 49, 3) := by decide +kernel
theorem dX10_shiftBy_98 : decode cX10_shiftBy 98 = .ok (.aload_n 0, 1) := by decide +kernel
theorem dX10_shiftBy_99 : decode cX10_shiftBy 99 = .ok (.aload_n 0, 1) := by decide +kernel
theorem dX10_shiftBy_100 : decode cX10_shiftBy 100 = .ok (.getfield 32, 3) := by decide +kernel
theorem dX10_shiftBy_103 : decode cX10_shiftBy 103 = .ok (.iload 5, 2) := by decide +kernel
theorem dX10_shiftBy_105 : decode cX10_shiftBy 105 = .ok (.invokevirtual 51, 3) := by decide +kernel
theorem dX10_shiftBy_108 : decode cX10_shiftBy 108 = .ok (.checkcast 64, 3) := by decide +kernel
theorem dX10_shiftBy_111 : decode cX10_shiftBy 111 = .ok (.invokevirtual 276, 3) := by decide +kernel
theorem dX10_shiftBy_114 : decode cX10_shiftBy 114 = .ok (.iconst (-1), 1) := by decide +kernel
theorem dX10_shiftBy_115 : decode cX10_shiftBy 115 = .ok (.if_icmp .eq 29, 3) := by decide +kernel
theorem dX10_shiftBy_118 : decode cX10_shiftBy 118 = .ok (.iload 4, 2) := by decide +kernel
theorem dX10_shiftBy_120 : decode cX10_shiftBy 120 = .ok (.aload_n 0, 1) := by decide +kernel
theorem dX10_shiftBy_121 : decode cX10_shiftBy 121 = .ok (.aload_n 0, 1) := by decide +kernel
theorem dX10_shiftBy_122 : decode cX10_shiftBy 122 = .ok (.getfield 32, 3) := by decide +kernel
theorem dX10_shiftBy_125 : decode cX10_shiftBy 125 = .ok (.iload 5, 2) := by decide +kernel
theorem dX10_shiftBy_127 : decode cX10_shiftBy 127 = .ok (.invokevirtual 51, 3) := by decide +kernel
theorem dX10_shiftBy_130 : decode cX10_shiftBy 130 = .ok (.checkcast 64, 3) := by decide +kernel
theorem dX10_shiftBy_133 : decode cX10_shiftBy 133 = .ok (.invokevirtual 276, 3) := by decide +kernel
theorem dX10_shiftBy_136 : decode cX10_shiftBy 136 = .ok (.aload_n 3, 1) := by decide +kernel
theorem dX10_shiftBy_137 : decode cX10_shiftBy 137 = .ok (.iload 5, 2) := by decide +kernel
theorem dX10_shiftBy_139 : decode cX10_shiftBy 139 = .ok (.iaload, 1) := by decide +kernel
theorem dX10_shiftBy_140 : decode cX10_shiftBy 140 = .ok (.isub, 1) := by decide +kernel
theorem dX10_shiftBy_141 : decode cX10_shiftBy 141 = .ok (.iadd, 1) := by decide +kernel
theorem dX10_shiftBy_142 : decode cX10_shiftBy 142 = .ok (.istore 4, 2) := by decide +kernel
theorem dX10_shiftBy_144 : decode cX10_shiftBy 144 = .ok (.iinc 5 1, 3) := by decide +kernel
theorem dX10_shiftBy_147 : decode cX10_shiftBy 147 = .ok (.goto (-64), 3) := by decide +kernel
theorem dX10_shiftBy_150 : decode cX10_shiftBy 150 = .ok (.aload_n 0, 1) := by decide +kernel
theorem dX10_shiftBy_151 : decode cX10_shiftBy 151 = .ok (.getfield 26, 3) := by decide +kernel
theorem dX10_shiftBy_154 : decode cX10_shiftBy 154 = .ok (.iload_n 1, 1) := by decide +kernel
theorem dX10_shiftBy_155 : decode cX10_shiftBy 155 = .ok (.invokevirtual 51, 3) := by decide +kernel
theorem dX10_shiftBy_158 : decode cX10_shiftBy 158 = .ok (.checkcast 88, 3) := by decide +kernel
theorem dX10_shiftBy_161 : decode cX10_shiftBy 161 = .ok (.dup, 1) := by decide +kernel
theorem dX10_shiftBy_162 : decode cX10_shiftBy 162 = .ok (.getfield 97, 3) := by decide +kernel
theorem dX10_shiftBy_165 : decode cX10_shiftBy 165 = .ok (.iload_n 2, 1) := by decide +kernel
theorem dX10_shiftBy_166 : decode cX10_shiftBy 166 = .ok (.isub, 1) := by decide +kernel
theorem dX10_shiftBy_167 : decode cX10_shiftBy 167 = .ok (.putfield 97, 3) := by decide +kernel
theorem dX10_shiftBy_170 : decode cX10_shiftBy 170 = .ok (.iload 4, 2) := by decide +kernel
theorem dX10_shiftBy_172 : decode cX10_shiftBy 172 = .ok (.ireturn, 1) := by decide +kernel
theorem dX10_nextNow_0 : decode cX10_nextNow 0 = .ok (.iconst 0, 1) := by decide +kernel
theorem dX10_nextNow_1 : decode cX10_nextNow 1 = .ok (.istore_n 2, 1) := by decide +kernel
theorem dX10_nextNow_2 : decode cX10_nextNow 2 = .ok (.iload_n 2, 1) := by decide +kernel
theorem dX10_nextNow_3 : decode cX10_nextNow 3 = .ok (.aload_n 0, 1) := by decide +kernel
theorem dX10_nextNow_4 : decode cX10_nextNow 4 = .ok (.getfield 10, 3) := by decide +kernel
theorem dX10_nextNow_7 : decode cX10_nextNow 7 = .ok (.invokevirtual 43, 3) := by decide +kernel
theorem dX10_nextNow_10 : decode cX10_nextNow 10 = .ok (.if_icmp .ge 57, 3) := by decide +kernel
theorem dX10_nextNow_13 : decode cX10_nextNow 13 = .ok (.aload_n 1, 1) := by decide +kernel
theorem dX10_nextNow_14 : decode cX10_nextNow 14 = .ok (.getfield 140, 3) := by decide +kernel
theorem dX10_nextNow_17 : decode cX10_nextNow 17 = .ok (.ifCond .ne 44, 3) := by decide +kernel
theorem dX10_nextNow_20 : decode cX10_nextNow 20 = .ok (.aload_n 1, 1) := by decide +kernel
theorem dX10_nextNow_21 : decode cX10_nextNow 21 = .ok (.iload_n 2, 1) := by decide +kernel
theorem dX10_nextNow_22 : decode cX10_nextNow 22 = .ok (.iconst 0, 1) := by decide +kernel
theorem dX10_nextNow_23 : decode cX10_nextNow 23 = .ok (.invokevirtual 63, 3) := by decide +kernel
theorem dX10_nextNow_26 : decode cX10_nextNow 26 = .ok (.ifCond .ne 12, 3) := by decide +kernel
theorem dX10_nextNow_29 : decode cX10_nextNow 29 = .ok (.aload_n 1, 1) := by decide +kernel
theorem dX10_nextNow_30 : decode cX10_nextNow 30 = .ok (.iload_n 2, 1) := by decide +kernel
theorem dX10_nextNow_31 : decode cX10_nextNow 31 = .ok (.iconst 1, 1) := by decide +kernel
theorem dX10_nextNow_32 : decode cX10_nextNow 32 = .ok (.invokevirtual 63, 3) := by decide +kernel
theorem dX10_nextNow_35 : decode cX10_nextNow 35 = .ok (.ifCond .eq 26, 3) := by decide +kernel
theorem dX10_nextNow_38 : decode cX10_nextNow 38 = .ok (.aload_n 1, 1) := by decide +kernel
theorem dX10_nextNow_39 : decode cX10_nextNow 39 = .ok (.aload_n 0, 1) := by decide +kernel
theorem dX10_nextNow_40 : decode cX10_nextNow 40 = .ok (.getfield 10, 3) := by decide +kernel
theorem dX10_nextNow_43 : decode cX10_nextNow 43 = .ok (.iload_n 2, 1) := by decide +kernel
theorem dX10_nextNow_44 : decode cX10_nextNow 44 = .ok (.invokevirtual 51, 3) := by decide +kernel
theorem dX10_nextNow_47 : decode cX10_nextNow 47 = .ok (.checkcast 55, 3) := by decide +kernel
theorem dX10_nextNow_50 : decode cX10_nextNow 50 = .ok (.getfield 115, 3) := by decide +kernel
theorem dX10_nextNow_53 : decode cX10_nextNow 53 = .ok (.invokevirtual 172, 3) := by decide +kernel
theorem dX10_nextNow_56 : decode cX10_nextNow 56 = .ok (.ifCond .eq 5, 3) := by decide +kernel
theorem dX10_nextNow_59 : decode cX10_nextNow 59 = .ok (.iload_n 2, 1) := by decide +kernel
theorem dX10_nextNow_60 : decode cX10_nextNow 60 = .ok (.ireturn, 1) := by decide +kernel
theorem dX10_nextNow_61 : decode cX10_nextNow 61 = .ok (.iinc 2 1, 3) := by decide +kernel
theorem dX10_nextNow_64 : decode cX10_nextNow 64 = .ok (.goto (-62), 3) := by decide +kernel
theorem dX10_nextNow_67 : decode cX10_nextNow 67 = .ok (.iconst (-1), 1) := by decide +kernel
theorem dX10_nextNow_68 : decode cX10_nextNow 68 = .ok (.ireturn, 1) := by decide +kernel
theorem dX10_next_0 : decode cX10_next 0 = .ok (.aload_n 0, 1) := by decide +kernel
theorem dX10_next_1 : decode cX10_next 1 = .ok (.iload_n 1, 1) := by decide +kernel
theorem dX10_next_2 : decode cX10_next 2 = .ok (.invokevirtual 250, 3) := by decide +kernel
theorem dX10_next_5 : decode cX10_next 5 = .ok (.ifCond .eq 7, 3) := by decide +kernel
theorem dX10_next_8 : decode cX10_next 8 = .ok (.iconst 0, 1) := by decide +kernel
theorem dX10_next_9 : decode cX10_next 9 = .ok (.goto 18, 3) := by decide +kernel
theorem dX10_next_12 : decode cX10_next 12 = .ok (.aload_n 0, 1) := by decide +kernel
theorem dX10_next_13 : decode cX10_next 13 = .ok (.aload_n 0, 1) := by decide +kernel
theorem dX10_next_14 : decode cX10_next 14 = .ok (.getfield 32, 3) := by decide +kernel
theorem dX10_next_17 : decode cX10_next 17 = .ok (.iload_n 1, 1) := by decide +kernel
theorem dX10_next_18 : decode cX10_next 18 = .ok (.invokevirtual 51, 3) := by decide +kernel
theorem dX10_next_21 : decode cX10_next 21 = .ok (.checkcast 64, 3) := by decide +kernel
theorem dX10_next_24 : decode cX10_next 24 = .ok (.invokevirtual 288, 3) := by decide +kernel
theorem dX10_next_27 : decode cX10_next 27 = .ok (.ireturn, 1) := by decide +kernel
theorem dX10_waitForNow_0 : decode cX10_waitForNow 0 = .ok (.iconst 1, 1) := by decide +kernel
theorem dX10_waitForNow_1 : decode cX10_waitForNow 1 = .ok (.iload_n 2, 1) := by decide +kernel
theorem dX10_waitForNow_2 : decode cX10_waitForNow 2 = .ok (.ishl, 1) := by decide +kernel
theorem dX10_waitForNow_3 : decode cX10_waitForNow 3 = .ok (.istore_n 3, 1) := by decide +kernel
theorem dX10_waitForNow_4 : decode cX10_waitForNow 4 = .ok (.iconst 0, 1) := by decide +kernel
theorem dX10_waitForNow_5 : decode cX10_waitForNow 5 = .ok (.istore 4, 2) := by decide +kernel
theorem dX10_waitForNow_7 : decode cX10_waitForNow 7 = .ok (.iload_n 2, 1) := by decide +kernel
theorem dX10_waitForNow_8 : decode cX10_waitForNow 8 = .ok (.iconst 1, 1) := by decide +kernel
theorem dX10_waitForNow_9 : decode cX10_waitForNow 9 = .ok (.iadd, 1) := by decide +kernel
theorem dX10_waitForNow_10 : decode cX10_waitForNow 10 = .ok (.istore 5, 2) := by decide +kernel
theorem dX10_waitForNow_12 : decode cX10_waitForNow 12 = .ok (.iload 5, 2) := by decide +kernel
theorem dX10_waitForNow_14 : decode cX10_waitForNow 14 = .ok (.aload_n 0, 1) := by decide +kernel
theorem dX10_waitForNow_15 : decode cX10_waitForNow 15 = .ok (.getfield 10, 3) := by decide +kernel
theorem dX10_waitForNow_18 : decode cX10_waitForNow 18 = .ok (.invokevirtual 43, 3) := by decide +kernel
theorem dX10_waitForNow_21 : decode cX10_waitForNow 21 = .ok (.if_icmp .ge 69, 3) := by decide +kernel
theorem dX10_waitForNow_24 : decode cX10_waitForNow 24 = .ok (.aload_n 1, 1) := by decide +kernel
theorem dX10_waitForNow_25 : decode cX10_waitForNow 25 = .ok (.iload 5, 2) := by decide +kernel
theorem dX10_waitForNow_27 : decode cX10_waitForNow 27 = .ok (.invokevirtual 256, 3) := by decide +kernel
theorem dX10_waitForNow_30 : decode cX10_waitForNow 30 = .ok (.ifCond .eq 54, 3) := by decide +kernel
theorem dX10_waitForNow_33 : decode cX10_waitForNow 33 = .ok (.aload_n 0, 1) := by decide +kernel
theorem dX10_waitForNow_34 : decode cX10_waitForNow 34 = .ok (.getfield 10, 3) := by decide +kernel
theorem dX10_waitForNow_37 : decode cX10_waitForNow 37 = .ok (.iload 5, 2) := by decide +kernel
theorem dX10_waitForNow_39 : decode cX10_waitForNow 39 = .ok (.invokevirtual 51, 3) := by decide +kernel
theorem dX10_waitForNow_42 : decode cX10_waitForNow 42 = .ok (.checkcast 55, 3) := by decide +kernel
theorem dX10_waitForNow_45 : decode cX10_waitForNow 45 = .ok (.getfield 115, 3) := by decide +kernel
theorem dX10_waitForNow_48 : decode cX10_waitForNow 48 = .ok (.iload_n 3, 1) := by decide +kernel
theorem dX10_waitForNow_49 : decode cX10_waitForNow 49 = .ok (.iand, 1) := by decide +kernel
theorem dX10_waitForNow_50 : decode cX10_waitForNow 50 = .ok (.ifCond .ne 6, 3) := by decide +kernel
theorem dX10_waitForNow_53 : decode cX10_waitForNow 53 = .ok (.goto 31, 3) := by decide +kernel
theorem dX10_waitForNow_56 : decode cX10_waitForNow 56 = .ok (.iload_n 3, 1) := by decide +kernel
theorem dX10_waitForNow_57 : decode cX10_waitForNow 57 = .ok (.iconst 1, 1) := by decide +kernel
theorem dX10_waitForNow_58 : decode cX10_waitForNow 58 = .ok (.iload 5, 2) := by decide +kernel
theorem dX10_waitForNow_60 : decode cX10_waitForNow 60 = .ok (.ishl, 1) := by decide +kernel
theorem dX10_waitForNow_61 : decode cX10_waitForNow 61 = .ok (.ior, 1) := by decide +kernel
theorem dX10_waitForNow_62 : decode cX10_waitForNow 62 = .ok (.istore_n 3, 1) := by decide +kernel
theorem dX10_waitForNow_63 : decode cX10_waitForNow 63 = .ok (.iload 4, 2) := by decide +kernel
theorem dX10_waitForNow_65 : decode cX10_waitForNow 65 = .ok (.aload_n 1, 1) := by decide +kernel
theorem dX10_waitForNow_66 : decode cX10_waitForNow 66 = .ok (.getfield 75, 3) := by decide +kernel
theorem dX10_waitForNow_69 : decode cX10_waitForNow 69 = .ok (.iload 5, 2) := by decide +kernel
theorem dX10_waitForNow_71 : decode cX10_waitForNow 71 = .ok (.iaload, 1) := by decide +kernel
theorem dX10_waitForNow_72 : decode cX10_waitForNow 72 = .ok (.iconst 2, 1) := by decide +kernel
theorem dX10_waitForNow_73 : decode cX10_waitForNow 73 = .ok (.if_icmp .ne 7, 3) := by decide +kernel
theorem dX10_waitForNow_76 : decode cX10_waitForNow 76 = .ok (.iconst 0, 1) := by decide +kernel
theorem dX10_waitForNow_77 : decode cX10_waitForNow 77 = .ok (.goto 4, 3) := by decide +kernel
theorem dX10_waitForNow_80 : decode cX10_waitForNow 80 = .ok (.iconst 1, 1) := by decide +kernel
theorem dX10_waitForNow_81 : decode cX10_waitForNow 81 = .ok (.iadd, 1) := by decide +kernel
theorem dX10_waitForNow_82 : decode cX10_waitForNow 82 = .ok (.istore 4, 2) := by decide +kernel
theorem dX10_waitForNow_84 : decode cX10_waitForNow 84 = .ok (.iinc 5 1, 3) := by decide +kernel
theorem dX10_waitForNow_87 : decode cX10_waitForNow 87 = .ok (.goto (-75), 3) := by decide +kernel
theorem dX10_waitForNow_90 : decode cX10_waitForNow 90 = .ok (.iload 4, 2) := by decide +kernel
theorem dX10_waitForNow_92 : decode cX10_waitForNow 92 = .ok (.ireturn, 1) := by decide +kernel
theorem dX10_waitFor_0 : decode cX10_waitFor 0 = .ok (.aload_n 0, 1) := by decide +kernel
theorem dX10_waitFor_1 : decode cX10_waitFor 1 = .ok (.iload_n 1, 1) := by decide +kernel
theorem dX10_waitFor_2 : decode cX10_waitFor 2 = .ok (.iload_n 2, 1) := by decide +kernel
theorem dX10_waitFor_3 : decode cX10_waitFor 3 = .ok (.invokevirtual 259, 3) := by decide +kernel
theorem dX10_waitFor_6 : decode cX10_waitFor 6 = .ok (.ifCond .eq 7, 3) := by decide +kernel
theorem dX10_waitFor_9 : decode cX10_waitFor 9 = .ok (.iconst 0, 1) := by decide +kernel
theorem dX10_waitFor_10 : decode cX10_waitFor 10 = .ok (.goto 19, 3) := by decide +kernel
theorem dX10_waitFor_13 : decode cX10_waitFor 13 = .ok (.aload_n 0, 1) := by decide +kernel
theorem dX10_waitFor_14 : decode cX10_waitFor 14 = .ok (.aload_n 0, 1) := by decide +kernel
theorem dX10_waitFor_15 : decode cX10_waitFor 15 = .ok (.getfield 32, 3) := by decide +kernel
theorem dX10_waitFor_18 : decode cX10_waitFor 18 = .ok (.iload_n 1, 1) := by decide +kernel
theorem dX10_waitFor_19 : decode cX10_waitFor 19 = .ok (.invokevirtual 51, 3) := by decide +kernel
theorem dX10_waitFor_22 : decode cX10_waitFor 22 = .ok (.checkcast 64, 3) := by decide +kernel
theorem dX10_waitFor_25 : decode cX10_waitFor 25 = .ok (.iload_n 2, 1) := by decide +kernel
theorem dX10_waitFor_26 : decode cX10_waitFor 26 = .ok (.invokevirtual 291, 3) := by decide +kernel
theorem dX10_waitFor_29 : decode cX10_waitFor 29 = .ok (.ireturn, 1) := by decide +kernel
theorem dX10_add_0 : decode cX10_add 0 = .ok (.lload_n 0, 1) := by decide +kernel
theorem dX10_add_1 : decode cX10_add 1 = .ok (.ldc2_w 294, 3) := by decide +kernel
theorem dX10_add_4 : decode cX10_add 4 = .ok (.lmul, 1) := by decide +kernel
theorem dX10_add_5 : decode cX10_add 5 = .ok (.lload_n 2, 1) := by decide +kernel
theorem dX10_add_6 : decode cX10_add 6 = .ok (.ladd, 1) := by decide +kernel
theorem dX10_add_7 : decode cX10_add 7 = .ok (.lreturn, 1) := by decide +kernel
theorem dX10_digest_0 : decode cX10_digest 0 = .ok (.aload_n 0, 1) := by decide +kernel
theorem dX10_digest_1 : decode cX10_digest 1 = .ok (.iconst 0, 1) := by decide +kernel
theorem dX10_digest_2 : decode cX10_digest 2 = .ok (.putfield 35, 3) := by decide +kernel
theorem dX10_digest_5 : decode cX10_digest 5 = .ok (.ldc2_w 296, 3) := by decide +kernel
theorem dX10_digest_8 : decode cX10_digest 8 = .ok (.lstore_n 1, 1) := by decide +kernel
theorem dX10_digest_9 : decode cX10_digest 9 = .ok (.iconst 0, 1) := by decide +kernel
theorem dX10_digest_10 : decode cX10_digest 10 = .ok (.istore_n 3, 1) := by decide +kernel
theorem dX10_digest_11 : decode cX10_digest 11 = .ok (.iload_n 3, 1) := by decide +kernel
theorem dX10_digest_12 : decode cX10_digest 12 = .ok (.bipush 11, 2) := by decide +kernel
theorem dX10_digest_14 : decode cX10_digest 14 = .ok (.if_icmp .ge 20, 3) := by decide +kernel
theorem dX10_digest_17 : decode cX10_digest 17 = .ok (.lload_n 1, 1) := by decide +kernel
theorem dX10_digest_18 : decode cX10_digest 18 = .ok (.aload_n 0, 1) := by decide +kernel
theorem dX10_digest_19 : decode cX10_digest 19 = .ok (.iload_n 3, 1) := by decide +kernel
theorem dX10_digest_20 : decode cX10_digest 20 = .ok (.invokevirtual 282, 3) := by decide +kernel
theorem dX10_digest_23 : decode cX10_digest 23 = .ok (.i2l, 1) := by decide +kernel
theorem dX10_digest_24 : decode cX10_digest 24 = .ok (.invokestatic 298, 3) := by decide +kernel
theorem dX10_digest_27 : decode cX10_digest 27 = .ok (.lstore_n 1, 1) := by decide +kernel
theorem dX10_digest_28 : decode cX10_digest 28 = .ok (.iinc 3 1, 3) := by decide +kernel
theorem dX10_digest_31 : decode cX10_digest 31 = .ok (.goto (-20), 3) := by decide +kernel
theorem dX10_digest_34 : decode cX10_digest 34 = .ok (.iconst 0, 1) := by decide +kernel
theorem dX10_digest_35 : decode cX10_digest 35 = .ok (.istore_n 3, 1) := by decide +kernel
theorem dX10_digest_36 : decode cX10_digest 36 = .ok (.iload_n 3, 1) := by decide +kernel
theorem dX10_digest_37 : decode cX10_digest 37 = .ok (.iconst 4, 1) := by decide +kernel
theorem dX10_digest_38 : decode cX10_digest 38 = .ok (.if_icmp .ge 37, 3) := by decide +kernel
theorem dX10_digest_41 : decode cX10_digest 41 = .ok (.iconst 0, 1) := by decide +kernel
theorem dX10_digest_42 : decode cX10_digest 42 = .ok (.istore 4, 2) := by decide +kernel
theorem dX10_digest_44 : decode cX10_digest 44 = .ok (.iload 4, 2) := by decide +kernel
theorem dX10_digest_46 : decode cX10_digest 46 = .ok (.iconst 4, 1) := by decide +kernel
theorem dX10_digest_47 : decode cX10_digest 47 = .ok (.if_icmp .ge 22, 3) := by decide +kernel
theorem dX10_digest_50 : decode cX10_digest 50 = .ok (.lload_n 1, 1) := by decide +kernel
theorem dX10_digest_51 : decode cX10_digest 51 = .ok (.aload_n 0, 1) := by decide +kernel
theorem dX10_digest_52 : decode cX10_digest 52 = .ok (.iload_n 3, 1) := by decide +kernel
theorem dX10_digest_53 : decode cX10_digest 53 = .ok (.iload 4, 2) := by decide +kernel
theorem dX10_digest_55 : decode cX10_digest 55 = .ok (.invokevirtual 241, 3) := by decide +kernel
theorem dX10_digest_58 : decode cX10_digest 58 = .ok (.i2l, 1) := by decide +kernel
theorem dX10_digest_59 : decode cX10_digest 59 = .ok (.invokestatic 298, 3) := by decide +kernel
theorem dX10_digest_62 : decode cX10_digest 62 = .ok (.lstore_n 1, 1) := by decide +kernel
theorem dX10_digest_63 : decode cX10_digest 63 = .ok (.iinc 4 1, 3) := by decide +kernel
theorem dX10_digest_66 : decode cX10_digest 66 = .ok (.goto (-22), 3) := by decide +kernel
theorem dX10_digest_69 : decode cX10_digest 69 = .ok (.iinc 3 1, 3) := by decide +kernel
theorem dX10_digest_72 : decode cX10_digest 72 = .ok (.goto (-36), 3) := by decide +kernel
theorem dX10_digest_75 : decode cX10_digest 75 = .ok (.iconst 0, 1) := by decide +kernel
theorem dX10_digest_76 : decode cX10_digest 76 = .ok (.istore_n 3, 1) := by decide +kernel
theorem dX10_digest_77 : decode cX10_digest 77 = .ok (.iload_n 3, 1) := by decide +kernel
theorem dX10_digest_78 : decode cX10_digest 78 = .ok (.aload_n 0, 1) := by decide +kernel
theorem dX10_digest_79 : decode cX10_digest 79 = .ok (.getfield 29, 3) := by decide +kernel
theorem dX10_digest_82 : decode cX10_digest 82 = .ok (.invokevirtual 43, 3) := by decide +kernel
theorem dX10_digest_85 : decode cX10_digest 85 = .ok (.if_icmp .ge 37, 3) := by decide +kernel
theorem dX10_digest_88 : decode cX10_digest 88 = .ok (.iconst 0, 1) := by decide +kernel
theorem dX10_digest_89 : decode cX10_digest 89 = .ok (.istore 4, 2) := by decide +kernel
theorem dX10_digest_91 : decode cX10_digest 91 = .ok (.iload 4, 2) := by decide +kernel
theorem dX10_digest_93 : decode cX10_digest 93 = .ok (.iconst 4, 1) := by decide +kernel
theorem dX10_digest_94 : decode cX10_digest 94 = .ok (.if_icmp .ge 22, 3) := by decide +kernel
theorem dX10_digest_97 : decode cX10_digest 97 = .ok (.lload_n 1, 1) := by decide +kernel
theorem dX10_digest_98 : decode cX10_digest 98 = .ok (.aload_n 0, 1) := by decide +kernel
theorem dX10_digest_99 : decode cX10_digest 99 = .ok (.iload_n 3, 1) := by decide +kernel
theorem dX10_digest_100 : decode cX10_digest 100 = .ok (.iload 4, 2) := by decide +kernel
theorem dX10_digest_102 : decode cX10_digest 102 = .ok (.invokevirtual 238, 3) := by decide +kernel
theorem dX10_digest_105 : decode cX10_digest 105 = .ok (.i2l, 1) := by decide +kernel
theorem dX10_digest_106 : decode cX10_digest 106 = .ok (.invokestatic 298, 3) := by decide +kernel
theorem dX10_digest_109 : decode cX10_digest 109 = .ok (.lstore_n 1, 1) := by decide +kernel
theorem dX10_digest_110 : decode cX10_digest 110 = .ok (.iinc 4 1, 3) := by decide +kernel
theorem dX10_digest_113 : decode cX10_digest 113 = .ok (.goto (-22), 3) := by decide +kernel
theorem dX10_digest_116 : decode cX10_digest 116 = .ok (.iinc 3 1, 3) := by decide +kernel
theorem dX10_digest_119 : decode cX10_digest 119 = .ok (.goto (-42), 3) := by decide +kernel
theorem dX10_digest_122 : decode cX10_digest 122 = .ok (.aload_n 0, 1) := by decide +kernel
theorem dX10_digest_123 : decode cX10_digest 123 = .ok (.getfield 32, 3) := by decide +kernel
theorem dX10_digest_126 : decode cX10_digest 126 = .ok (.invokevirtual 146, 3) := by decide +kernel
theorem dX10_digest_129 : decode cX10_digest 129 = .ok (.astore_n 3, 1) := by decide +kernel
theorem dX10_digest_130 : decode cX10_digest 130 = .ok (.aload_n 3, 1) := by decide +kernel
theorem dX10_digest_131 : decode cX10_digest 131 = .ok (.invokeinterface 150 1, 5) := by decide +kernel
theorem dX10_digest_136 : decode cX10_digest 136 = .ok (.ifCond .eq 174, 3) := by decide +kernel
theorem dX10_digest_139 : decode cX10_digest 139 = .ok (.aload_n 3, 1) := by decide +kernel
theorem dX10_digest_140 : decode cX10_digest 140 = .ok (.invokeinterface 156 1, 5) := by decide +kernel
theorem dX10_digest_145 : decode cX10_digest 145 = .ok (.checkcast 64, 3) := by decide +kernel
theorem dX10_digest_148 : decode cX10_digest 148 = .ok (.astore 4, 2) := by decide +kernel
theorem dX10_digest_150 : decode cX10_digest 150 = .ok (.iconst 0, 1) := by decide +kernel
theorem dX10_digest_151 : decode cX10_digest 151 = .ok (.istore 5, 2) := by decide +kernel
theorem dX10_digest_153 : decode cX10_digest 153 = .ok (.iload 5, 2) := by decide +kernel
theorem dX10_digest_155 : decode cX10_digest 155 = .ok (.bipush 7, 2) := by decide +kernel
theorem dX10_digest_157 : decode cX10_digest 157 = .ok (.if_icmp .ge 23, 3) := by decide +kernel
theorem dX10_digest_160 : decode cX10_digest 160 = .ok (.lload_n 1, 1) := by decide +kernel
theorem dX10_digest_161 : decode cX10_digest 161 = .ok (.aload_n 0, 1) := by decide +kernel
theorem dX10_digest_162 : decode cX10_digest 162 = .ok (.aload 4, 2) := by decide +kernel
theorem dX10_digest_164 : decode cX10_digest 164 = .ok (.iload 5, 2) := by decide +kernel
theorem dX10_digest_166 : decode cX10_digest 166 = .ok (.invokevirtual 279, 3) := by decide +kernel
theorem dX10_digest_169 : decode cX10_digest 169 = .ok (.i2l, 1) := by decide +kernel
theorem dX10_digest_170 : decode cX10_digest 170 = .ok (.invokestatic 298, 3) := by decide +kernel
theorem dX10_digest_173 : decode cX10_digest 173 = .ok (.lstore_n 1, 1) := by decide +kernel
theorem dX10_digest_174 : decode cX10_digest 174 = .ok (.iinc 5 1, 3) := by decide +kernel
theorem dX10_digest_177 : decode cX10_digest 177 = .ok (.goto (-24), 3) := by decide +kernel
theorem dX10_digest_180 : decode cX10_digest 180 = .ok (.lload_n 1, 1) := by decide +kernel
theorem dX10_digest_181 : decode cX10_digest 181 = .ok (.aload_n 0, 1) := by decide +kernel
theorem dX10_digest_182 : decode cX10_digest 182 = .ok (.aload 4, 2) := by decide +kernel
theorem dX10_digest_184 : decode cX10_digest 184 = .ok (.invokevirtual 288, 3) := by decide +kernel
theorem dX10_digest_187 : decode cX10_digest 187 = .ok (.i2l, 1) := by decide +kernel
theorem dX10_digest_188 : decode cX10_digest 188 = .ok (.invokestatic 298, 3) := by decide +kernel
theorem dX10_digest_191 : decode cX10_digest 191 = .ok (.lstore_n 1, 1) := by decide +kernel
theorem dX10_digest_192 : decode cX10_digest 192 = .ok (.iconst 0, 1) := by decide +kernel
theorem dX10_digest_193 : decode cX10_digest 193 = .ok (.istore 5, 2) := by decide +kernel
theorem dX10_digest_195 : decode cX10_digest 195 = .ok (.iload 5, 2) := by decide +kernel
theorem dX10_digest_197 : decode cX10_digest 197 = .ok (.aload_n 0, 1) := by decide +kernel
theorem dX10_digest_198 : decode cX10_digest 198 = .ok (.getfield 20, 3) := by decide +kernel
theorem dX10_digest_201 : decode cX10_digest 201 = .ok (.invokevirtual 43, 3) := by decide +kernel
theorem dX10_digest_204 : decode cX10_digest 204 = .ok (.if_icmp .ge 23, 3) := by decide +kernel
theorem dX10_digest_207 : decode cX10_digest 207 = .ok (.lload_n 1, 1) := by decide +kernel
theorem dX10_digest_208 : decode cX10_digest 208 = .ok (.aload_n 0, 1) := by decide +kernel
theorem dX10_digest_209 : decode cX10_digest 209 = .ok (.aload 4, 2) := by decide +kernel
theorem dX10_digest_211 : decode cX10_digest 211 = .ok (.iload 5, 2) := by decide +kernel
theorem dX10_digest_213 : decode cX10_digest 213 = .ok (.invokevirtual 285, 3) := by decide +kernel
theorem dX10_digest_216 : decode cX10_digest 216 = .ok (.i2l, 1) := by decide +kernel
theorem dX10_digest_217 : decode cX10_digest 217 = .ok (.invokestatic 298, 3) := by decide +kernel
theorem dX10_digest_220 : decode cX10_digest 220 = .ok (.lstore_n 1, 1) := by decide +kernel
theorem dX10_digest_221 : decode cX10_digest 221 = .ok (.iinc 5 1, 3) := by decide +kernel
theorem dX10_digest_224 : decode cX10_digest 224 = .ok (.goto (-29), 3) := by decide +kernel
theorem dX10_digest_227 : decode cX10_digest 227 = .ok (.iconst 0, 1) := by decide +kernel
theorem dX10_digest_228 : decode cX10_digest 228 = .ok (.istore 5, 2) := by decide +kernel
theorem dX10_digest_230 : decode cX10_digest 230 = .ok (.iload 5, 2) := by decide +kernel
theorem dX10_digest_232 : decode cX10_digest 232 = .ok (.aload_n 0, 1) := by decide +kernel
theorem dX10_digest_233 : decode cX10_digest 233 = .ok (.getfield 10, 3) := by decide +kernel
theorem dX10_digest_236 : decode cX10_digest 236 = .ok (.invokevirtual 43, 3) := by decide +kernel
theorem dX10_digest_239 : decode cX10_digest 239 = .ok (.if_icmp .ge 68, 3) := by decide +kernel
theorem dX10_digest_242 : decode cX10_digest 242 = .ok (.aload 4, 2) := by decide +kernel
theorem dX10_digest_244 : decode cX10_digest 244 = .ok (.iload 5, 2) := by decide +kernel
theorem dX10_digest_246 : decode cX10_digest 246 = .ok (.invokevirtual 256, 3) := by decide +kernel
theorem dX10_digest_249 : decode cX10_digest 249 = .ok (.ifCond .ne 6, 3) := by decide +kernel
theorem dX10_digest_252 : decode cX10_digest 252 = .ok (.goto 49, 3) := by decide +kernel
theorem dX10_digest_255 : decode cX10_digest 255 = .ok (.iconst 0, 1) := by decide +kernel
theorem dX10_digest_256 : decode cX10_digest 256 = .ok (.istore 6, 2) := by decide +kernel
theorem dX10_digest_258 : decode cX10_digest 258 = .ok (.iload 6, 2) := by decide +kernel
theorem dX10_digest_260 : decode cX10_digest 260 = .ok (.bipush 6, 2) := by decide +kernel
theorem dX10_digest_262 : decode cX10_digest 262 = .ok (.if_icmp .ge 25, 3) := by decide +kernel
theorem dX10_digest_265 : decode cX10_digest 265 = .ok (.lload_n 1, 1) := by decide +kernel
theorem dX10_digest_266 : decode cX10_digest 266 = .ok (.aload_n 0, 1) := by decide +kernel
theorem dX10_digest_267 : decode cX10_digest 267 = .ok (.aload 4, 2) := by decide +kernel
theorem dX10_digest_269 : decode cX10_digest 269 = .ok (.iload 5, 2) := by decide +kernel
theorem dX10_digest_271 : decode cX10_digest 271 = .ok (.iload 6, 2) := by decide +kernel
theorem dX10_digest_273 : decode cX10_digest 273 = .ok (.invokevirtual 262, 3) := by decide +kernel
theorem dX10_digest_276 : decode cX10_digest 276 = .ok (.i2l, 1) := by decide +kernel
theorem dX10_digest_277 : decode cX10_digest 277 = .ok (.invokestatic 298, 3) := by decide +kernel
theorem dX10_digest_280 : decode cX10_digest 280 = .ok (.lstore_n 1, 1) := by decide +kernel
theorem dX10_digest_281 : decode cX10_digest 281 = .ok (.iinc 6 1, 3) := by decide +kernel
theorem dX10_digest_284 : decode cX10_digest 284 = .ok (.goto (-26), 3) := by decide +kernel
theorem dX10_digest_287 : decode cX10_digest 287 = .ok (.lload_n 1, 1) := by decide +kernel
theorem dX10_digest_288 : decode cX10_digest 288 = .ok (.aload_n 0, 1) := by decide +kernel
theorem dX10_digest_289 : decode cX10_digest 289 = .ok (.aload 4, 2) := by decide +kernel
theorem dX10_digest_291 : decode cX10_digest 291 = .ok (.iload 5, 2) := by decide +kernel
theorem dX10_digest_293 : decode cX10_digest 293 = .ok (.invokevirtual 291, 3) := by decide +kernel
theorem dX10_digest_296 : decode cX10_digest 296 = .ok (.i2l, 1) := by decide +kernel
theorem dX10_digest_297 : decode cX10_digest 297 = .ok (.invokestatic 298, 3) := by decide +kernel
theorem dX10_digest_300 : decode cX10_digest 300 = .ok (.lstore_n 1, 1) := by decide +kernel
theorem dX10_digest_301 : decode cX10_digest 301 = .ok (.iinc 5 1, 3) := by decide +kernel
theorem dX10_digest_304 : decode cX10_digest 304 = .ok (.goto (-74), 3) := by decide +kernel
theorem dX10_digest_307 : decode cX10_digest 307 = .ok (.goto (-177), 3) := by decide +kernel
theorem dX10_digest_310 : decode cX10_digest 310 = .ok (.lload_n 1, 1) := by decide +kernel
theorem dX10_digest_311 : decode cX10_digest 311 = .ok (.lreturn, 1) := by decide +kernel
theorem dJ6_valueOf_2dffe_0 : decode cJ6_valueOf_2dffe 0 = .ok (.iload_n 0, 1) := by decide +kernel
theorem dJ6_valueOf_2dffe_1 : decode cJ6_valueOf_2dffe 1 = .ok (.bipush (-128), 2) := by decide +kernel
theorem dJ6_valueOf_2dffe_3 : decode cJ6_valueOf_2dffe 3 = .ok (.if_icmp .lt 20, 3) := by decide +kernel
theorem dJ6_valueOf_2dffe_6 : decode cJ6_valueOf_2dffe 6 = .ok (.iload_n 0, 1) := by decide +kernel
theorem dJ6_valueOf_2dffe_7 : decode cJ6_valueOf_2dffe 7 = .ok (.getstatic 191, 3) := by decide +kernel
theorem dJ6_valueOf_2dffe_10 : decode cJ6_valueOf_2dffe 10 = .ok (.if_icmp .gt 13, 3) := by decide +kernel
theorem dJ6_valueOf_2dffe_13 : decode cJ6_valueOf_2dffe 13 = .ok (.getstatic 195, 3) := by decide +kernel
theorem dJ6_valueOf_2dffe_16 : decode cJ6_valueOf_2dffe 16 = .ok (.iload_n 0, 1) := by decide +kernel
theorem dJ6_valueOf_2dffe_17 : decode cJ6_valueOf_2dffe 17 = .ok (.sipush 128, 3) := by decide +kernel
theorem dJ6_valueOf_2dffe_20 : decode cJ6_valueOf_2dffe 20 = .ok (.iadd, 1) := by decide +kernel
theorem dJ6_valueOf_2dffe_21 : decode cJ6_valueOf_2dffe 21 = .ok (.aaload, 1) := by decide +kernel
theorem dJ6_valueOf_2dffe_22 : decode cJ6_valueOf_2dffe 22 = .ok (.areturn, 1) := by decide +kernel
theorem dJ6_valueOf_2dffe_23 : decode cJ6_valueOf_2dffe 23 = .ok (.new 1, 3) := by decide +kernel
theorem dJ6_valueOf_2dffe_26 : decode cJ6_valueOf_2dffe 26 = .ok (.dup, 1) := by decide +kernel
theorem dJ6_valueOf_2dffe_27 : decode cJ6_valueOf_2dffe 27 = .ok (.iload_n 0, 1) := by decide +kernel
theorem dJ6_valueOf_2dffe_28 : decode cJ6_valueOf_2dffe 28 = .ok (.invokespecial 199, 3) := by decide +kernel
theorem dJ6_valueOf_2dffe_31 : decode cJ6_valueOf_2dffe 31 = .ok (.areturn, 1) := by decide +kernel
theorem dJ6_init_d00df_0 : decode cJ6_init_d00df 0 = .ok (.aload_n 0, 1) := by decide +kernel
theorem dJ6_init_d00df_1 : decode cJ6_init_d00df 1 = .ok (.invokespecial 202, 3) := by decide +kernel
theorem dJ6_init_d00df_4 : decode cJ6_init_d00df 4 = .ok (.aload_n 0, 1) := by decide +kernel
theorem dJ6_init_d00df_5 : decode cJ6_init_d00df 5 = .ok (.iload_n 1, 1) := by decide +kernel
theorem dJ6_init_d00df_6 : decode cJ6_init_d00df 6 = .ok (.putfield 205, 3) := by decide +kernel
theorem dJ6_init_d00df_9 : decode cJ6_init_d00df 9 = .ok (.return_, 1) := by decide +kernel
theorem dJ6_intValue_8abf5_0 : decode cJ6_intValue_8abf5 0 = .ok (.aload_n 0, 1) := by decide +kernel
theorem dJ6_intValue_8abf5_1 : decode cJ6_intValue_8abf5 1 = .ok (.getfield 205, 3) := by decide +kernel
end
section
theorem dJ6_intValue_8abf5_4 : decode cJ6_intValue_8abf5 4 = .ok (.ireturn, 1) := by decide +kernel
theorem dJ6_bitCount_0f7a4_0 : decode cJ6_bitCount_0f7a4 0 = .ok (.iload_n 0, 1) := by decide +kernel
theorem dJ6_bitCount_0f7a4_1 : decode cJ6_bitCount_0f7a4 1 = .ok (.iload_n 0, 1) := by decide +kernel
theorem dJ6_bitCount_0f7a4_2 : decode cJ6_bitCount_0f7a4 2 = .ok (.iconst 1, 1) := by decide +kernel
theorem dJ6_bitCount_0f7a4_3 : decode cJ6_bitCount_0f7a4 3 = .ok (.iushr, 1) := by decide +kernel
theorem dJ6_bitCount_0f7a4_4 : decode cJ6_bitCount_0f7a4 4 = .ok (.ldc_w 265, 3) := by decide +kernel
theorem dJ6_bitCount_0f7a4_7 : decode cJ6_bitCount_0f7a4 7 = .ok (.iand, 1) := by decide +kernel
theorem dJ6_bitCount_0f7a4_8 : decode cJ6_bitCount_0f7a4 8 = .ok (.isub, 1) := by decide +kernel
theorem dJ6_bitCount_0f7a4_9 : decode cJ6_bitCount_0f7a4 9 = .ok (.istore_n 0, 1) := by decide +kernel
theorem dJ6_bitCount_0f7a4_10 : decode cJ6_bitCount_0f7a4 10 = .ok (.iload_n 0, 1) := by decide +kernel
theorem dJ6_bitCount_0f7a4_11 : decode cJ6_bitCount_0f7a4 11 = .ok (.ldc_w 266, 3) := by decide +kernel
theorem dJ6_bitCount_0f7a4_14 : decode cJ6_bitCount_0f7a4 14 = .ok (.iand, 1) := by decide +kernel
theorem dJ6_bitCount_0f7a4_15 : decode cJ6_bitCount_0f7a4 15 = .ok (.iload_n 0, 1) := by decide +kernel
theorem dJ6_bitCount_0f7a4_16 : decode cJ6_bitCount_0f7a4 16 = .ok (.iconst 2, 1) := by decide +kernel
theorem dJ6_bitCount_0f7a4_17 : decode cJ6_bitCount_0f7a4 17 = .ok (.iushr, 1) := by decide +kernel
theorem dJ6_bitCount_0f7a4_18 : decode cJ6_bitCount_0f7a4 18 = .ok (.ldc_w 266, 3) := by decide +kernel
theorem dJ6_bitCount_0f7a4_21 : decode cJ6_bitCount_0f7a4 21 = .ok (.iand, 1) := by decide +kernel
theorem dJ6_bitCount_0f7a4_22 : decode cJ6_bitCount_0f7a4 22 = .ok (.iadd, 1) := by decide +kernel
theorem dJ6_bitCount_0f7a4_23 : decode cJ6_bitCount_0f7a4 23 = .ok (.istore_n 0, 1) := by decide +kernel
theorem dJ6_bitCount_0f7a4_24 : decode cJ6_bitCount_0f7a4 24 = .ok (.iload_n 0, 1) := by decide +kernel
theorem dJ6_bitCount_0f7a4_25 : decode cJ6_bitCount_0f7a4 25 = .ok (.iload_n 0, 1) := by decide +kernel
theorem dJ6_bitCount_0f7a4_26 : decode cJ6_bitCount_0f7a4 26 = .ok (.iconst 4, 1) := by decide +kernel
theorem dJ6_bitCount_0f7a4_27 : decode cJ6_bitCount_0f7a4 27 = .ok (.iushr, 1) := by decide +kernel
theorem dJ6_bitCount_0f7a4_28 : decode cJ6_bitCount_0f7a4 28 = .ok (.iadd, 1) := by decide +kernel
theorem dJ6_bitCount_0f7a4_29 : decode cJ6_bitCount_0f7a4 29 = .ok (.ldc_w 267, 3) := by decide +kernel
theorem dJ6_bitCount_0f7a4_32 : decode cJ6_bitCount_0f7a4 32 = .ok (.iand, 1) := by decide +kernel
theorem dJ6_bitCount_0f7a4_33 : decode cJ6_bitCount_0f7a4 33 = .ok (.istore_n 0, 1) := by decide +kernel
theorem dJ6_bitCount_0f7a4_34 : decode cJ6_bitCount_0f7a4 34 = .ok (.iload_n 0, 1) := by decide +kernel
theorem dJ6_bitCount_0f7a4_35 : decode cJ6_bitCount_0f7a4 35 = .ok (.iload_n 0, 1) := by decide +kernel
theorem dJ6_bitCount_0f7a4_36 : decode cJ6_bitCount_0f7a4 36 = .ok (.bipush 8, 2) := by decide +kernel
theorem dJ6_bitCount_0f7a4_38 : decode cJ6_bitCount_0f7a4 38 = .ok (.iushr, 1) := by decide +kernel
theorem dJ6_bitCount_0f7a4_39 : decode cJ6_bitCount_0f7a4 39 = .ok (.iadd, 1) := by decide +kernel
theorem dJ6_bitCount_0f7a4_40 : decode cJ6_bitCount_0f7a4 40 = .ok (.istore_n 0, 1) := by decide +kernel
theorem dJ6_bitCount_0f7a4_41 : decode cJ6_bitCount_0f7a4 41 = .ok (.iload_n 0, 1) := by decide +kernel
theorem dJ6_bitCount_0f7a4_42 : decode cJ6_bitCount_0f7a4 42 = .ok (.iload_n 0, 1) := by decide +kernel
theorem dJ6_bitCount_0f7a4_43 : decode cJ6_bitCount_0f7a4 43 = .ok (.bipush 16, 2) := by decide +kernel
theorem dJ6_bitCount_0f7a4_45 : decode cJ6_bitCount_0f7a4 45 = .ok (.iushr, 1) := by decide +kernel
theorem dJ6_bitCount_0f7a4_46 : decode cJ6_bitCount_0f7a4 46 = .ok (.iadd, 1) := by decide +kernel
theorem dJ6_bitCount_0f7a4_47 : decode cJ6_bitCount_0f7a4 47 = .ok (.istore_n 0, 1) := by decide +kernel
theorem dJ6_bitCount_0f7a4_48 : decode cJ6_bitCount_0f7a4 48 = .ok (.iload_n 0, 1) := by decide +kernel
theorem dJ6_bitCount_0f7a4_49 : decode cJ6_bitCount_0f7a4 49 = .ok (.bipush 63, 2) := by decide +kernel
theorem dJ6_bitCount_0f7a4_51 : decode cJ6_bitCount_0f7a4 51 = .ok (.iand, 1) := by decide +kernel
theorem dJ6_bitCount_0f7a4_52 : decode cJ6_bitCount_0f7a4 52 = .ok (.ireturn, 1) := by decide +kernel
theorem dJ9_max_7cf53_0 : decode cJ9_max_7cf53 0 = .ok (.iload_n 0, 1) := by decide +kernel
theorem dJ9_max_7cf53_1 : decode cJ9_max_7cf53 1 = .ok (.iload_n 1, 1) := by decide +kernel
theorem dJ9_max_7cf53_2 : decode cJ9_max_7cf53 2 = .ok (.if_icmp .lt 7, 3) := by decide +kernel
theorem dJ9_max_7cf53_5 : decode cJ9_max_7cf53 5 = .ok (.iload_n 0, 1) := by decide +kernel
theorem dJ9_max_7cf53_6 : decode cJ9_max_7cf53 6 = .ok (.goto 4, 3) := by decide +kernel
theorem dJ9_max_7cf53_9 : decode cJ9_max_7cf53 9 = .ok (.iload_n 1, 1) := by decide +kernel
theorem dJ9_max_7cf53_10 : decode cJ9_max_7cf53 10 = .ok (.ireturn, 1) := by decide +kernel
theorem dJ9_min_7cf53_0 : decode cJ9_min_7cf53 0 = .ok (.iload_n 0, 1) := by decide +kernel
theorem dJ9_min_7cf53_1 : decode cJ9_min_7cf53 1 = .ok (.iload_n 1, 1) := by decide +kernel
theorem dJ9_min_7cf53_2 : decode cJ9_min_7cf53 2 = .ok (.if_icmp .gt 7, 3) := by decide +kernel
theorem dJ9_min_7cf53_5 : decode cJ9_min_7cf53 5 = .ok (.iload_n 0, 1) := by decide +kernel
theorem dJ9_min_7cf53_6 : decode cJ9_min_7cf53 6 = .ok (.goto 4, 3) := by decide +kernel
theorem dJ9_min_7cf53_9 : decode cJ9_min_7cf53 9 = .ok (.iload_n 1, 1) := by decide +kernel
theorem dJ9_min_7cf53_10 : decode cJ9_min_7cf53 10 = .ok (.ireturn, 1) := by decide +kernel
theorem dJxd2413_init_da8c8_0 : decode cJxd2413_init_da8c8 0 = .ok (.aload_n 0, 1) := by decide +kernel
theorem dJxd2413_init_da8c8_1 : decode cJxd2413_init_da8c8 1 = .ok (.invokespecial 1, 3) := by decide +kernel
theorem dJxd2413_init_da8c8_4 : decode cJxd2413_init_da8c8 4 = .ok (.return_, 1) := by decide +kernel
theorem dJxa1e45_init_da8c8_0 : decode cJxa1e45_init_da8c8 0 = .ok (.aload_n 0, 1) := by decide +kernel
theorem dJxa1e45_init_da8c8_1 : decode cJxa1e45_init_da8c8 1 = .ok (.invokespecial 1, 3) := by decide +kernel
theorem dJxa1e45_init_da8c8_4 : decode cJxa1e45_init_da8c8 4 = .ok (.return_, 1) := by decide +kernel
theorem dJxc12de_init_da8c8_0 : decode cJxc12de_init_da8c8 0 = .ok (.aload_n 0, 1) := by decide +kernel
theorem dJxc12de_init_da8c8_1 : decode cJxc12de_init_da8c8 1 = .ok (.invokespecial 1, 3) := by decide +kernel
theorem dJxc12de_init_da8c8_4 : decode cJxc12de_init_da8c8 4 = .ok (.aload_n 0, 1) := by decide +kernel
theorem dJxc12de_init_da8c8_5 : decode cJxc12de_init_da8c8 5 = .ok (.iconst 0, 1) := by decide +kernel
theorem dJxc12de_init_da8c8_6 : decode cJxc12de_init_da8c8 6 = .ok (.putfield 7, 3) := by decide +kernel
theorem dJxc12de_init_da8c8_9 : decode cJxc12de_init_da8c8 9 = .ok (.return_, 1) := by decide +kernel
theorem dJx35411_init_45d68_0 : decode cJx35411_init_45d68 0 = .ok (.aload_n 0, 1) := by decide +kernel
theorem dJx35411_init_45d68_1 : decode cJx35411_init_45d68 1 = .ok (.aload_n 1, 1) := by decide +kernel
theorem dJx35411_init_45d68_2 : decode cJx35411_init_45d68 2 = .ok (.putfield 1, 3) := by decide +kernel
theorem dJx35411_init_45d68_5 : decode cJx35411_init_45d68 5 = .ok (.aload_n 0, 1) := by decide +kernel
theorem dJx35411_init_45d68_6 : decode cJx35411_init_45d68 6 = .ok (.invokespecial 7, 3) := by decide +kernel
theorem dJx35411_init_45d68_9 : decode cJx35411_init_45d68 9 = .ok (.aload_n 0, 1) := by decide +kernel
theorem dJx35411_init_45d68_10 : decode cJx35411_init_45d68 10 = .ok (.iconst (-1), 1) := by decide +kernel
theorem dJx35411_init_45d68_11 : decode cJx35411_init_45d68 11 = .ok (.putfield 13, 3) := by decide +kernel
theorem dJx35411_init_45d68_14 : decode cJx35411_init_45d68 14 = .ok (.aload_n 0, 1) := by decide +kernel
theorem dJx35411_init_45d68_15 : decode cJx35411_init_45d68 15 = .ok (.aload_n 0, 1) := by decide +kernel
theorem dJx35411_init_45d68_16 : decode cJx35411_init_45d68 16 = .ok (.getfield 1, 3) := by decide +kernel
theorem dJx35411_init_45d68_19 : decode cJx35411_init_45d68 19 = .ok (.getfield 17, 3) := by decide +kernel
theorem dJx35411_init_45d68_22 : decode cJx35411_init_45d68 22 = .ok (.putfield 22, 3) := by decide +kernel
theorem dJx35411_init_45d68_25 : decode cJx35411_init_45d68 25 = .ok (.return_, 1) := by decide +kernel
theorem dJx35411_hasNext_aae02_0 : decode cJx35411_hasNext_aae02 0 = .ok (.aload_n 0, 1) := by decide +kernel
theorem dJx35411_hasNext_aae02_1 : decode cJx35411_hasNext_aae02 1 = .ok (.getfield 25, 3) := by decide +kernel
theorem dJx35411_hasNext_aae02_4 : decode cJx35411_hasNext_aae02 4 = .ok (.aload_n 0, 1) := by decide +kernel
theorem dJx35411_hasNext_aae02_5 : decode cJx35411_hasNext_aae02 5 = .ok (.getfield 1, 3) := by decide +kernel
theorem dJx35411_hasNext_aae02_8 : decode cJx35411_hasNext_aae02 8 = .ok (.getfield 28, 3) := by decide +kernel
theorem dJx35411_hasNext_aae02_11 : decode cJx35411_hasNext_aae02 11 = .ok (.if_icmp .eq 7, 3) := by decide +kernel
theorem dJx35411_hasNext_aae02_14 : decode cJx35411_hasNext_aae02 14 = .ok (.iconst 1, 1) := by decide +kernel
theorem dJx35411_hasNext_aae02_15 : decode cJx35411_hasNext_aae02 15 = .ok (.goto 4, 3) := by decide +kernel
theorem dJx35411_hasNext_aae02_18 : decode cJx35411_hasNext_aae02 18 = .ok (.iconst 0, 1) := by decide +kernel
theorem dJx35411_hasNext_aae02_19 : decode cJx35411_hasNext_aae02 19 = .ok (.ireturn, 1) := by decide +kernel
theorem dJx35411_next_0502b_0 : decode cJx35411_next_0502b 0 = .ok (.aload_n 0, 1) := by decide +kernel
theorem dJx35411_next_0502b_1 : decode cJx35411_next_0502b 1 = .ok (.invokevirtual 31, 3) := by decide +kernel
theorem dJx35411_next_0502b_4 : decode cJx35411_next_0502b 4 = .ok (.aload_n 0, 1) := by decide +kernel
theorem dJx35411_next_0502b_5 : decode cJx35411_next_0502b 5 = .ok (.getfield 25, 3) := by decide +kernel
theorem dJx35411_next_0502b_8 : decode cJx35411_next_0502b 8 = .ok (.istore_n 1, 1) := by decide +kernel
theorem dJx35411_next_0502b_9 : decode cJx35411_next_0502b 9 = .ok (.iload_n 1, 1) := by decide +kernel
theorem dJx35411_next_0502b_10 : decode cJx35411_next_0502b 10 = .ok (.aload_n 0, 1) := by decide +kernel
theorem dJx35411_next_0502b_11 : decode cJx35411_next_0502b 11 = .ok (.getfield 1, 3) := by decide +kernel
theorem dJx35411_next_0502b_14 : decode cJx35411_next_0502b 14 = .ok (.getfield 28, 3) := by decide +kernel
theorem dJx35411_next_0502b_17 : decode cJx35411_next_0502b 17 = .ok (.if_icmp .lt 11, 3) := by decide +kernel
theorem dJx35411_next_0502b_20 : decode cJx35411_next_0502b 20 = .ok (.new 34, 3) := by decide +kernel
theorem dJx35411_next_0502b_23 : decode cJx35411_next_0502b 23 = .ok (.dup, 1) := by decide +kernel
theorem dJx35411_next_0502b_24 : decode cJx35411_next_0502b 24 = .ok (.invokespecial 36, 3) := by decide +kernel
theorem dJx35411_next_0502b_27 : decode cJx35411_next_0502b 27 = .ok (.athrow, 1) := by decide +kernel
theorem dJx35411_next_0502b_28 : decode cJx35411_next_0502b 28 = .ok (.aload_n 0, 1) := by decide +kernel
theorem dJx35411_next_0502b_29 : decode cJx35411_next_0502b 29 = .ok (.getfield 1, 3) := by decide +kernel
theorem dJx35411_next_0502b_32 : decode cJx35411_next_0502b 32 = .ok (.getfield 37, 3) := by decide +kernel
theorem dJx35411_next_0502b_35 : decode cJx35411_next_0502b 35 = .ok (.astore_n 2, 1) := by decide +kernel
theorem dJx35411_next_0502b_36 : decode cJx35411_next_0502b 36 = .ok (.iload_n 1, 1) := by decide +kernel
theorem dJx35411_next_0502b_37 : decode cJx35411_next_0502b 37 = .ok (.aload_n 2, 1) := by decide +kernel
theorem dJx35411_next_0502b_38 : decode cJx35411_next_0502b 38 = .ok (.arraylength, 1) := by decide +kernel
theorem dJx35411_next_0502b_39 : decode cJx35411_next_0502b 39 = .ok (.if_icmp .lt 11, 3) := by decide +kernel
theorem dJx35411_next_0502b_42 : decode cJx35411_next_0502b 42 = .ok (.new 41, 3) := by decide +kernel
theorem dJx35411_next_0502b_45 : decode cJx35411_next_0502b 45 = .ok (.dup, 1) := by decide +kernel
theorem dJx35411_next_0502b_46 : decode cJx35411_next_0502b 46 = .ok (.invokespecial 43, 3) := by decide +kernel
theorem dJx35411_next_0502b_49 : decode cJx35411_next_0502b 49 = .ok (.athrow, 1) := by decide +kernel
theorem dJx35411_next_0502b_50 : decode cJx35411_next_0502b 50 = .ok (.aload_n 0, 1) := by decide +kernel
theorem dJx35411_next_0502b_51 : decode cJx35411_next_0502b 51 = .ok (.iload_n 1, 1) := by decide +kernel
theorem dJx35411_next_0502b_52 : decode cJx35411_next_0502b 52 = .ok (.iconst 1, 1) := by decide +kernel
theorem dJx35411_next_0502b_53 : decode cJx35411_next_0502b 53 = .ok (.iadd, 1) := by decide +kernel
theorem dJx35411_next_0502b_54 : decode cJx35411_next_0502b 54 = .ok (.putfield 25, 3) := by decide +kernel
theorem dJx35411_next_0502b_57 : decode cJx35411_next_0502b 57 = .ok (.aload_n 2, 1) := by decide +kernel
theorem dJx35411_next_0502b_58 : decode cJx35411_next_0502b 58 = .ok (.aload_n 0, 1) := by decide +kernel
theorem dJx35411_next_0502b_59 : decode cJx35411_next_0502b 59 = .ok (.iload_n 1, 1) := by decide +kernel
theorem dJx35411_next_0502b_60 : decode cJx35411_next_0502b 60 = .ok (.dup_x1, 1) := by decide +kernel
theorem dJx35411_next_0502b_61 : decode cJx35411_next_0502b 61 = .ok (.putfield 13, 3) := by decide +kernel
theorem dJx35411_next_0502b_64 : decode cJx35411_next_0502b 64 = .ok (.aaload, 1) := by decide +kernel
theorem dJx35411_next_0502b_65 : decode cJx35411_next_0502b 65 = .ok (.areturn, 1) := by decide +kernel
theorem dJx35411_checkForComodification_da8c8_0 : decode cJx35411_checkForComodification_da8c8 0 = .ok (.aload_n 0, 1) := by decide +kernel
theorem dJx35411_checkForComodification_da8c8_1 : decode cJx35411_checkForComodification_da8c8 1 = .ok (.getfield 1, 3) := by decide +kernel
theorem dJx35411_checkForComodification_da8c8_4 : decode cJx35411_checkForComodification_da8c8 4 = .ok (.getfield 17, 3) := by decide +kernel
theorem dJx35411_checkForComodification_da8c8_7 : decode cJx35411_checkForComodification_da8c8 7 = .ok (.aload_n 0, 1) := by decide +kernel
theorem dJx35411_checkForComodification_da8c8_8 : decode cJx35411_checkForComodification_da8c8 8 = .ok (.getfield 22, 3) := by decide +kernel
theorem dJx35411_checkForComodification_da8c8_11 : decode cJx35411_checkForComodification_da8c8 11 = .ok (.if_icmp .eq 11, 3) := by decide +kernel
theorem dJx35411_checkForComodification_da8c8_14 : decode cJx35411_checkForComodification_da8c8 14 = .ok (.new 41, 3) := by decide +kernel
theorem dJx35411_checkForComodification_da8c8_17 : decode cJx35411_checkForComodification_da8c8 17 = .ok (.dup, 1) := by decide +kernel
theorem dJx35411_checkForComodification_da8c8_18 : decode cJx35411_checkForComodification_da8c8 18 = .ok (.invokespecial 43, 3) := by decide +kernel
theorem dJx35411_checkForComodification_da8c8_21 : decode cJx35411_checkForComodification_da8c8 21 = .ok (.athrow, 1) := by decide +kernel
theorem dJx35411_checkForComodification_da8c8_22 : decode cJx35411_checkForComodification_da8c8 22 = .ok (.return_, 1) := by decide +kernel
theorem dJx4a65c_init_da8c8_0 : decode cJx4a65c_init_da8c8 0 = .ok (.aload_n 0, 1) := by decide +kernel
theorem dJx4a65c_init_da8c8_1 : decode cJx4a65c_init_da8c8 1 = .ok (.invokespecial 1, 3) := by decide +kernel
theorem dJx4a65c_init_da8c8_4 : decode cJx4a65c_init_da8c8 4 = .ok (.aload_n 0, 1) := by decide +kernel
theorem dJx4a65c_init_da8c8_5 : decode cJx4a65c_init_da8c8 5 = .ok (.getstatic 39, 3) := by decide +kernel
theorem dJx4a65c_init_da8c8_8 : decode cJx4a65c_init_da8c8 8 = .ok (.putfield 9, 3) := by decide +kernel
theorem dJx4a65c_init_da8c8_11 : decode cJx4a65c_init_da8c8 11 = .ok (.return_, 1) := by decide +kernel
theorem dJx4a65c_grow_92f84_0 : decode cJx4a65c_grow_92f84 0 = .ok (.aload_n 0, 1) := by decide +kernel
theorem dJx4a65c_grow_92f84_1 : decode cJx4a65c_grow_92f84 1 = .ok (.getfield 9, 3) := by decide +kernel
theorem dJx4a65c_grow_92f84_4 : decode cJx4a65c_grow_92f84 4 = .ok (.arraylength, 1) := by decide +kernel
theorem dJx4a65c_grow_92f84_5 : decode cJx4a65c_grow_92f84 5 = .ok (.istore_n 2, 1) := by decide +kernel
theorem dJx4a65c_grow_92f84_6 : decode cJx4a65c_grow_92f84 6 = .ok (.iload_n 2, 1) := by decide +kernel
theorem dJx4a65c_grow_92f84_7 : decode cJx4a65c_grow_92f84 7 = .ok (.ifCond .gt 13, 3) := by decide +kernel
theorem dJx4a65c_grow_92f84_10 : decode cJx4a65c_grow_92f84 10 = .ok (.aload_n 0, 1) := by decide +kernel
theorem dJx4a65c_grow_92f84_11 : decode cJx4a65c_grow_92f84 11 = .ok (.getfield 9, 3) := by decide +kernel
theorem dJx4a65c_grow_92f84_14 : decode cJx4a65c_grow_92f84 14 = .ok (.getstatic 39, 3) := by decide +kernel
theorem dJx4a65c_grow_92f84_17 : decode cJx4a65c_grow_92f84 17 = .ok (.if_acmp .eq 28, 3) := by decide +kernel
theorem dJx4a65c_grow_92f84_20 : decode cJx4a65c_grow_92f84 20 = .ok (.iload_n 2, 1) := by decide +kernel
theorem dJx4a65c_grow_92f84_21 : decode cJx4a65c_grow_92f84 21 = .ok (.iload_n 1, 1) := by decide +kernel
theorem dJx4a65c_grow_92f84_22 : decode cJx4a65c_grow_92f84 22 = .ok (.iload_n 2, 1) := by decide +kernel
theorem dJx4a65c_grow_92f84_23 : decode cJx4a65c_grow_92f84 23 = .ok (.isub, 1) := by decide +kernel
theorem dJx4a65c_grow_92f84_24 : decode cJx4a65c_grow_92f84 24 = .ok (.iload_n 2, 1) := by decide +kernel
theorem dJx4a65c_grow_92f84_25 : decode cJx4a65c_grow_92f84 25 = .ok (.iconst 1, 1) := by decide +kernel
theorem dJx4a65c_grow_92f84_26 : decode cJx4a65c_grow_92f84 26 = .ok (.ishr, 1) := by decide +kernel
theorem dJx4a65c_grow_92f84_27 : decode cJx4a65c_grow_92f84 27 = .ok (.invokestatic 73, 3) := by decide +kernel
theorem dJx4a65c_grow_92f84_30 : decode cJx4a65c_grow_92f84 30 = .ok (.istore_n 3, 1) := by decide +kernel
theorem dJx4a65c_grow_92f84_31 : decode cJx4a65c_grow_92f84 31 = .ok (.aload_n 0, 1) := by decide +kernel
theorem dJx4a65c_grow_92f84_32 : decode cJx4a65c_grow_92f84 32 = .ok (.aload_n 0, 1) := by decide +kernel
theorem dJx4a65c_grow_92f84_33 : decode cJx4a65c_grow_92f84 33 = .ok (.getfield 9, 3) := by decide +kernel
theorem dJx4a65c_grow_92f84_36 : decode cJx4a65c_grow_92f84 36 = .ok (.iload_n 3, 1) := by decide +kernel
theorem dJx4a65c_grow_92f84_37 : decode cJx4a65c_grow_92f84 37 = .ok (.invokestatic 66, 3) := by decide +kernel
theorem dJx4a65c_grow_92f84_40 : decode cJx4a65c_grow_92f84 40 = .ok (.dup_x1, 1) := by decide +kernel
theorem dJx4a65c_grow_92f84_41 : decode cJx4a65c_grow_92f84 41 = .ok (.putfield 9, 3) := by decide +kernel
theorem dJx4a65c_grow_92f84_44 : decode cJx4a65c_grow_92f84 44 = .ok (.areturn, 1) := by decide +kernel
theorem dJx4a65c_grow_92f84_45 : decode cJx4a65c_grow_92f84 45 = .ok (.aload_n 0, 1) := by decide +kernel
theorem dJx4a65c_grow_92f84_46 : decode cJx4a65c_grow_92f84 46 = .ok (.bipush 10, 2) := by decide +kernel
theorem dJx4a65c_grow_92f84_48 : decode cJx4a65c_grow_92f84 48 = .ok (.iload_n 1, 1) := by decide +kernel
theorem dJx4a65c_grow_92f84_49 : decode cJx4a65c_grow_92f84 49 = .ok (.invokestatic 79, 3) := by decide +kernel
theorem dJx4a65c_grow_92f84_52 : decode cJx4a65c_grow_92f84 52 = .ok (.anewarray 7, 3) := by decide +kernel
theorem dJx4a65c_grow_92f84_55 : decode cJx4a65c_grow_92f84 55 = .ok (.dup_x1, 1) := by decide +kernel
theorem dJx4a65c_grow_92f84_56 : decode cJx4a65c_grow_92f84 56 = .ok (.putfield 9, 3) := by decide +kernel
theorem dJx4a65c_grow_92f84_59 : decode cJx4a65c_grow_92f84 59 = .ok (.areturn, 1) := by decide +kernel
theorem dJx4a65c_grow_d5877_0 : decode cJx4a65c_grow_d5877 0 = .ok (.aload_n 0, 1) := by decide +kernel
theorem dJx4a65c_grow_d5877_1 : decode cJx4a65c_grow_d5877 1 = .ok (.aload_n 0, 1) := by decide +kernel
theorem dJx4a65c_grow_d5877_2 : decode cJx4a65c_grow_d5877 2 = .ok (.getfield 48, 3) := by decide +kernel
theorem dJx4a65c_grow_d5877_5 : decode cJx4a65c_grow_d5877 5 = .ok (.iconst 1, 1) := by decide +kernel
theorem dJx4a65c_grow_d5877_6 : decode cJx4a65c_grow_d5877 6 = .ok (.iadd, 1) := by decide +kernel
theorem dJx4a65c_grow_d5877_7 : decode cJx4a65c_grow_d5877 7 = .ok (.invokevirtual 69, 3) := by decide +kernel
theorem dJx4a65c_grow_d5877_10 : decode cJx4a65c_grow_d5877 10 = .ok (.areturn, 1) := by decide +kernel
theorem dJx4a65c_size_8abf5_0 : decode cJx4a65c_size_8abf5 0 = .ok (.aload_n 0, 1) := by decide +kernel
theorem dJx4a65c_size_8abf5_1 : decode cJx4a65c_size_8abf5 1 = .ok (.getfield 48, 3) := by decide +kernel
theorem dJx4a65c_size_8abf5_4 : decode cJx4a65c_size_8abf5 4 = .ok (.ireturn, 1) := by decide +kernel
theorem dJx4a65c_elementData_915e3_0 : decode cJx4a65c_elementData_915e3 0 = .ok (.aload_n 0, 1) := by decide +kernel
theorem dJx4a65c_elementData_915e3_1 : decode cJx4a65c_elementData_915e3 1 = .ok (.getfield 9, 3) := by decide +kernel
theorem dJx4a65c_elementData_915e3_4 : decode cJx4a65c_elementData_915e3 4 = .ok (.iload_n 1, 1) := by decide +kernel
theorem dJx4a65c_elementData_915e3_5 : decode cJx4a65c_elementData_915e3 5 = .ok (.aaload, 1) := by decide +kernel
theorem dJx4a65c_elementData_915e3_6 : decode cJx4a65c_elementData_915e3 6 = .ok (.areturn, 1) := by decide +kernel
theorem dJx4a65c_get_915e3_0 : decode cJx4a65c_get_915e3 0 = .ok (.iload_n 1, 1) := by decide +kernel
theorem dJx4a65c_get_915e3_1 : decode cJx4a65c_get_915e3 1 = .ok (.aload_n 0, 1) := by decide +kernel
theorem dJx4a65c_get_915e3_2 : decode cJx4a65c_get_915e3 2 = .ok (.getfield 48, 3) := by decide +kernel
theorem dJx4a65c_get_915e3_5 : decode cJx4a65c_get_915e3 5 = .ok (.invokestatic 118, 3) := by decide +kernel
theorem dJx4a65c_get_915e3_8 : decode cJx4a65c_get_915e3 8 = .ok (.pop, 1) := by decide +kernel
theorem dJx4a65c_get_915e3_9 : decode cJx4a65c_get_915e3 9 = .ok (.aload_n 0, 1) := by decide +kernel
theorem dJx4a65c_get_915e3_10 : decode cJx4a65c_get_915e3 10 = .ok (.iload_n 1, 1) := by decide +kernel
theorem dJx4a65c_get_915e3_11 : decode cJx4a65c_get_915e3 11 = .ok (.invokevirtual 123, 3) := by decide +kernel
theorem dJx4a65c_get_915e3_14 : decode cJx4a65c_get_915e3 14 = .ok (.areturn, 1) := by decide +kernel
theorem dJx4a65c_add_72be8_0 : decode cJx4a65c_add_72be8 0 = .ok (.iload_n 3, 1) := by decide +kernel
theorem dJx4a65c_add_72be8_1 : decode cJx4a65c_add_72be8 1 = .ok (.aload_n 2, 1) := by decide +kernel
theorem dJx4a65c_add_72be8_2 : decode cJx4a65c_add_72be8 2 = .ok (.arraylength, 1) := by decide +kernel
theorem dJx4a65c_add_72be8_3 : decode cJx4a65c_add_72be8 3 = .ok (.if_icmp .ne 8, 3) := by decide +kernel
theorem dJx4a65c_add_72be8_6 : decode cJx4a65c_add_72be8 6 = .ok (.aload_n 0, 1) := by decide +kernel
theorem dJx4a65c_add_72be8_7 : decode cJx4a65c_add_72be8 7 = .ok (.invokevirtual 129, 3) := by decide +kernel
theorem dJx4a65c_add_72be8_10 : decode cJx4a65c_add_72be8 10 = .ok (.astore_n 2, 1) := by decide +kernel
theorem dJx4a65c_add_72be8_11 : decode cJx4a65c_add_72be8 11 = .ok (.aload_n 2, 1) := by decide +kernel
theorem dJx4a65c_add_72be8_12 : decode cJx4a65c_add_72be8 12 = .ok (.iload_n 3, 1) := by decide +kernel
theorem dJx4a65c_add_72be8_13 : decode cJx4a65c_add_72be8 13 = .ok (.aload_n 1, 1) := by decide +kernel
theorem dJx4a65c_add_72be8_14 : decode cJx4a65c_add_72be8 14 = .ok (.aastore, 1) := by decide +kernel
theorem dJx4a65c_add_72be8_15 : decode cJx4a65c_add_72be8 15 = .ok (.aload_n 0, 1) := by decide +kernel
theorem dJx4a65c_add_72be8_16 : decode cJx4a65c_add_72be8 16 = .ok (.iload_n 3, 1) := by decide +kernel
theorem dJx4a65c_add_72be8_17 : decode cJx4a65c_add_72be8 17 = .ok (.iconst 1, 1) := by decide +kernel
theorem dJx4a65c_add_72be8_18 : decode cJx4a65c_add_72be8 18 = .ok (.iadd, 1) := by decide +kernel
theorem dJx4a65c_add_72be8_19 : decode cJx4a65c_add_72be8 19 = .ok (.putfield 48, 3) := by decide +kernel
theorem dJx4a65c_add_72be8_22 : decode cJx4a65c_add_72be8 22 = .ok (.return_, 1) := by decide +kernel
theorem dJx4a65c_add_9ea2d_0 : decode cJx4a65c_add_9ea2d 0 = .ok (.aload_n 0, 1) := by decide +kernel
theorem dJx4a65c_add_9ea2d_1 : decode cJx4a65c_add_9ea2d 1 = .ok (.dup, 1) := by decide +kernel
theorem dJx4a65c_add_9ea2d_2 : decode cJx4a65c_add_9ea2d 2 = .ok (.getfield 63, 3) := by decide +kernel
theorem dJx4a65c_add_9ea2d_5 : decode cJx4a65c_add_9ea2d 5 = .ok (.iconst 1, 1) := by decide +kernel
theorem dJx4a65c_add_9ea2d_6 : decode cJx4a65c_add_9ea2d 6 = .ok (.iadd, 1) := by decide +kernel
theorem dJx4a65c_add_9ea2d_7 : decode cJx4a65c_add_9ea2d 7 = .ok (.putfield 63, 3) := by decide +kernel
theorem dJx4a65c_add_9ea2d_10 : decode cJx4a65c_add_9ea2d 10 = .ok (.aload_n 0, 1) := by decide +kernel
theorem dJx4a65c_add_9ea2d_11 : decode cJx4a65c_add_9ea2d 11 = .ok (.aload_n 1, 1) := by decide +kernel
theorem dJx4a65c_add_9ea2d_12 : decode cJx4a65c_add_9ea2d 12 = .ok (.aload_n 0, 1) := by decide +kernel
theorem dJx4a65c_add_9ea2d_13 : decode cJx4a65c_add_9ea2d 13 = .ok (.getfield 9, 3) := by decide +kernel
theorem dJx4a65c_add_9ea2d_16 : decode cJx4a65c_add_9ea2d 16 = .ok (.aload_n 0, 1) := by decide +kernel
theorem dJx4a65c_add_9ea2d_17 : decode cJx4a65c_add_9ea2d 17 = .ok (.getfield 48, 3) := by decide +kernel
theorem dJx4a65c_add_9ea2d_20 : decode cJx4a65c_add_9ea2d 20 = .ok (.invokevirtual 131, 3) := by decide +kernel
theorem dJx4a65c_add_9ea2d_23 : decode cJx4a65c_add_9ea2d 23 = .ok (.iconst 1, 1) := by decide +kernel
theorem dJx4a65c_add_9ea2d_24 : decode cJx4a65c_add_9ea2d 24 = .ok (.ireturn, 1) := by decide +kernel
theorem dJx4a65c_iterator_32c93_0 : decode cJx4a65c_iterator_32c93 0 = .ok (.new 267, 3) := by decide +kernel
theorem dJx4a65c_iterator_32c93_3 : decode cJx4a65c_iterator_32c93 3 = .ok (.dup, 1) := by decide +kernel
theorem dJx4a65c_iterator_32c93_4 : decode cJx4a65c_iterator_32c93 4 = .ok (.aload_n 0, 1) := by decide +kernel
theorem dJx4a65c_iterator_32c93_5 : decode cJx4a65c_iterator_32c93 5 = .ok (.invokespecial 269, 3) := by decide +kernel
theorem dJx4a65c_iterator_32c93_8 : decode cJx4a65c_iterator_32c93 8 = .ok (.areturn, 1) := by decide +kernel
theorem dJ7_copyOf_1904c_0 : decode cJ7_copyOf_1904c 0 = .ok (.aload_n 0, 1) := by decide +kernel
theorem dJ7_copyOf_1904c_1 : decode cJ7_copyOf_1904c 1 = .ok (.iload_n 1, 1) := by decide +kernel
theorem dJ7_copyOf_1904c_2 : decode cJ7_copyOf_1904c 2 = .ok (.aload_n 0, 1) := by decide +kernel
theorem dJ7_copyOf_1904c_3 : decode cJ7_copyOf_1904c 3 = .ok (.invokevirtual 86, 3) := by decide +kernel
theorem dJ7_copyOf_1904c_6 : decode cJ7_copyOf_1904c 6 = .ok (.invokestatic 300, 3) := by decide +kernel
theorem dJ7_copyOf_1904c_9 : decode cJ7_copyOf_1904c 9 = .ok (.areturn, 1) := by decide +kernel
theorem dJ7_copyOf_6403c_0 : decode cJ7_copyOf_6403c 0 = .ok (.aload_n 2, 1) := by decide +kernel
theorem dJ7_copyOf_6403c_1 : decode cJ7_copyOf_6403c 1 = .ok (.ldc 110, 2) := by decide +kernel
theorem dJ7_copyOf_6403c_3 : decode cJ7_copyOf_6403c 3 = .ok (.if_acmp .ne 10, 3) := by decide +kernel
theorem dJ7_copyOf_6403c_6 : decode cJ7_copyOf_6403c 6 = .ok (.iload_n 1, 1) := by decide +kernel
theorem dJ7_copyOf_6403c_7 : decode cJ7_copyOf_6403c 7 = .ok (.anewarray 2, 3) := by decide +kernel
theorem dJ7_copyOf_6403c_10 : decode cJ7_copyOf_6403c 10 = .ok (.goto 14, 3) := by decide +kernel
theorem dJ7_copyOf_6403c_13 : decode cJ7_copyOf_6403c 13 = .ok (.aload_n 2, 1) := by decide +kernel
theorem dJ7_copyOf_6403c_14 : decode cJ7_copyOf_6403c 14 = .ok (.invokevirtual 90, 3) := by decide +kernel
theorem dJ7_copyOf_6403c_17 : decode cJ7_copyOf_6403c 17 = .ok (.iload_n 1, 1) := by decide +kernel
theorem dJ7_copyOf_6403c_18 : decode cJ7_copyOf_6403c 18 = .ok (.invokestatic 95, 3) := by decide +kernel
theorem dJ7_copyOf_6403c_21 : decode cJ7_copyOf_6403c 21 = .ok (.checkcast 110, 3) := by decide +kernel
theorem dJ7_copyOf_6403c_24 : decode cJ7_copyOf_6403c 24 = .ok (.astore_n 3, 1) := by decide +kernel
theorem dJ7_copyOf_6403c_25 : decode cJ7_copyOf_6403c 25 = .ok (.aload_n 0, 1) := by decide +kernel
theorem dJ7_copyOf_6403c_26 : decode cJ7_copyOf_6403c 26 = .ok (.iconst 0, 1) := by decide +kernel
theorem dJ7_copyOf_6403c_27 : decode cJ7_copyOf_6403c 27 = .ok (.aload_n 3, 1) := by decide +kernel
theorem dJ7_copyOf_6403c_28 : decode cJ7_copyOf_6403c 28 = .ok (.iconst 0, 1) := by decide +kernel
theorem dJ7_copyOf_6403c_29 : decode cJ7_copyOf_6403c 29 = .ok (.aload_n 0, 1) := by decide +kernel
theorem dJ7_copyOf_6403c_30 : decode cJ7_copyOf_6403c 30 = .ok (.arraylength, 1) := by decide +kernel
theorem dJ7_copyOf_6403c_31 : decode cJ7_copyOf_6403c 31 = .ok (.iload_n 1, 1) := by decide +kernel
theorem dJ7_copyOf_6403c_32 : decode cJ7_copyOf_6403c 32 = .ok (.invokestatic 304, 3) := by decide +kernel
theorem dJ7_copyOf_6403c_35 : decode cJ7_copyOf_6403c 35 = .ok (.invokestatic 150, 3) := by decide +kernel
theorem dJ7_copyOf_6403c_38 : decode cJ7_copyOf_6403c 38 = .ok (.aload_n 3, 1) := by decide +kernel
theorem dJ7_copyOf_6403c_39 : decode cJ7_copyOf_6403c 39 = .ok (.areturn, 1) := by decide +kernel
theorem dJ15_checkIndex_7cf53_0 : decode cJ15_checkIndex_7cf53 0 = .ok (.iload_n 0, 1) := by decide +kernel
theorem dJ15_checkIndex_7cf53_1 : decode cJ15_checkIndex_7cf53 1 = .ok (.iload_n 1, 1) := by decide +kernel
theorem dJ15_checkIndex_7cf53_2 : decode cJ15_checkIndex_7cf53 2 = .ok (.aconst_null, 1) := by decide +kernel
theorem dJ15_checkIndex_7cf53_3 : decode cJ15_checkIndex_7cf53 3 = .ok (.invokestatic 105, 3) := by decide +kernel
theorem dJ15_checkIndex_7cf53_6 : decode cJ15_checkIndex_7cf53 6 = .ok (.ireturn, 1) := by decide +kernel
theorem dJ8_newLength_cabcc_0 : decode cJ8_newLength_cabcc 0 = .ok (.iload_n 0, 1) := by decide +kernel
theorem dJ8_newLength_cabcc_1 : decode cJ8_newLength_cabcc 1 = .ok (.iload_n 1, 1) := by decide +kernel
theorem dJ8_newLength_cabcc_2 : decode cJ8_newLength_cabcc 2 = .ok (.iload_n 2, 1) := by decide +kernel
theorem dJ8_newLength_cabcc_3 : decode cJ8_newLength_cabcc 3 = .ok (.invokestatic 194, 3) := by decide +kernel
theorem dJ8_newLength_cabcc_6 : decode cJ8_newLength_cabcc 6 = .ok (.iadd, 1) := by decide +kernel
theorem dJ8_newLength_cabcc_7 : decode cJ8_newLength_cabcc 7 = .ok (.istore_n 3, 1) := by decide +kernel
theorem dJ8_newLength_cabcc_8 : decode cJ8_newLength_cabcc 8 = .ok (.iconst 0, 1) := by decide +kernel
theorem dJ8_newLength_cabcc_9 : decode cJ8_newLength_cabcc 9 = .ok (.iload_n 3, 1) := by decide +kernel
theorem dJ8_newLength_cabcc_10 : decode cJ8_newLength_cabcc 10 = .ok (.if_icmp .ge 11, 3) := by decide +kernel
theorem dJ8_newLength_cabcc_13 : decode cJ8_newLength_cabcc 13 = .ok (.iload_n 3, 1) := by decide +kernel
theorem dJ8_newLength_cabcc_14 : decode cJ8_newLength_cabcc 14 = .ok (.ldc 200, 2) := by decide +kernel
theorem dJ8_newLength_cabcc_16 : decode cJ8_newLength_cabcc 16 = .ok (.if_icmp .gt 5, 3) := by decide +kernel
theorem dJ8_newLength_cabcc_19 : decode cJ8_newLength_cabcc 19 = .ok (.iload_n 3, 1) := by decide +kernel
theorem dJ8_newLength_cabcc_20 : decode cJ8_newLength_cabcc 20 = .ok (.ireturn, 1) := by decide +kernel
theorem dJ8_newLength_cabcc_21 : decode cJ8_newLength_cabcc 21 = .ok (.iload_n 0, 1) := by decide +kernel
theorem dJ8_newLength_cabcc_22 : decode cJ8_newLength_cabcc 22 = .ok (.iload_n 1, 1) := by decide +kernel
theorem dJ8_newLength_cabcc_23 : decode cJ8_newLength_cabcc 23 = .ok (.invokestatic 201, 3) := by decide +kernel
theorem dJ8_newLength_cabcc_26 : decode cJ8_newLength_cabcc 26 = .ok (.ireturn, 1) := by decide +kernel
theorem dJ8_hugeLength_7cf53_0 : decode cJ8_hugeLength_7cf53 0 = .ok (.iload_n 0, 1) := by decide +kernel
theorem dJ8_hugeLength_7cf53_1 : decode cJ8_hugeLength_7cf53 1 = .ok (.iload_n 1, 1) := by decide +kernel
theorem dJ8_hugeLength_7cf53_2 : decode cJ8_hugeLength_7cf53 2 = .ok (.iadd, 1) := by decide +kernel
theorem dJ8_hugeLength_7cf53_3 : decode cJ8_hugeLength_7cf53 3 = .ok (.istore_n 2, 1) := by decide +kernel
theorem dJ8_hugeLength_7cf53_4 : decode cJ8_hugeLength_7cf53 4 = .ok (.iload_n 2, 1) := by decide +kernel
theorem dJ8_hugeLength_7cf53_5 : decode cJ8_hugeLength_7cf53 5 = .ok (.ifCond .ge 44, 3) := by decide +kernel
theorem dJ8_hugeLength_7cf53_8 : decode cJ8_hugeLength_7cf53 8 = .ok (.new 204, 3) := by decide +kernel
theorem dJ8_hugeLength_7cf53_11 : decode cJ8_hugeLength_7cf53 11 = .ok (.dup, 1) := by decide +kernel
theorem dJ8_hugeLength_7cf53_12 : decode cJ8_hugeLength_7cf53 12 = .ok (.new 89, 3) := by decide +kernel
theorem dJ8_hugeLength_7cf53_15 : decode cJ8_hugeLength_7cf53 15 = .ok (.dup, 1) := by decide +kernel
theorem dJ8_hugeLength_7cf53_16 : decode cJ8_hugeLength_7cf53 16 = .ok (.invokespecial 91, 3) := by decide +kernel
theorem dJ8_hugeLength_7cf53_19 : decode cJ8_hugeLength_7cf53 19 = .ok (.ldc 206, 2) := by decide +kernel
theorem dJ8_hugeLength_7cf53_21 : decode cJ8_hugeLength_7cf53 21 = .ok (.invokevirtual 94, 3) := by decide +kernel
theorem dJ8_hugeLength_7cf53_24 : decode cJ8_hugeLength_7cf53 24 = .ok (.iload_n 0, 1) := by decide +kernel
theorem dJ8_hugeLength_7cf53_25 : decode cJ8_hugeLength_7cf53 25 = .ok (.invokevirtual 98, 3) := by decide +kernel
theorem dJ8_hugeLength_7cf53_28 : decode cJ8_hugeLength_7cf53 28 = .ok (.ldc 208, 2) := by decide +kernel
theorem dJ8_hugeLength_7cf53_30 : decode cJ8_hugeLength_7cf53 30 = .ok (.invokevirtual 94, 3) := by decide +kernel
theorem dJ8_hugeLength_7cf53_33 : decode cJ8_hugeLength_7cf53 33 = .ok (.iload_n 1, 1) := by decide +kernel
theorem dJ8_hugeLength_7cf53_34 : decode cJ8_hugeLength_7cf53 34 = .ok (.invokevirtual 98, 3) := by decide +kernel
theorem dJ8_hugeLength_7cf53_37 : decode cJ8_hugeLength_7cf53 37 = .ok (.ldc 210, 2) := by decide +kernel
theorem dJ8_hugeLength_7cf53_39 : decode cJ8_hugeLength_7cf53 39 = .ok (.invokevirtual 94, 3) := by decide +kernel
theorem dJ8_hugeLength_7cf53_42 : decode cJ8_hugeLength_7cf53 42 = .ok (.invokevirtual 101, 3) := by decide +kernel
theorem dJ8_hugeLength_7cf53_45 : decode cJ8_hugeLength_7cf53 45 = .ok (.invokespecial 212, 3) := by decide +kernel
theorem dJ8_hugeLength_7cf53_48 : decode cJ8_hugeLength_7cf53 48 = .ok (.athrow, 1) := by decide +kernel
theorem dJ8_hugeLength_7cf53_49 : decode cJ8_hugeLength_7cf53 49 = .ok (.iload_n 2, 1) := by decide +kernel
theorem dJ8_hugeLength_7cf53_50 : decode cJ8_hugeLength_7cf53 50 = .ok (.ldc 200, 2) := by decide +kernel
theorem dJ8_hugeLength_7cf53_52 : decode cJ8_hugeLength_7cf53 52 = .ok (.if_icmp .gt 6, 3) := by decide +kernel
theorem dJ8_hugeLength_7cf53_55 : decode cJ8_hugeLength_7cf53 55 = .ok (.ldc 200, 2) := by decide +kernel
theorem dJ8_hugeLength_7cf53_57 : decode cJ8_hugeLength_7cf53 57 = .ok (.ireturn, 1) := by decide +kernel
theorem dJ8_hugeLength_7cf53_58 : decode cJ8_hugeLength_7cf53 58 = .ok (.iload_n 2, 1) := by decide +kernel
theorem dJ8_hugeLength_7cf53_59 : decode cJ8_hugeLength_7cf53 59 = .ok (.ireturn, 1) := by decide +kernel
theorem dJ3_checkIndex_8e157_0 : decode cJ3_checkIndex_8e157 0 = .ok (.iload_n 0, 1) := by decide +kernel
theorem dJ3_checkIndex_8e157_1 : decode cJ3_checkIndex_8e157 1 = .ok (.ifCond .lt 8, 3) := by decide +kernel
theorem dJ3_checkIndex_8e157_4 : decode cJ3_checkIndex_8e157 4 = .ok (.iload_n 0, 1) := by decide +kernel
theorem dJ3_checkIndex_8e157_5 : decode cJ3_checkIndex_8e157 5 = .ok (.iload_n 1, 1) := by decide +kernel
theorem dJ3_checkIndex_8e157_6 : decode cJ3_checkIndex_8e157 6 = .ok (.if_icmp .lt 10, 3) := by decide +kernel
theorem dJ3_checkIndex_8e157_9 : decode cJ3_checkIndex_8e157 9 = .ok (.aload_n 2, 1) := by decide +kernel
theorem dJ3_checkIndex_8e157_10 : decode cJ3_checkIndex_8e157 10 = .ok (.iload_n 0, 1) := by decide +kernel
theorem dJ3_checkIndex_8e157_11 : decode cJ3_checkIndex_8e157 11 = .ok (.iload_n 1, 1) := by decide +kernel
theorem dJ3_checkIndex_8e157_12 : decode cJ3_checkIndex_8e157 12 = .ok (.invokestatic 95, 3) := by decide +kernel
theorem dJ3_checkIndex_8e157_15 : decode cJ3_checkIndex_8e157 15 = .ok (.athrow, 1) := by decide +kernel
theorem dJ3_checkIndex_8e157_16 : decode cJ3_checkIndex_8e157 16 = .ok (.iload_n 0, 1) := by decide +kernel
theorem dJ3_checkIndex_8e157_17 : decode cJ3_checkIndex_8e157 17 = .ok (.ireturn, 1) := by decide +kernel
theorem dL_step_0 : decode cL_step 0 = .ok (.aload 5, 2) := by decide +kernel
theorem dL_step_2 : decode cL_step 2 = .ok (.iconst 0, 1) := by decide +kernel
theorem dL_step_3 : decode cL_step 3 = .ok (.aload_n 0, 1) := by decide +kernel
theorem dL_step_4 : decode cL_step 4 = .ok (.iload_n 1, 1) := by decide +kernel
theorem dL_step_5 : decode cL_step 5 = .ok (.iload_n 2, 1) := by decide +kernel
theorem dL_step_6 : decode cL_step 6 = .ok (.iload_n 3, 1) := by decide +kernel
theorem dL_step_7 : decode cL_step 7 = .ok (.iload 4, 2) := by decide +kernel
theorem dL_step_9 : decode cL_step 9 = .ok (.invokevirtual 7, 3) := by decide +kernel
theorem dL_step_12 : decode cL_step 12 = .ok (.i2l, 1) := by decide +kernel
theorem dL_step_13 : decode cL_step 13 = .ok (.lastore, 1) := by decide +kernel
theorem dL_step_14 : decode cL_step 14 = .ok (.goto 11, 3) := by decide +kernel
theorem dL_step_17 : decode cL_step 17 = .ok (.astore 6, 2) := by decide +kernel
theorem dL_step_19 : decode cL_step 19 = .ok (.iconst 1, 1) := by decide +kernel
theorem dL_step_20 : decode cL_step 20 = .ok (.ireturn, 1) := by decide +kernel
theorem dL_step_21 : decode cL_step 21 = .ok (.astore 6, 2) := by decide +kernel
theorem dL_step_23 : decode cL_step 23 = .ok (.iconst 2, 1) := by decide +kernel
theorem dL_step_24 : decode cL_step 24 = .ok (.ireturn, 1) := by decide +kernel
theorem dL_step_25 : decode cL_step 25 = .ok (.iconst 0, 1) := by decide +kernel
theorem dL_step_26 : decode cL_step 26 = .ok (.ireturn, 1) := by decide +kernel
theorem dL_role_0 : decode cL_role 0 = .ok (.aload_n 3, 1) := by decide +kernel
theorem dL_role_1 : decode cL_role 1 = .ok (.iconst 0, 1) := by decide +kernel
theorem dL_role_2 : decode cL_role 2 = .ok (.aload_n 0, 1) := by decide +kernel
theorem dL_role_3 : decode cL_role 3 = .ok (.iload_n 1, 1) := by decide +kernel
theorem dL_role_4 : decode cL_role 4 = .ok (.iload_n 2, 1) := by decide +kernel
theorem dL_role_5 : decode cL_role 5 = .ok (.invokevirtual 17, 3) := by decide +kernel
theorem dL_role_8 : decode cL_role 8 = .ok (.i2l, 1) := by decide +kernel
theorem dL_role_9 : decode cL_role 9 = .ok (.lastore, 1) := by decide +kernel
theorem dL_role_10 : decode cL_role 10 = .ok (.goto 11, 3) := by decide +kernel
theorem dL_role_13 : decode cL_role 13 = .ok (.astore 4, 2) := by decide +kernel
theorem dL_role_15 : decode cL_role 15 = .ok (.iconst 1, 1) := by decide +kernel
theorem dL_role_16 : decode cL_role 16 = .ok (.ireturn, 1) := by decide +kernel
theorem dL_role_17 : decode cL_role 17 = .ok (.astore 4, 2) := by decide +kernel
theorem dL_role_19 : decode cL_role 19 = .ok (.iconst 2, 1) := by decide +kernel
theorem dL_role_20 : decode cL_role 20 = .ok (.ireturn, 1) := by decide +kernel
theorem dL_role_21 : decode cL_role 21 = .ok (.iconst 0, 1) := by decide +kernel
theorem dL_role_22 : decode cL_role 22 = .ok (.ireturn, 1) := by decide +kernel
theorem dL_right_0 : decode cL_right 0 = .ok (.aload_n 2, 1) := by decide +kernel
theorem dL_right_1 : decode cL_right 1 = .ok (.iconst 0, 1) := by decide +kernel
theorem dL_right_2 : decode cL_right 2 = .ok (.aload_n 0, 1) := by decide +kernel
theorem dL_right_3 : decode cL_right 3 = .ok (.iload_n 1, 1) := by decide +kernel
theorem dL_right_4 : decode cL_right 4 = .ok (.invokevirtual 23, 3) := by decide +kernel
theorem dL_right_7 : decode cL_right 7 = .ok (.i2l, 1) := by decide +kernel
theorem dL_right_8 : decode cL_right 8 = .ok (.lastore, 1) := by decide +kernel
theorem dL_right_9 : decode cL_right 9 = .ok (.goto 9, 3) := by decide +kernel
theorem dL_right_12 : decode cL_right 12 = .ok (.astore_n 3, 1) := by decide +kernel
theorem dL_right_13 : decode cL_right 13 = .ok (.iconst 1, 1) := by decide +kernel
theorem dL_right_14 : decode cL_right 14 = .ok (.ireturn, 1) := by decide +kernel
theorem dL_right_15 : decode cL_right 15 = .ok (.astore_n 3, 1) := by decide +kernel
theorem dL_right_16 : decode cL_right 16 = .ok (.iconst 2, 1) := by decide +kernel
theorem dL_right_17 : decode cL_right 17 = .ok (.ireturn, 1) := by decide +kernel
theorem dL_right_18 : decode cL_right 18 = .ok (.iconst 0, 1) := by decide +kernel
theorem dL_right_19 : decode cL_right 19 = .ok (.ireturn, 1) := by decide +kernel
theorem dL_stock_0 : decode cL_stock 0 = .ok (.aload_n 3, 1) := by decide +kernel
theorem dL_stock_1 : decode cL_stock 1 = .ok (.iconst 0, 1) := by decide +kernel
theorem dL_stock_2 : decode cL_stock 2 = .ok (.aload_n 0, 1) := by decide +kernel
theorem dL_stock_3 : decode cL_stock 3 = .ok (.iload_n 1, 1) := by decide +kernel
theorem dL_stock_4 : decode cL_stock 4 = .ok (.iload_n 2, 1) := by decide +kernel
theorem dL_stock_5 : decode cL_stock 5 = .ok (.invokevirtual 27, 3) := by decide +kernel
theorem dL_stock_8 : decode cL_stock 8 = .ok (.i2l, 1) := by decide +kernel
theorem dL_stock_9 : decode cL_stock 9 = .ok (.lastore, 1) := by decide +kernel
theorem dL_stock_10 : decode cL_stock 10 = .ok (.goto 11, 3) := by decide +kernel
theorem dL_stock_13 : decode cL_stock 13 = .ok (.astore 4, 2) := by decide +kernel
theorem dL_stock_15 : decode cL_stock 15 = .ok (.iconst 1, 1) := by decide +kernel
theorem dL_stock_16 : decode cL_stock 16 = .ok (.ireturn, 1) := by decide +kernel
theorem dL_stock_17 : decode cL_stock 17 = .ok (.astore 4, 2) := by decide +kernel
theorem dL_stock_19 : decode cL_stock 19 = .ok (.iconst 2, 1) := by decide +kernel
theorem dL_stock_20 : decode cL_stock 20 = .ok (.ireturn, 1) := by decide +kernel
theorem dL_stock_21 : decode cL_stock 21 = .ok (.iconst 0, 1) := by decide +kernel
theorem dL_stock_22 : decode cL_stock 22 = .ok (.ireturn, 1) := by decide +kernel
theorem dL_order_0 : decode cL_order 0 = .ok (.aload 4, 2) := by decide +kernel
theorem dL_order_2 : decode cL_order 2 = .ok (.iconst 0, 1) := by decide +kernel
theorem dL_order_3 : decode cL_order 3 = .ok (.aload_n 0, 1) := by decide +kernel
theorem dL_order_4 : decode cL_order 4 = .ok (.iload_n 1, 1) := by decide +kernel
theorem dL_order_5 : decode cL_order 5 = .ok (.iload_n 2, 1) := by decide +kernel
theorem dL_order_6 : decode cL_order 6 = .ok (.iload_n 3, 1) := by decide +kernel
theorem dL_order_7 : decode cL_order 7 = .ok (.invokevirtual 30, 3) := by decide +kernel
theorem dL_order_10 : decode cL_order 10 = .ok (.i2l, 1) := by decide +kernel
theorem dL_order_11 : decode cL_order 11 = .ok (.lastore, 1) := by decide +kernel
theorem dL_order_12 : decode cL_order 12 = .ok (.goto 15, 3) := by decide +kernel
theorem dL_order_15 : decode cL_order 15 = .ok (.astore 5, 2) := by decide +kernel
theorem dL_order_17 : decode cL_order 17 = .ok (.iconst 1, 1) := by decide +kernel
theorem dL_order_18 : decode cL_order 18 = .ok (.ireturn, 1) := by decide +kernel
theorem dL_order_19 : decode cL_order 19 = .ok (.astore 5, 2) := by decide +kernel
theorem dL_order_21 : decode cL_order 21 = .ok (.iconst 2, 1) := by decide +kernel
theorem dL_order_22 : decode cL_order 22 = .ok (.ireturn, 1) := by decide +kernel
theorem dL_order_23 : decode cL_order 23 = .ok (.astore 5, 2) := by decide +kernel
theorem dL_order_25 : decode cL_order 25 = .ok (.iconst 3, 1) := by decide +kernel
theorem dL_order_26 : decode cL_order 26 = .ok (.ireturn, 1) := by decide +kernel
theorem dL_order_27 : decode cL_order 27 = .ok (.iconst 0, 1) := by decide +kernel
theorem dL_order_28 : decode cL_order 28 = .ok (.ireturn, 1) := by decide +kernel
theorem dL_late_0 : decode cL_late 0 = .ok (.aload_n 3, 1) := by decide +kernel
theorem dL_late_1 : decode cL_late 1 = .ok (.iconst 0, 1) := by decide +kernel
theorem dL_late_2 : decode cL_late 2 = .ok (.aload_n 0, 1) := by decide +kernel
theorem dL_late_3 : decode cL_late 3 = .ok (.iload_n 1, 1) := by decide +kernel
theorem dL_late_4 : decode cL_late 4 = .ok (.iload_n 2, 1) := by decide +kernel
theorem dL_late_5 : decode cL_late 5 = .ok (.invokevirtual 34, 3) := by decide +kernel
theorem dL_late_8 : decode cL_late 8 = .ok (.i2l, 1) := by decide +kernel
theorem dL_late_9 : decode cL_late 9 = .ok (.lastore, 1) := by decide +kernel
theorem dL_late_10 : decode cL_late 10 = .ok (.goto 15, 3) := by decide +kernel
theorem dL_late_13 : decode cL_late 13 = .ok (.astore 4, 2) := by decide +kernel
theorem dL_late_15 : decode cL_late 15 = .ok (.iconst 1, 1) := by decide +kernel
theorem dL_late_16 : decode cL_late 16 = .ok (.ireturn, 1) := by decide +kernel
theorem dL_late_17 : decode cL_late 17 = .ok (.astore 4, 2) := by decide +kernel
theorem dL_late_19 : decode cL_late 19 = .ok (.iconst 2, 1) := by decide +kernel
theorem dL_late_20 : decode cL_late 20 = .ok (.ireturn, 1) := by decide +kernel
theorem dL_late_21 : decode cL_late 21 = .ok (.astore 4, 2) := by decide +kernel
theorem dL_late_23 : decode cL_late 23 = .ok (.iconst 3, 1) := by decide +kernel
theorem dL_late_24 : decode cL_late 24 = .ok (.ireturn, 1) := by decide +kernel
theorem dL_late_25 : decode cL_late 25 = .ok (.iconst 0, 1) := by decide +kernel
theorem dL_late_26 : decode cL_late 26 = .ok (.ireturn, 1) := by decide +kernel
theorem dL_session_0 : decode cL_session 0 = .ok (.aload 4, 2) := by decide +kernel
theorem dL_session_2 : decode cL_session 2 = .ok (.iconst 0, 1) := by decide +kernel
theorem dL_session_3 : decode cL_session 3 = .ok (.aload_n 0, 1) := by decide +kernel
theorem dL_session_4 : decode cL_session 4 = .ok (.iload_n 1, 1) := by decide +kernel
theorem dL_session_5 : decode cL_session 5 = .ok (.iload_n 2, 1) := by decide +kernel
theorem dL_session_6 : decode cL_session 6 = .ok (.iload_n 3, 1) := by decide +kernel
theorem dL_session_7 : decode cL_session 7 = .ok (.invokevirtual 37, 3) := by decide +kernel
theorem dL_session_10 : decode cL_session 10 = .ok (.i2l, 1) := by decide +kernel
theorem dL_session_11 : decode cL_session 11 = .ok (.lastore, 1) := by decide +kernel
theorem dL_session_12 : decode cL_session 12 = .ok (.goto 15, 3) := by decide +kernel
theorem dL_session_15 : decode cL_session 15 = .ok (.astore 5, 2) := by decide +kernel
theorem dL_session_17 : decode cL_session 17 = .ok (.iconst 1, 1) := by decide +kernel
theorem dL_session_18 : decode cL_session 18 = .ok (.ireturn, 1) := by decide +kernel
theorem dL_session_19 : decode cL_session 19 = .ok (.astore 5, 2) := by decide +kernel
theorem dL_session_21 : decode cL_session 21 = .ok (.iconst 2, 1) := by decide +kernel
theorem dL_session_22 : decode cL_session 22 = .ok (.ireturn, 1) := by decide +kernel
theorem dL_session_23 : decode cL_session 23 = .ok (.astore 5, 2) := by decide +kernel
theorem dL_session_25 : decode cL_session 25 = .ok (.iconst 3, 1) := by decide +kernel
theorem dL_session_26 : decode cL_session 26 = .ok (.ireturn, 1) := by decide +kernel
theorem dL_session_27 : decode cL_session 27 = .ok (.iconst 0, 1) := by decide +kernel
theorem dL_session_28 : decode cL_session 28 = .ok (.ireturn, 1) := by decide +kernel
theorem dL_ofSession_0 : decode cL_ofSession 0 = .ok (.aload_n 3, 1) := by decide +kernel
theorem dL_ofSession_1 : decode cL_ofSession 1 = .ok (.iconst 0, 1) := by decide +kernel
theorem dL_ofSession_2 : decode cL_ofSession 2 = .ok (.aload_n 0, 1) := by decide +kernel
theorem dL_ofSession_3 : decode cL_ofSession 3 = .ok (.iload_n 1, 1) := by decide +kernel
theorem dL_ofSession_4 : decode cL_ofSession 4 = .ok (.iload_n 2, 1) := by decide +kernel
theorem dL_ofSession_5 : decode cL_ofSession 5 = .ok (.invokevirtual 40, 3) := by decide +kernel
theorem dL_ofSession_8 : decode cL_ofSession 8 = .ok (.i2l, 1) := by decide +kernel
theorem dL_ofSession_9 : decode cL_ofSession 9 = .ok (.lastore, 1) := by decide +kernel
theorem dL_ofSession_10 : decode cL_ofSession 10 = .ok (.goto 11, 3) := by decide +kernel
theorem dL_ofSession_13 : decode cL_ofSession 13 = .ok (.astore 4, 2) := by decide +kernel
theorem dL_ofSession_15 : decode cL_ofSession 15 = .ok (.iconst 1, 1) := by decide +kernel
theorem dL_ofSession_16 : decode cL_ofSession 16 = .ok (.ireturn, 1) := by decide +kernel
theorem dL_ofSession_17 : decode cL_ofSession 17 = .ok (.astore 4, 2) := by decide +kernel
theorem dL_ofSession_19 : decode cL_ofSession 19 = .ok (.iconst 2, 1) := by decide +kernel
theorem dL_ofSession_20 : decode cL_ofSession 20 = .ok (.ireturn, 1) := by decide +kernel
theorem dL_ofSession_21 : decode cL_ofSession 21 = .ok (.iconst 0, 1) := by decide +kernel
theorem dL_ofSession_22 : decode cL_ofSession 22 = .ok (.ireturn, 1) := by decide +kernel
theorem dL_ofItem_0 : decode cL_ofItem 0 = .ok (.aload_n 3, 1) := by decide +kernel
theorem dL_ofItem_1 : decode cL_ofItem 1 = .ok (.iconst 0, 1) := by decide +kernel
theorem dL_ofItem_2 : decode cL_ofItem 2 = .ok (.aload_n 0, 1) := by decide +kernel
theorem dL_ofItem_3 : decode cL_ofItem 3 = .ok (.iload_n 1, 1) := by decide +kernel
theorem dL_ofItem_4 : decode cL_ofItem 4 = .ok (.iload_n 2, 1) := by decide +kernel
theorem dL_ofItem_5 : decode cL_ofItem 5 = .ok (.invokevirtual 43, 3) := by decide +kernel
theorem dL_ofItem_8 : decode cL_ofItem 8 = .ok (.i2l, 1) := by decide +kernel
theorem dL_ofItem_9 : decode cL_ofItem 9 = .ok (.lastore, 1) := by decide +kernel
theorem dL_ofItem_10 : decode cL_ofItem 10 = .ok (.goto 11, 3) := by decide +kernel
theorem dL_ofItem_13 : decode cL_ofItem 13 = .ok (.astore 4, 2) := by decide +kernel
theorem dL_ofItem_15 : decode cL_ofItem 15 = .ok (.iconst 1, 1) := by decide +kernel
theorem dL_ofItem_16 : decode cL_ofItem 16 = .ok (.ireturn, 1) := by decide +kernel
theorem dL_ofItem_17 : decode cL_ofItem 17 = .ok (.astore 4, 2) := by decide +kernel
theorem dL_ofItem_19 : decode cL_ofItem 19 = .ok (.iconst 2, 1) := by decide +kernel
theorem dL_ofItem_20 : decode cL_ofItem 20 = .ok (.ireturn, 1) := by decide +kernel
theorem dL_ofItem_21 : decode cL_ofItem 21 = .ok (.iconst 0, 1) := by decide +kernel
theorem dL_ofItem_22 : decode cL_ofItem 22 = .ok (.ireturn, 1) := by decide +kernel
theorem dL_join_0 : decode cL_join 0 = .ok (.aload_n 3, 1) := by decide +kernel
theorem dL_join_1 : decode cL_join 1 = .ok (.iconst 0, 1) := by decide +kernel
theorem dL_join_2 : decode cL_join 2 = .ok (.aload_n 0, 1) := by decide +kernel
theorem dL_join_3 : decode cL_join 3 = .ok (.iload_n 1, 1) := by decide +kernel
theorem dL_join_4 : decode cL_join 4 = .ok (.iload_n 2, 1) := by decide +kernel
theorem dL_join_5 : decode cL_join 5 = .ok (.invokevirtual 46, 3) := by decide +kernel
theorem dL_join_8 : decode cL_join 8 = .ok (.i2l, 1) := by decide +kernel
theorem dL_join_9 : decode cL_join 9 = .ok (.lastore, 1) := by decide +kernel
theorem dL_join_10 : decode cL_join 10 = .ok (.goto 15, 3) := by decide +kernel
theorem dL_join_13 : decode cL_join 13 = .ok (.astore 4, 2) := by decide +kernel
theorem dL_join_15 : decode cL_join 15 = .ok (.iconst 1, 1) := by decide +kernel
theorem dL_join_16 : decode cL_join 16 = .ok (.ireturn, 1) := by decide +kernel
theorem dL_join_17 : decode cL_join 17 = .ok (.astore 4, 2) := by decide +kernel
theorem dL_join_19 : decode cL_join 19 = .ok (.iconst 2, 1) := by decide +kernel
theorem dL_join_20 : decode cL_join 20 = .ok (.ireturn, 1) := by decide +kernel
theorem dL_join_21 : decode cL_join 21 = .ok (.astore 4, 2) := by decide +kernel
theorem dL_join_23 : decode cL_join 23 = .ok (.iconst 3, 1) := by decide +kernel
theorem dL_join_24 : decode cL_join 24 = .ok (.ireturn, 1) := by decide +kernel
theorem dL_join_25 : decode cL_join 25 = .ok (.iconst 0, 1) := by decide +kernel
theorem dL_join_26 : decode cL_join 26 = .ok (.ireturn, 1) := by decide +kernel
theorem dL_leave_0 : decode cL_leave 0 = .ok (.aload_n 2, 1) := by decide +kernel
theorem dL_leave_1 : decode cL_leave 1 = .ok (.iconst 0, 1) := by decide +kernel
theorem dL_leave_2 : decode cL_leave 2 = .ok (.aload_n 0, 1) := by decide +kernel
theorem dL_leave_3 : decode cL_leave 3 = .ok (.iload_n 1, 1) := by decide +kernel
theorem dL_leave_4 : decode cL_leave 4 = .ok (.invokevirtual 49, 3) := by decide +kernel
theorem dL_leave_7 : decode cL_leave 7 = .ok (.i2l, 1) := by decide +kernel
theorem dL_leave_8 : decode cL_leave 8 = .ok (.lastore, 1) := by decide +kernel
theorem dL_leave_9 : decode cL_leave 9 = .ok (.goto 9, 3) := by decide +kernel
theorem dL_leave_12 : decode cL_leave 12 = .ok (.astore_n 3, 1) := by decide +kernel
theorem dL_leave_13 : decode cL_leave 13 = .ok (.iconst 1, 1) := by decide +kernel
theorem dL_leave_14 : decode cL_leave 14 = .ok (.ireturn, 1) := by decide +kernel
theorem dL_leave_15 : decode cL_leave 15 = .ok (.astore_n 3, 1) := by decide +kernel
theorem dL_leave_16 : decode cL_leave 16 = .ok (.iconst 2, 1) := by decide +kernel
theorem dL_leave_17 : decode cL_leave 17 = .ok (.ireturn, 1) := by decide +kernel
theorem dL_leave_18 : decode cL_leave 18 = .ok (.iconst 0, 1) := by decide +kernel
theorem dL_leave_19 : decode cL_leave 19 = .ok (.ireturn, 1) := by decide +kernel
theorem dL_day_0 : decode cL_day 0 = .ok (.aload_n 1, 1) := by decide +kernel
theorem dL_day_1 : decode cL_day 1 = .ok (.iconst 0, 1) := by decide +kernel
theorem dL_day_2 : decode cL_day 2 = .ok (.aload_n 0, 1) := by decide +kernel
theorem dL_day_3 : decode cL_day 3 = .ok (.invokevirtual 52, 3) := by decide +kernel
theorem dL_day_6 : decode cL_day 6 = .ok (.i2l, 1) := by decide +kernel
theorem dL_day_7 : decode cL_day 7 = .ok (.lastore, 1) := by decide +kernel
theorem dL_day_8 : decode cL_day 8 = .ok (.goto 6, 3) := by decide +kernel
theorem dL_day_11 : decode cL_day 11 = .ok (.astore_n 2, 1) := by decide +kernel
theorem dL_day_12 : decode cL_day 12 = .ok (.iconst 1, 1) := by decide +kernel
theorem dL_day_13 : decode cL_day 13 = .ok (.ireturn, 1) := by decide +kernel
theorem dL_day_14 : decode cL_day 14 = .ok (.iconst 0, 1) := by decide +kernel
theorem dL_day_15 : decode cL_day 15 = .ok (.ireturn, 1) := by decide +kernel
theorem dL_ofStep_0 : decode cL_ofStep 0 = .ok (.aload 4, 2) := by decide +kernel
theorem dL_ofStep_2 : decode cL_ofStep 2 = .ok (.iconst 0, 1) := by decide +kernel
theorem dL_ofStep_3 : decode cL_ofStep 3 = .ok (.aload_n 0, 1) := by decide +kernel
theorem dL_ofStep_4 : decode cL_ofStep 4 = .ok (.iload_n 1, 1) := by decide +kernel
theorem dL_ofStep_5 : decode cL_ofStep 5 = .ok (.iload_n 2, 1) := by decide +kernel
theorem dL_ofStep_6 : decode cL_ofStep 6 = .ok (.iload_n 3, 1) := by decide +kernel
theorem dL_ofStep_7 : decode cL_ofStep 7 = .ok (.invokevirtual 56, 3) := by decide +kernel
theorem dL_ofStep_10 : decode cL_ofStep 10 = .ok (.i2l, 1) := by decide +kernel
theorem dL_ofStep_11 : decode cL_ofStep 11 = .ok (.lastore, 1) := by decide +kernel
theorem dL_ofStep_12 : decode cL_ofStep 12 = .ok (.goto 11, 3) := by decide +kernel
theorem dL_ofStep_15 : decode cL_ofStep 15 = .ok (.astore 5, 2) := by decide +kernel
theorem dL_ofStep_17 : decode cL_ofStep 17 = .ok (.iconst 1, 1) := by decide +kernel
theorem dL_ofStep_18 : decode cL_ofStep 18 = .ok (.ireturn, 1) := by decide +kernel
theorem dL_ofStep_19 : decode cL_ofStep 19 = .ok (.astore 5, 2) := by decide +kernel
theorem dL_ofStep_21 : decode cL_ofStep 21 = .ok (.iconst 2, 1) := by decide +kernel
theorem dL_ofStep_22 : decode cL_ofStep 22 = .ok (.ireturn, 1) := by decide +kernel
theorem dL_ofStep_23 : decode cL_ofStep 23 = .ok (.iconst 0, 1) := by decide +kernel
theorem dL_ofStep_24 : decode cL_ofStep 24 = .ok (.ireturn, 1) := by decide +kernel
theorem dL_ofJoiner_0 : decode cL_ofJoiner 0 = .ok (.aload_n 3, 1) := by decide +kernel
theorem dL_ofJoiner_1 : decode cL_ofJoiner 1 = .ok (.iconst 0, 1) := by decide +kernel
theorem dL_ofJoiner_2 : decode cL_ofJoiner 2 = .ok (.aload_n 0, 1) := by decide +kernel
theorem dL_ofJoiner_3 : decode cL_ofJoiner 3 = .ok (.iload_n 1, 1) := by decide +kernel
theorem dL_ofJoiner_4 : decode cL_ofJoiner 4 = .ok (.iload_n 2, 1) := by decide +kernel
theorem dL_ofJoiner_5 : decode cL_ofJoiner 5 = .ok (.invokevirtual 59, 3) := by decide +kernel
theorem dL_ofJoiner_8 : decode cL_ofJoiner 8 = .ok (.i2l, 1) := by decide +kernel
theorem dL_ofJoiner_9 : decode cL_ofJoiner 9 = .ok (.lastore, 1) := by decide +kernel
theorem dL_ofJoiner_10 : decode cL_ofJoiner 10 = .ok (.goto 11, 3) := by decide +kernel
theorem dL_ofJoiner_13 : decode cL_ofJoiner 13 = .ok (.astore 4, 2) := by decide +kernel
theorem dL_ofJoiner_15 : decode cL_ofJoiner 15 = .ok (.iconst 1, 1) := by decide +kernel
theorem dL_ofJoiner_16 : decode cL_ofJoiner 16 = .ok (.ireturn, 1) := by decide +kernel
theorem dL_ofJoiner_17 : decode cL_ofJoiner 17 = .ok (.astore 4, 2) := by decide +kernel
theorem dL_ofJoiner_19 : decode cL_ofJoiner 19 = .ok (.iconst 2, 1) := by decide +kernel
theorem dL_ofJoiner_20 : decode cL_ofJoiner 20 = .ok (.ireturn, 1) := by decide +kernel
theorem dL_ofJoiner_21 : decode cL_ofJoiner 21 = .ok (.iconst 0, 1) := by decide +kernel
theorem dL_ofJoiner_22 : decode cL_ofJoiner 22 = .ok (.ireturn, 1) := by decide +kernel
theorem dL_many_0 : decode cL_many 0 = .ok (.aload_n 2, 1) := by decide +kernel
theorem dL_many_1 : decode cL_many 1 = .ok (.iconst 0, 1) := by decide +kernel
theorem dL_many_2 : decode cL_many 2 = .ok (.aload_n 0, 1) := by decide +kernel
theorem dL_many_3 : decode cL_many 3 = .ok (.iload_n 1, 1) := by decide +kernel
theorem dL_many_4 : decode cL_many 4 = .ok (.invokevirtual 62, 3) := by decide +kernel
theorem dL_many_7 : decode cL_many 7 = .ok (.i2l, 1) := by decide +kernel
theorem dL_many_8 : decode cL_many 8 = .ok (.lastore, 1) := by decide +kernel
theorem dL_many_9 : decode cL_many 9 = .ok (.goto 6, 3) := by decide +kernel
theorem dL_many_12 : decode cL_many 12 = .ok (.astore_n 3, 1) := by decide +kernel
theorem dL_many_13 : decode cL_many 13 = .ok (.iconst 1, 1) := by decide +kernel
theorem dL_many_14 : decode cL_many 14 = .ok (.ireturn, 1) := by decide +kernel
theorem dL_many_15 : decode cL_many 15 = .ok (.iconst 0, 1) := by decide +kernel
theorem dL_many_16 : decode cL_many 16 = .ok (.ireturn, 1) := by decide +kernel
theorem dL_rightOn_0 : decode cL_rightOn 0 = .ok (.aload_n 3, 1) := by decide +kernel
theorem dL_rightOn_1 : decode cL_rightOn 1 = .ok (.iconst 0, 1) := by decide +kernel
theorem dL_rightOn_2 : decode cL_rightOn 2 = .ok (.aload_n 0, 1) := by decide +kernel
theorem dL_rightOn_3 : decode cL_rightOn 3 = .ok (.iload_n 1, 1) := by decide +kernel
theorem dL_rightOn_4 : decode cL_rightOn 4 = .ok (.iload_n 2, 1) := by decide +kernel
theorem dL_rightOn_5 : decode cL_rightOn 5 = .ok (.invokevirtual 65, 3) := by decide +kernel
theorem dL_rightOn_8 : decode cL_rightOn 8 = .ok (.i2l, 1) := by decide +kernel
theorem dL_rightOn_9 : decode cL_rightOn 9 = .ok (.lastore, 1) := by decide +kernel
theorem dL_rightOn_10 : decode cL_rightOn 10 = .ok (.goto 7, 3) := by decide +kernel
theorem dL_rightOn_13 : decode cL_rightOn 13 = .ok (.astore 4, 2) := by decide +kernel
theorem dL_rightOn_15 : decode cL_rightOn 15 = .ok (.iconst 1, 1) := by decide +kernel
theorem dL_rightOn_16 : decode cL_rightOn 16 = .ok (.ireturn, 1) := by decide +kernel
theorem dL_rightOn_17 : decode cL_rightOn 17 = .ok (.iconst 0, 1) := by decide +kernel
theorem dL_rightOn_18 : decode cL_rightOn 18 = .ok (.ireturn, 1) := by decide +kernel
theorem dL_shiftBy_0 : decode cL_shiftBy 0 = .ok (.aload_n 3, 1) := by decide +kernel
theorem dL_shiftBy_1 : decode cL_shiftBy 1 = .ok (.iconst 0, 1) := by decide +kernel
theorem dL_shiftBy_2 : decode cL_shiftBy 2 = .ok (.aload_n 0, 1) := by decide +kernel
theorem dL_shiftBy_3 : decode cL_shiftBy 3 = .ok (.iload_n 1, 1) := by decide +kernel
theorem dL_shiftBy_4 : decode cL_shiftBy 4 = .ok (.iload_n 2, 1) := by decide +kernel
theorem dL_shiftBy_5 : decode cL_shiftBy 5 = .ok (.invokevirtual 68, 3) := by decide +kernel
theorem dL_shiftBy_8 : decode cL_shiftBy 8 = .ok (.i2l, 1) := by decide +kernel
theorem dL_shiftBy_9 : decode cL_shiftBy 9 = .ok (.lastore, 1) := by decide +kernel
theorem dL_shiftBy_10 : decode cL_shiftBy 10 = .ok (.goto 15, 3) := by decide +kernel
theorem dL_shiftBy_13 : decode cL_shiftBy 13 = .ok (.astore 4, 2) := by decide +kernel
theorem dL_shiftBy_15 : decode cL_shiftBy 15 = .ok (.iconst 1, 1) := by decide +kernel
theorem dL_shiftBy_16 : decode cL_shiftBy 16 = .ok (.ireturn, 1) := by decide +kernel
theorem dL_shiftBy_17 : decode cL_shiftBy 17 = .ok (.astore 4, 2) := by decide +kernel
theorem dL_shiftBy_19 : decode cL_shiftBy 19 = .ok (.iconst 2, 1) := by decide +kernel
theorem dL_shiftBy_20 : decode cL_shiftBy 20 = .ok (.ireturn, 1) := by decide +kernel
theorem dL_shiftBy_21 : decode cL_shiftBy 21 = .ok (.astore 4, 2) := by decide +kernel
theorem dL_shiftBy_23 : decode cL_shiftBy 23 = .ok (.iconst 3, 1) := by decide +kernel
theorem dL_shiftBy_24 : decode cL_shiftBy 24 = .ok (.ireturn, 1) := by decide +kernel
theorem dL_shiftBy_25 : decode cL_shiftBy 25 = .ok (.iconst 0, 1) := by decide +kernel
theorem dL_shiftBy_26 : decode cL_shiftBy 26 = .ok (.ireturn, 1) := by decide +kernel
theorem dL_next_0 : decode cL_next 0 = .ok (.aload_n 2, 1) := by decide +kernel
theorem dL_next_1 : decode cL_next 1 = .ok (.iconst 0, 1) := by decide +kernel
theorem dL_next_2 : decode cL_next 2 = .ok (.aload_n 0, 1) := by decide +kernel
theorem dL_next_3 : decode cL_next 3 = .ok (.iload_n 1, 1) := by decide +kernel
theorem dL_next_4 : decode cL_next 4 = .ok (.invokevirtual 71, 3) := by decide +kernel
theorem dL_next_7 : decode cL_next 7 = .ok (.i2l, 1) := by decide +kernel
theorem dL_next_8 : decode cL_next 8 = .ok (.lastore, 1) := by decide +kernel
theorem dL_next_9 : decode cL_next 9 = .ok (.goto 6, 3) := by decide +kernel
theorem dL_next_12 : decode cL_next 12 = .ok (.astore_n 3, 1) := by decide +kernel
theorem dL_next_13 : decode cL_next 13 = .ok (.iconst 1, 1) := by decide +kernel
theorem dL_next_14 : decode cL_next 14 = .ok (.ireturn, 1) := by decide +kernel
theorem dL_next_15 : decode cL_next 15 = .ok (.iconst 0, 1) := by decide +kernel
theorem dL_next_16 : decode cL_next 16 = .ok (.ireturn, 1) := by decide +kernel
theorem dL_waitFor_0 : decode cL_waitFor 0 = .ok (.aload_n 3, 1) := by decide +kernel
theorem dL_waitFor_1 : decode cL_waitFor 1 = .ok (.iconst 0, 1) := by decide +kernel
theorem dL_waitFor_2 : decode cL_waitFor 2 = .ok (.aload_n 0, 1) := by decide +kernel
theorem dL_waitFor_3 : decode cL_waitFor 3 = .ok (.iload_n 1, 1) := by decide +kernel
theorem dL_waitFor_4 : decode cL_waitFor 4 = .ok (.iload_n 2, 1) := by decide +kernel
theorem dL_waitFor_5 : decode cL_waitFor 5 = .ok (.invokevirtual 74, 3) := by decide +kernel
theorem dL_waitFor_8 : decode cL_waitFor 8 = .ok (.i2l, 1) := by decide +kernel
theorem dL_waitFor_9 : decode cL_waitFor 9 = .ok (.lastore, 1) := by decide +kernel
theorem dL_waitFor_10 : decode cL_waitFor 10 = .ok (.goto 7, 3) := by decide +kernel
theorem dL_waitFor_13 : decode cL_waitFor 13 = .ok (.astore 4, 2) := by decide +kernel
theorem dL_waitFor_15 : decode cL_waitFor 15 = .ok (.iconst 1, 1) := by decide +kernel
theorem dL_waitFor_16 : decode cL_waitFor 16 = .ok (.ireturn, 1) := by decide +kernel
theorem dL_waitFor_17 : decode cL_waitFor 17 = .ok (.iconst 0, 1) := by decide +kernel
theorem dL_waitFor_18 : decode cL_waitFor 18 = .ok (.ireturn, 1) := by decide +kernel
theorem dL_law_0 : decode cL_law 0 = .ok (.new 8, 3) := by decide +kernel
theorem dL_law_3 : decode cL_law 3 = .ok (.dup, 1) := by decide +kernel
theorem dL_law_4 : decode cL_law 4 = .ok (.invokespecial 77, 3) := by decide +kernel
theorem dL_law_7 : decode cL_law 7 = .ok (.astore_n 1, 1) := by decide +kernel
theorem dL_law_8 : decode cL_law 8 = .ok (.new 78, 3) := by decide +kernel
theorem dL_law_11 : decode cL_law 11 = .ok (.dup, 1) := by decide +kernel
theorem dL_law_12 : decode cL_law 12 = .ok (.invokespecial 80, 3) := by decide +kernel
theorem dL_law_15 : decode cL_law 15 = .ok (.astore_n 2, 1) := by decide +kernel
theorem dL_law_16 : decode cL_law 16 = .ok (.iconst 1, 1) := by decide +kernel
theorem dL_law_17 : decode cL_law 17 = .ok (.newarray .long, 2) := by decide +kernel
theorem dL_law_19 : decode cL_law 19 = .ok (.astore_n 3, 1) := by decide +kernel
theorem dL_law_20 : decode cL_law 20 = .ok (.iconst 0, 1) := by decide +kernel
theorem dL_law_21 : decode cL_law 21 = .ok (.istore 4, 2) := by decide +kernel
theorem dL_law_23 : decode cL_law 23 = .ok (.iload 4, 2) := by decide +kernel
theorem dL_law_25 : decode cL_law 25 = .ok (.aload_n 0, 1) := by decide +kernel
theorem dL_law_26 : decode cL_law 26 = .ok (.arraylength, 1) := by decide +kernel
theorem dL_law_27 : decode cL_law 27 = .ok (.iconst 5, 1) := by decide +kernel
theorem dL_law_28 : decode cL_law 28 = .ok (.isub, 1) := by decide +kernel
theorem dL_law_29 : decode cL_law 29 = .ok (.if_icmp .gt 1448, 3) := by decide +kernel
theorem dL_law_32 : decode cL_law 32 = .ok (.aload_n 0, 1) := by decide +kernel
theorem dL_law_33 : decode cL_law 33 = .ok (.iload 4, 2) := by decide +kernel
theorem dL_law_35 : decode cL_law 35 = .ok (.iaload, 1) := by decide +kernel
theorem dL_law_36 : decode cL_law 36 = .ok (.bipush 31, 2) := by decide +kernel
theorem dL_law_38 : decode cL_law 38 = .ok (.iand, 1) := by decide +kernel
theorem dL_law_39 : decode cL_law 39 = .ok (.tableswitch 1432 0 20 #[97, 189, 257, 313, 381, 461, 529, 609, 677, 745, 813, 869, 913, 993, 1061, 1117, 1158, 1226, 1294, 1350, 1418], 97) := by decide +kernel
theorem dL_law_136 : decode cL_law 136 = .ok (.aload_n 1, 1) := by decide +kernel
theorem dL_law_137 : decode cL_law 137 = .ok (.aload_n 0, 1) := by decide +kernel
theorem dL_law_138 : decode cL_law 138 = .ok (.iload 4, 2) := by decide +kernel
theorem dL_law_140 : decode cL_law 140 = .ok (.iconst 1, 1) := by decide +kernel
theorem dL_law_141 : decode cL_law 141 = .ok (.iadd, 1) := by decide +kernel
theorem dL_law_142 : decode cL_law 142 = .ok (.iaload, 1) := by decide +kernel
theorem dL_law_143 : decode cL_law 143 = .ok (.aload_n 0, 1) := by decide +kernel
theorem dL_law_144 : decode cL_law 144 = .ok (.iload 4, 2) := by decide +kernel
theorem dL_law_146 : decode cL_law 146 = .ok (.iconst 2, 1) := by decide +kernel
theorem dL_law_147 : decode cL_law 147 = .ok (.iadd, 1) := by decide +kernel
theorem dL_law_148 : decode cL_law 148 = .ok (.iaload, 1) := by decide +kernel
theorem dL_law_149 : decode cL_law 149 = .ok (.aload_n 0, 1) := by decide +kernel
theorem dL_law_150 : decode cL_law 150 = .ok (.iload 4, 2) := by decide +kernel
theorem dL_law_152 : decode cL_law 152 = .ok (.iconst 3, 1) := by decide +kernel
theorem dL_law_153 : decode cL_law 153 = .ok (.iadd, 1) := by decide +kernel
theorem dL_law_154 : decode cL_law 154 = .ok (.iaload, 1) := by decide +kernel
theorem dL_law_155 : decode cL_law 155 = .ok (.aload_n 0, 1) := by decide +kernel
theorem dL_law_156 : decode cL_law 156 = .ok (.iload 4, 2) := by decide +kernel
theorem dL_law_158 : decode cL_law 158 = .ok (.iconst 4, 1) := by decide +kernel
theorem dL_law_159 : decode cL_law 159 = .ok (.iadd, 1) := by decide +kernel
theorem dL_law_160 : decode cL_law 160 = .ok (.iaload, 1) := by decide +kernel
theorem dL_law_161 : decode cL_law 161 = .ok (.aload_n 3, 1) := by decide +kernel
theorem dL_law_162 : decode cL_law 162 = .ok (.invokestatic 81, 3) := by decide +kernel
theorem dL_law_165 : decode cL_law 165 = .ok (.istore 5, 2) := by decide +kernel
theorem dL_law_167 : decode cL_law 167 = .ok (.aload_n 2, 1) := by decide +kernel
theorem dL_law_168 : decode cL_law 168 = .ok (.aload_n 0, 1) := by decide +kernel
theorem dL_law_169 : decode cL_law 169 = .ok (.iload 4, 2) := by decide +kernel
theorem dL_law_171 : decode cL_law 171 = .ok (.iconst 1, 1) := by decide +kernel
theorem dL_law_172 : decode cL_law 172 = .ok (.iadd, 1) := by decide +kernel
theorem dL_law_173 : decode cL_law 173 = .ok (.iaload, 1) := by decide +kernel
theorem dL_law_174 : decode cL_law 174 = .ok (.aload_n 0, 1) := by decide +kernel
theorem dL_law_175 : decode cL_law 175 = .ok (.iload 4, 2) := by decide +kernel
theorem dL_law_177 : decode cL_law 177 = .ok (.iconst 2, 1) := by decide +kernel
theorem dL_law_178 : decode cL_law 178 = .ok (.iadd, 1) := by decide +kernel
theorem dL_law_179 : decode cL_law 179 = .ok (.iaload, 1) := by decide +kernel
theorem dL_law_180 : decode cL_law 180 = .ok (.aload_n 0, 1) := by decide +kernel
theorem dL_law_181 : decode cL_law 181 = .ok (.iload 4, 2) := by decide +kernel
theorem dL_law_183 : decode cL_law 183 = .ok (.iconst 3, 1) := by decide +kernel
theorem dL_law_184 : decode cL_law 184 = .ok (.iadd, 1) := by decide +kernel
theorem dL_law_185 : decode cL_law 185 = .ok (.iaload, 1) := by decide +kernel
theorem dL_law_186 : decode cL_law 186 = .ok (.aload_n 0, 1) := by decide +kernel
theorem dL_law_187 : decode cL_law 187 = .ok (.iload 4, 2) := by decide +kernel
theorem dL_law_189 : decode cL_law 189 = .ok (.iconst 4, 1) := by decide +kernel
theorem dL_law_190 : decode cL_law 190 = .ok (.iadd, 1) := by decide +kernel
theorem dL_law_191 : decode cL_law 191 = .ok (.iaload, 1) := by decide +kernel
theorem dL_law_192 : decode cL_law 192 = .ok (.invokevirtual 86, 3) := by decide +kernel
theorem dL_law_195 : decode cL_law 195 = .ok (.istore 6, 2) := by decide +kernel
theorem dL_law_197 : decode cL_law 197 = .ok (.aload_n 2, 1) := by decide +kernel
theorem dL_law_198 : decode cL_law 198 = .ok (.invokevirtual 87, 3) := by decide +kernel
theorem dL_law_201 : decode cL_law 201 = .ok (.iload 5, 2) := by decide +kernel
theorem dL_law_203 : decode cL_law 203 = .ok (.if_icmp .eq 5, 3) := by decide +kernel
theorem dL_law_206 : decode cL_law 206 = .ok (.iconst 0, 1) := by decide +kernel
theorem dL_law_207 : decode cL_law 207 = .ok (.ireturn, 1) := by decide +kernel
theorem dL_law_208 : decode cL_law 208 = .ok (.iload 5, 2) := by decide +kernel
theorem dL_law_210 : decode cL_law 210 = .ok (.ifCond .ne 15, 3) := by decide +kernel
theorem dL_law_213 : decode cL_law 213 = .ok (.aload_n 3, 1) := by decide +kernel
theorem dL_law_214 : decode cL_law 214 = .ok (.iconst 0, 1) := by decide +kernel
theorem dL_law_215 : decode cL_law 215 = .ok (.laload, 1) := by decide +kernel
theorem dL_law_216 : decode cL_law 216 = .ok (.iload 6, 2) := by decide +kernel
theorem dL_law_218 : decode cL_law 218 = .ok (.i2l, 1) := by decide +kernel
theorem dL_law_219 : decode cL_law 219 = .ok (.lcmp, 1) := by decide +kernel
theorem dL_law_220 : decode cL_law 220 = .ok (.ifCond .eq 5, 3) := by decide +kernel
theorem dL_law_223 : decode cL_law 223 = .ok (.iconst 0, 1) := by decide +kernel
theorem dL_law_224 : decode cL_law 224 = .ok (.ireturn, 1) := by decide +kernel
theorem dL_law_225 : decode cL_law 225 = .ok (.goto 1246, 3) := by decide +kernel
theorem dL_law_228 : decode cL_law 228 = .ok (.aload_n 1, 1) := by decide +kernel
theorem dL_law_229 : decode cL_law 229 = .ok (.aload_n 0, 1) := by decide +kernel
theorem dL_law_230 : decode cL_law 230 = .ok (.iload 4, 2) := by decide +kernel
theorem dL_law_232 : decode cL_law 232 = .ok (.iconst 1, 1) := by decide +kernel
theorem dL_law_233 : decode cL_law 233 = .ok (.iadd, 1) := by decide +kernel
theorem dL_law_234 : decode cL_law 234 = .ok (.iaload, 1) := by decide +kernel
theorem dL_law_235 : decode cL_law 235 = .ok (.aload_n 0, 1) := by decide +kernel
theorem dL_law_236 : decode cL_law 236 = .ok (.iload 4, 2) := by decide +kernel
theorem dL_law_238 : decode cL_law 238 = .ok (.iconst 2, 1) := by decide +kernel
theorem dL_law_239 : decode cL_law 239 = .ok (.iadd, 1) := by decide +kernel
theorem dL_law_240 : decode cL_law 240 = .ok (.iaload, 1) := by decide +kernel
theorem dL_law_241 : decode cL_law 241 = .ok (.aload_n 3, 1) := by decide +kernel
theorem dL_law_242 : decode cL_law 242 = .ok (.invokestatic 90, 3) := by decide +kernel
theorem dL_law_245 : decode cL_law 245 = .ok (.istore 5, 2) := by decide +kernel
theorem dL_law_247 : decode cL_law 247 = .ok (.aload_n 2, 1) := by decide +kernel
theorem dL_law_248 : decode cL_law 248 = .ok (.aload_n 0, 1) := by decide +kernel
theorem dL_law_249 : decode cL_law 249 = .ok (.iload 4, 2) := by decide +kernel
theorem dL_law_251 : decode cL_law 251 = .ok (.iconst 1, 1) := by decide +kernel
theorem dL_law_252 : decode cL_law 252 = .ok (.iadd, 1) := by decide +kernel
theorem dL_law_253 : decode cL_law 253 = .ok (.iaload, 1) := by decide +kernel
theorem dL_law_254 : decode cL_law 254 = .ok (.aload_n 0, 1) := by decide +kernel
theorem dL_law_255 : decode cL_law 255 = .ok (.iload 4, 2) := by decide +kernel
theorem dL_law_257 : decode cL_law 257 = .ok (.iconst 2, 1) := by decide +kernel
theorem dL_law_258 : decode cL_law 258 = .ok (.iadd, 1) := by decide +kernel
theorem dL_law_259 : decode cL_law 259 = .ok (.iaload, 1) := by decide +kernel
theorem dL_law_260 : decode cL_law 260 = .ok (.invokevirtual 93, 3) := by decide +kernel
theorem dL_law_263 : decode cL_law 263 = .ok (.istore 6, 2) := by decide +kernel
theorem dL_law_265 : decode cL_law 265 = .ok (.aload_n 2, 1) := by decide +kernel
theorem dL_law_266 : decode cL_law 266 = .ok (.invokevirtual 87, 3) := by decide +kernel
theorem dL_law_269 : decode cL_law 269 = .ok (.iload 5, 2) := by decide +kernel
theorem dL_law_271 : decode cL_law 271 = .ok (.if_icmp .eq 5, 3) := by decide +kernel
theorem dL_law_274 : decode cL_law 274 = .ok (.iconst 0, 1) := by decide +kernel
theorem dL_law_275 : decode cL_law 275 = .ok (.ireturn, 1) := by decide +kernel
theorem dL_law_276 : decode cL_law 276 = .ok (.iload 5, 2) := by decide +kernel
theorem dL_law_278 : decode cL_law 278 = .ok (.ifCond .ne 15, 3) := by decide +kernel
theorem dL_law_281 : decode cL_law 281 = .ok (.aload_n 3, 1) := by decide +kernel
theorem dL_law_282 : decode cL_law 282 = .ok (.iconst 0, 1) := by decide +kernel
theorem dL_law_283 : decode cL_law 283 = .ok (.laload, 1) := by decide +kernel
theorem dL_law_284 : decode cL_law 284 = .ok (.iload 6, 2) := by decide +kernel
theorem dL_law_286 : decode cL_law 286 = .ok (.i2l, 1) := by decide +kernel
theorem dL_law_287 : decode cL_law 287 = .ok (.lcmp, 1) := by decide +kernel
theorem dL_law_288 : decode cL_law 288 = .ok (.ifCond .eq 5, 3) := by decide +kernel
theorem dL_law_291 : decode cL_law 291 = .ok (.iconst 0, 1) := by decide +kernel
theorem dL_law_292 : decode cL_law 292 = .ok (.ireturn, 1) := by decide +kernel
theorem dL_law_293 : decode cL_law 293 = .ok (.goto 1178, 3) := by decide +kernel
theorem dL_law_296 : decode cL_law 296 = .ok (.aload_n 1, 1) := by decide +kernel
theorem dL_law_297 : decode cL_law 297 = .ok (.aload_n 0, 1) := by decide +kernel
theorem dL_law_298 : decode cL_law 298 = .ok (.iload 4, 2) := by decide +kernel
theorem dL_law_300 : decode cL_law 300 = .ok (.iconst 1, 1) := by decide +kernel
theorem dL_law_301 : decode cL_law 301 = .ok (.iadd, 1) := by decide +kernel
theorem dL_law_302 : decode cL_law 302 = .ok (.iaload, 1) := by decide +kernel
theorem dL_law_303 : decode cL_law 303 = .ok (.aload_n 3, 1) := by decide +kernel
theorem dL_law_304 : decode cL_law 304 = .ok (.invokestatic 94, 3) := by decide +kernel
theorem dL_law_307 : decode cL_law 307 = .ok (.istore 5, 2) := by decide +kernel
theorem dL_law_309 : decode cL_law 309 = .ok (.aload_n 2, 1) := by decide +kernel
theorem dL_law_310 : decode cL_law 310 = .ok (.aload_n 0, 1) := by decide +kernel
theorem dL_law_311 : decode cL_law 311 = .ok (.iload 4, 2) := by decide +kernel
theorem dL_law_313 : decode cL_law 313 = .ok (.iconst 1, 1) := by decide +kernel
theorem dL_law_314 : decode cL_law 314 = .ok (.iadd, 1) := by decide +kernel
theorem dL_law_315 : decode cL_law 315 = .ok (.iaload, 1) := by decide +kernel
theorem dL_law_316 : decode cL_law 316 = .ok (.invokevirtual 97, 3) := by decide +kernel
theorem dL_law_319 : decode cL_law 319 = .ok (.istore 6, 2) := by decide +kernel
theorem dL_law_321 : decode cL_law 321 = .ok (.aload_n 2, 1) := by decide +kernel
theorem dL_law_322 : decode cL_law 322 = .ok (.invokevirtual 87, 3) := by decide +kernel
theorem dL_law_325 : decode cL_law 325 = .ok (.iload 5, 2) := by decide +kernel
theorem dL_law_327 : decode cL_law 327 = .ok (.if_icmp .eq 5, 3) := by decide +kernel
theorem dL_law_330 : decode cL_law 330 = .ok (.iconst 0, 1) := by decide +kernel
theorem dL_law_331 : decode cL_law 331 = .ok (.ireturn, 1) := by decide +kernel
theorem dL_law_332 : decode cL_law 332 = .ok (.iload 5, 2) := by decide +kernel
theorem dL_law_334 : decode cL_law 334 = .ok (.ifCond .ne 15, 3) := by decide +kernel
theorem dL_law_337 : decode cL_law 337 = .ok (.aload_n 3, 1) := by decide +kernel
theorem dL_law_338 : decode cL_law 338 = .ok (.iconst 0, 1) := by decide +kernel
theorem dL_law_339 : decode cL_law 339 = .ok (.laload, 1) := by decide +kernel
theorem dL_law_340 : decode cL_law 340 = .ok (.iload 6, 2) := by decide +kernel
theorem dL_law_342 : decode cL_law 342 = .ok (.i2l, 1) := by decide +kernel
theorem dL_law_343 : decode cL_law 343 = .ok (.lcmp, 1) := by decide +kernel
theorem dL_law_344 : decode cL_law 344 = .ok (.ifCond .eq 5, 3) := by decide +kernel
theorem dL_law_347 : decode cL_law 347 = .ok (.iconst 0, 1) := by decide +kernel
theorem dL_law_348 : decode cL_law 348 = .ok (.ireturn, 1) := by decide +kernel
theorem dL_law_349 : decode cL_law 349 = .ok (.goto 1122, 3) := by decide +kernel
theorem dL_law_352 : decode cL_law 352 = .ok (.aload_n 1, 1) := by decide +kernel
theorem dL_law_353 : decode cL_law 353 = .ok (.aload_n 0, 1) := by decide +kernel
theorem dL_law_354 : decode cL_law 354 = .ok (.iload 4, 2) := by decide +kernel
theorem dL_law_356 : decode cL_law 356 = .ok (.iconst 1, 1) := by decide +kernel
theorem dL_law_357 : decode cL_law 357 = .ok (.iadd, 1) := by decide +kernel
theorem dL_law_358 : decode cL_law 358 = .ok (.iaload, 1) := by decide +kernel
theorem dL_law_359 : decode cL_law 359 = .ok (.aload_n 0, 1) := by decide +kernel
theorem dL_law_360 : decode cL_law 360 = .ok (.iload 4, 2) := by decide +kernel
theorem dL_law_362 : decode cL_law 362 = .ok (.iconst 2, 1) := by decide +kernel
theorem dL_law_363 : decode cL_law 363 = .ok (.iadd, 1) := by decide +kernel
theorem dL_law_364 : decode cL_law 364 = .ok (.iaload, 1) := by decide +kernel
theorem dL_law_365 : decode cL_law 365 = .ok (.aload_n 3, 1) := by decide +kernel
theorem dL_law_366 : decode cL_law 366 = .ok (.invokestatic 98, 3) := by decide +kernel
theorem dL_law_369 : decode cL_law 369 = .ok (.istore 5, 2) := by decide +kernel
theorem dL_law_371 : decode cL_law 371 = .ok (.aload_n 2, 1) := by decide +kernel
theorem dL_law_372 : decode cL_law 372 = .ok (.aload_n 0, 1) := by decide +kernel
theorem dL_law_373 : decode cL_law 373 = .ok (.iload 4, 2) := by decide +kernel
theorem dL_law_375 : decode cL_law 375 = .ok (.iconst 1, 1) := by decide +kernel
theorem dL_law_376 : decode cL_law 376 = .ok (.iadd, 1) := by decide +kernel
theorem dL_law_377 : decode cL_law 377 = .ok (.iaload, 1) := by decide +kernel
theorem dL_law_378 : decode cL_law 378 = .ok (.aload_n 0, 1) := by decide +kernel
theorem dL_law_379 : decode cL_law 379 = .ok (.iload 4, 2) := by decide +kernel
theorem dL_law_381 : decode cL_law 381 = .ok (.iconst 2, 1) := by decide +kernel
theorem dL_law_382 : decode cL_law 382 = .ok (.iadd, 1) := by decide +kernel
theorem dL_law_383 : decode cL_law 383 = .ok (.iaload, 1) := by decide +kernel
theorem dL_law_384 : decode cL_law 384 = .ok (.invokevirtual 100, 3) := by decide +kernel
theorem dL_law_387 : decode cL_law 387 = .ok (.istore 6, 2) := by decide +kernel
theorem dL_law_389 : decode cL_law 389 = .ok (.aload_n 2, 1) := by decide +kernel
theorem dL_law_390 : decode cL_law 390 = .ok (.invokevirtual 87, 3) := by decide +kernel
theorem dL_law_393 : decode cL_law 393 = .ok (.iload 5, 2) := by decide +kernel
theorem dL_law_395 : decode cL_law 395 = .ok (.if_icmp .eq 5, 3) := by decide +kernel
theorem dL_law_398 : decode cL_law 398 = .ok (.iconst 0, 1) := by decide +kernel
theorem dL_law_399 : decode cL_law 399 = .ok (.ireturn, 1) := by decide +kernel
theorem dL_law_400 : decode cL_law 400 = .ok (.iload 5, 2) := by decide +kernel
theorem dL_law_402 : decode cL_law 402 = .ok (.ifCond .ne 15, 3) := by decide +kernel
theorem dL_law_405 : decode cL_law 405 = .ok (.aload_n 3, 1) := by decide +kernel
theorem dL_law_406 : decode cL_law 406 = .ok (.iconst 0, 1) := by decide +kernel
theorem dL_law_407 : decode cL_law 407 = .ok (.laload, 1) := by decide +kernel
theorem dL_law_408 : decode cL_law 408 = .ok (.iload 6, 2) := by decide +kernel
theorem dL_law_410 : decode cL_law 410 = .ok (.i2l, 1) := by decide +kernel
theorem dL_law_411 : decode cL_law 411 = .ok (.lcmp, 1) := by decide +kernel
theorem dL_law_412 : decode cL_law 412 = .ok (.ifCond .eq 5, 3) := by decide +kernel
theorem dL_law_415 : decode cL_law 415 = .ok (.iconst 0, 1) := by decide +kernel
theorem dL_law_416 : decode cL_law 416 = .ok (.ireturn, 1) := by decide +kernel
theorem dL_law_417 : decode cL_law 417 = .ok (.goto 1054, 3) := by decide +kernel
theorem dL_law_420 : decode cL_law 420 = .ok (.aload_n 1, 1) := by decide +kernel
theorem dL_law_421 : decode cL_law 421 = .ok (.aload_n 0, 1) := by decide +kernel
theorem dL_law_422 : decode cL_law 422 = .ok (.iload 4, 2) := by decide +kernel
theorem dL_law_424 : decode cL_law 424 = .ok (.iconst 1, 1) := by decide +kernel
theorem dL_law_425 : decode cL_law 425 = .ok (.iadd, 1) := by decide +kernel
theorem dL_law_426 : decode cL_law 426 = .ok (.iaload, 1) := by decide +kernel
theorem dL_law_427 : decode cL_law 427 = .ok (.aload_n 0, 1) := by decide +kernel
theorem dL_law_428 : decode cL_law 428 = .ok (.iload 4, 2) := by decide +kernel
theorem dL_law_430 : decode cL_law 430 = .ok (.iconst 2, 1) := by decide +kernel
theorem dL_law_431 : decode cL_law 431 = .ok (.iadd, 1) := by decide +kernel
theorem dL_law_432 : decode cL_law 432 = .ok (.iaload, 1) := by decide +kernel
theorem dL_law_433 : decode cL_law 433 = .ok (.aload_n 0, 1) := by decide +kernel
theorem dL_law_434 : decode cL_law 434 = .ok (.iload 4, 2) := by decide +kernel
theorem dL_law_436 : decode cL_law 436 = .ok (.iconst 3, 1) := by decide +kernel
theorem dL_law_437 : decode cL_law 437 = .ok (.iadd, 1) := by decide +kernel
theorem dL_law_438 : decode cL_law 438 = .ok (.iaload, 1) := by decide +kernel
theorem dL_law_439 : decode cL_law 439 = .ok (.aload_n 3, 1) := by decide +kernel
theorem dL_law_440 : decode cL_law 440 = .ok (.invokestatic 101, 3) := by decide +kernel
theorem dL_law_443 : decode cL_law 443 = .ok (.istore 5, 2) := by decide +kernel
theorem dL_law_445 : decode cL_law 445 = .ok (.aload_n 2, 1) := by decide +kernel
theorem dL_law_446 : decode cL_law 446 = .ok (.aload_n 0, 1) := by decide +kernel
theorem dL_law_447 : decode cL_law 447 = .ok (.iload 4, 2) := by decide +kernel
theorem dL_law_449 : decode cL_law 449 = .ok (.iconst 1, 1) := by decide +kernel
theorem dL_law_450 : decode cL_law 450 = .ok (.iadd, 1) := by decide +kernel
theorem dL_law_451 : decode cL_law 451 = .ok (.iaload, 1) := by decide +kernel
theorem dL_law_452 : decode cL_law 452 = .ok (.aload_n 0, 1) := by decide +kernel
theorem dL_law_453 : decode cL_law 453 = .ok (.iload 4, 2) := by decide +kernel
theorem dL_law_455 : decode cL_law 455 = .ok (.iconst 2, 1) := by decide +kernel
theorem dL_law_456 : decode cL_law 456 = .ok (.iadd, 1) := by decide +kernel
theorem dL_law_457 : decode cL_law 457 = .ok (.iaload, 1) := by decide +kernel
theorem dL_law_458 : decode cL_law 458 = .ok (.aload_n 0, 1) := by decide +kernel
theorem dL_law_459 : decode cL_law 459 = .ok (.iload 4, 2) := by decide +kernel
theorem dL_law_461 : decode cL_law 461 = .ok (.iconst 3, 1) := by decide +kernel
theorem dL_law_462 : decode cL_law 462 = .ok (.iadd, 1) := by decide +kernel
theorem dL_law_463 : decode cL_law 463 = .ok (.iaload, 1) := by decide +kernel
theorem dL_law_464 : decode cL_law 464 = .ok (.invokevirtual 104, 3) := by decide +kernel
theorem dL_law_467 : decode cL_law 467 = .ok (.istore 6, 2) := by decide +kernel
theorem dL_law_469 : decode cL_law 469 = .ok (.aload_n 2, 1) := by decide +kernel
theorem dL_law_470 : decode cL_law 470 = .ok (.invokevirtual 87, 3) := by decide +kernel
theorem dL_law_473 : decode cL_law 473 = .ok (.iload 5, 2) := by decide +kernel
theorem dL_law_475 : decode cL_law 475 = .ok (.if_icmp .eq 5, 3) := by decide +kernel
theorem dL_law_478 : decode cL_law 478 = .ok (.iconst 0, 1) := by decide +kernel
theorem dL_law_479 : decode cL_law 479 = .ok (.ireturn, 1) := by decide +kernel
theorem dL_law_480 : decode cL_law 480 = .ok (.iload 5, 2) := by decide +kernel
theorem dL_law_482 : decode cL_law 482 = .ok (.ifCond .ne 15, 3) := by decide +kernel
theorem dL_law_485 : decode cL_law 485 = .ok (.aload_n 3, 1) := by decide +kernel
theorem dL_law_486 : decode cL_law 486 = .ok (.iconst 0, 1) := by decide +kernel
theorem dL_law_487 : decode cL_law 487 = .ok (.laload, 1) := by decide +kernel
theorem dL_law_488 : decode cL_law 488 = .ok (.iload 6, 2) := by decide +kernel
theorem dL_law_490 : decode cL_law 490 = .ok (.i2l, 1) := by decide +kernel
theorem dL_law_491 : decode cL_law 491 = .ok (.lcmp, 1) := by decide +kernel
theorem dL_law_492 : decode cL_law 492 = .ok (.ifCond .eq 5, 3) := by decide +kernel
theorem dL_law_495 : decode cL_law 495 = .ok (.iconst 0, 1) := by decide +kernel
theorem dL_law_496 : decode cL_law 496 = .ok (.ireturn, 1) := by decide +kernel
theorem dL_law_497 : decode cL_law 497 = .ok (.goto 974, 3) := by decide +kernel
theorem dL_law_500 : decode cL_law 500 = .ok (.aload_n 1, 1) := by decide +kernel
theorem dL_law_501 : decode cL_law 501 = .ok (.aload_n 0, 1) := by decide +kernel
theorem dL_law_502 : decode cL_law 502 = .ok (.iload 4, 2) := by decide +kernel
theorem dL_law_504 : decode cL_law 504 = .ok (.iconst 1, 1) := by decide +kernel
theorem dL_law_505 : decode cL_law 505 = .ok (.iadd, 1) := by decide +kernel
theorem dL_law_506 : decode cL_law 506 = .ok (.iaload, 1) := by decide +kernel
theorem dL_law_507 : decode cL_law 507 = .ok (.aload_n 0, 1) := by decide +kernel
theorem dL_law_508 : decode cL_law 508 = .ok (.iload 4, 2) := by decide +kernel
theorem dL_law_510 : decode cL_law 510 = .ok (.iconst 2, 1) := by decide +kernel
theorem dL_law_511 : decode cL_law 511 = .ok (.iadd, 1) := by decide +kernel
theorem dL_law_512 : decode cL_law 512 = .ok (.iaload, 1) := by decide +kernel
theorem dL_law_513 : decode cL_law 513 = .ok (.aload_n 3, 1) := by decide +kernel
theorem dL_law_514 : decode cL_law 514 = .ok (.invokestatic 105, 3) := by decide +kernel
theorem dL_law_517 : decode cL_law 517 = .ok (.istore 5, 2) := by decide +kernel
theorem dL_law_519 : decode cL_law 519 = .ok (.aload_n 2, 1) := by decide +kernel
theorem dL_law_520 : decode cL_law 520 = .ok (.aload_n 0, 1) := by decide +kernel
theorem dL_law_521 : decode cL_law 521 = .ok (.iload 4, 2) := by decide +kernel
theorem dL_law_523 : decode cL_law 523 = .ok (.iconst 1, 1) := by decide +kernel
theorem dL_law_524 : decode cL_law 524 = .ok (.iadd, 1) := by decide +kernel
theorem dL_law_525 : decode cL_law 525 = .ok (.iaload, 1) := by decide +kernel
theorem dL_law_526 : decode cL_law 526 = .ok (.aload_n 0, 1) := by decide +kernel
theorem dL_law_527 : decode cL_law 527 = .ok (.iload 4, 2) := by decide +kernel
theorem dL_law_529 : decode cL_law 529 = .ok (.iconst 2, 1) := by decide +kernel
theorem dL_law_530 : decode cL_law 530 = .ok (.iadd, 1) := by decide +kernel
theorem dL_law_531 : decode cL_law 531 = .ok (.iaload, 1) := by decide +kernel
theorem dL_law_532 : decode cL_law 532 = .ok (.invokevirtual 107, 3) := by decide +kernel
theorem dL_law_535 : decode cL_law 535 = .ok (.istore 6, 2) := by decide +kernel
theorem dL_law_537 : decode cL_law 537 = .ok (.aload_n 2, 1) := by decide +kernel
theorem dL_law_538 : decode cL_law 538 = .ok (.invokevirtual 87, 3) := by decide +kernel
theorem dL_law_541 : decode cL_law 541 = .ok (.iload 5, 2) := by decide +kernel
theorem dL_law_543 : decode cL_law 543 = .ok (.if_icmp .eq 5, 3) := by decide +kernel
theorem dL_law_546 : decode cL_law 546 = .ok (.iconst 0, 1) := by decide +kernel
theorem dL_law_547 : decode cL_law 547 = .ok (.ireturn, 1) := by decide +kernel
theorem dL_law_548 : decode cL_law 548 = .ok (.iload 5, 2) := by decide +kernel
theorem dL_law_550 : decode cL_law 550 = .ok (.ifCond .ne 15, 3) := by decide +kernel
theorem dL_law_553 : decode cL_law 553 = .ok (.aload_n 3, 1) := by decide +kernel
theorem dL_law_554 : decode cL_law 554 = .ok (.iconst 0, 1) := by decide +kernel
theorem dL_law_555 : decode cL_law 555 = .ok (.laload, 1) := by decide +kernel
theorem dL_law_556 : decode cL_law 556 = .ok (.iload 6, 2) := by decide +kernel
theorem dL_law_558 : decode cL_law 558 = .ok (.i2l, 1) := by decide +kernel
theorem dL_law_559 : decode cL_law 559 = .ok (.lcmp, 1) := by decide +kernel
theorem dL_law_560 : decode cL_law 560 = .ok (.ifCond .eq 5, 3) := by decide +kernel
theorem dL_law_563 : decode cL_law 563 = .ok (.iconst 0, 1) := by decide +kernel
theorem dL_law_564 : decode cL_law 564 = .ok (.ireturn, 1) := by decide +kernel
theorem dL_law_565 : decode cL_law 565 = .ok (.goto 906, 3) := by decide +kernel
theorem dL_law_568 : decode cL_law 568 = .ok (.aload_n 1, 1) := by decide +kernel
theorem dL_law_569 : decode cL_law 569 = .ok (.aload_n 0, 1) := by decide +kernel
theorem dL_law_570 : decode cL_law 570 = .ok (.iload 4, 2) := by decide +kernel
theorem dL_law_572 : decode cL_law 572 = .ok (.iconst 1, 1) := by decide +kernel
theorem dL_law_573 : decode cL_law 573 = .ok (.iadd, 1) := by decide +kernel
theorem dL_law_574 : decode cL_law 574 = .ok (.iaload, 1) := by decide +kernel
theorem dL_law_575 : decode cL_law 575 = .ok (.aload_n 0, 1) := by decide +kernel
theorem dL_law_576 : decode cL_law 576 = .ok (.iload 4, 2) := by decide +kernel
theorem dL_law_578 : decode cL_law 578 = .ok (.iconst 2, 1) := by decide +kernel
theorem dL_law_579 : decode cL_law 579 = .ok (.iadd, 1) := by decide +kernel
theorem dL_law_580 : decode cL_law 580 = .ok (.iaload, 1) := by decide +kernel
theorem dL_law_581 : decode cL_law 581 = .ok (.aload_n 0, 1) := by decide +kernel
theorem dL_law_582 : decode cL_law 582 = .ok (.iload 4, 2) := by decide +kernel
theorem dL_law_584 : decode cL_law 584 = .ok (.iconst 3, 1) := by decide +kernel
theorem dL_law_585 : decode cL_law 585 = .ok (.iadd, 1) := by decide +kernel
theorem dL_law_586 : decode cL_law 586 = .ok (.iaload, 1) := by decide +kernel
theorem dL_law_587 : decode cL_law 587 = .ok (.aload_n 3, 1) := by decide +kernel
theorem dL_law_588 : decode cL_law 588 = .ok (.invokestatic 108, 3) := by decide +kernel
theorem dL_law_591 : decode cL_law 591 = .ok (.istore 5, 2) := by decide +kernel
theorem dL_law_593 : decode cL_law 593 = .ok (.aload_n 2, 1) := by decide +kernel
theorem dL_law_594 : decode cL_law 594 = .ok (.aload_n 0, 1) := by decide +kernel
theorem dL_law_595 : decode cL_law 595 = .ok (.iload 4, 2) := by decide +kernel
theorem dL_law_597 : decode cL_law 597 = .ok (.iconst 1, 1) := by decide +kernel
theorem dL_law_598 : decode cL_law 598 = .ok (.iadd, 1) := by decide +kernel
theorem dL_law_599 : decode cL_law 599 = .ok (.iaload, 1) := by decide +kernel
theorem dL_law_600 : decode cL_law 600 = .ok (.aload_n 0, 1) := by decide +kernel
theorem dL_law_601 : decode cL_law 601 = .ok (.iload 4, 2) := by decide +kernel
theorem dL_law_603 : decode cL_law 603 = .ok (.iconst 2, 1) := by decide +kernel
theorem dL_law_604 : decode cL_law 604 = .ok (.iadd, 1) := by decide +kernel
theorem dL_law_605 : decode cL_law 605 = .ok (.iaload, 1) := by decide +kernel
theorem dL_law_606 : decode cL_law 606 = .ok (.aload_n 0, 1) := by decide +kernel
theorem dL_law_607 : decode cL_law 607 = .ok (.iload 4, 2) := by decide +kernel
theorem dL_law_609 : decode cL_law 609 = .ok (.iconst 3, 1) := by decide +kernel
theorem dL_law_610 : decode cL_law 610 = .ok (.iadd, 1) := by decide +kernel
theorem dL_law_611 : decode cL_law 611 = .ok (.iaload, 1) := by decide +kernel
theorem dL_law_612 : decode cL_law 612 = .ok (.invokevirtual 110, 3) := by decide +kernel
theorem dL_law_615 : decode cL_law 615 = .ok (.istore 6, 2) := by decide +kernel
theorem dL_law_617 : decode cL_law 617 = .ok (.aload_n 2, 1) := by decide +kernel
theorem dL_law_618 : decode cL_law 618 = .ok (.invokevirtual 87, 3) := by decide +kernel
theorem dL_law_621 : decode cL_law 621 = .ok (.iload 5, 2) := by decide +kernel
theorem dL_law_623 : decode cL_law 623 = .ok (.if_icmp .eq 5, 3) := by decide +kernel
theorem dL_law_626 : decode cL_law 626 = .ok (.iconst 0, 1) := by decide +kernel
theorem dL_law_627 : decode cL_law 627 = .ok (.ireturn, 1) := by decide +kernel
theorem dL_law_628 : decode cL_law 628 = .ok (.iload 5, 2) := by decide +kernel
theorem dL_law_630 : decode cL_law 630 = .ok (.ifCond .ne 15, 3) := by decide +kernel
theorem dL_law_633 : decode cL_law 633 = .ok (.aload_n 3, 1) := by decide +kernel
theorem dL_law_634 : decode cL_law 634 = .ok (.iconst 0, 1) := by decide +kernel
theorem dL_law_635 : decode cL_law 635 = .ok (.laload, 1) := by decide +kernel
theorem dL_law_636 : decode cL_law 636 = .ok (.iload 6, 2) := by decide +kernel
theorem dL_law_638 : decode cL_law 638 = .ok (.i2l, 1) := by decide +kernel
theorem dL_law_639 : decode cL_law 639 = .ok (.lcmp, 1) := by decide +kernel
theorem dL_law_640 : decode cL_law 640 = .ok (.ifCond .eq 5, 3) := by decide +kernel
theorem dL_law_643 : decode cL_law 643 = .ok (.iconst 0, 1) := by decide +kernel
theorem dL_law_644 : decode cL_law 644 = .ok (.ireturn, 1) := by decide +kernel
theorem dL_law_645 : decode cL_law 645 = .ok (.goto 826, 3) := by decide +kernel
theorem dL_law_648 : decode cL_law 648 = .ok (.aload_n 1, 1) := by decide +kernel
theorem dL_law_649 : decode cL_law 649 = .ok (.aload_n 0, 1) := by decide +kernel
theorem dL_law_650 : decode cL_law 650 = .ok (.iload 4, 2) := by decide +kernel
theorem dL_law_652 : decode cL_law 652 = .ok (.iconst 1, 1) := by decide +kernel
theorem dL_law_653 : decode cL_law 653 = .ok (.iadd, 1) := by decide +kernel
theorem dL_law_654 : decode cL_law 654 = .ok (.iaload, 1) := by decide +kernel
theorem dL_law_655 : decode cL_law 655 = .ok (.aload_n 0, 1) := by decide +kernel
theorem dL_law_656 : decode cL_law 656 = .ok (.iload 4, 2) := by decide +kernel
theorem dL_law_658 : decode cL_law 658 = .ok (.iconst 2, 1) := by decide +kernel
theorem dL_law_659 : decode cL_law 659 = .ok (.iadd, 1) := by decide +kernel
theorem dL_law_660 : decode cL_law 660 = .ok (.iaload, 1) := by decide +kernel
theorem dL_law_661 : decode cL_law 661 = .ok (.aload_n 3, 1) := by decide +kernel
theorem dL_law_662 : decode cL_law 662 = .ok (.invokestatic 111, 3) := by decide +kernel
theorem dL_law_665 : decode cL_law 665 = .ok (.istore 5, 2) := by decide +kernel
theorem dL_law_667 : decode cL_law 667 = .ok (.aload_n 2, 1) := by decide +kernel
theorem dL_law_668 : decode cL_law 668 = .ok (.aload_n 0, 1) := by decide +kernel
theorem dL_law_669 : decode cL_law 669 = .ok (.iload 4, 2) := by decide +kernel
theorem dL_law_671 : decode cL_law 671 = .ok (.iconst 1, 1) := by decide +kernel
theorem dL_law_672 : decode cL_law 672 = .ok (.iadd, 1) := by decide +kernel
theorem dL_law_673 : decode cL_law 673 = .ok (.iaload, 1) := by decide +kernel
theorem dL_law_674 : decode cL_law 674 = .ok (.aload_n 0, 1) := by decide +kernel
theorem dL_law_675 : decode cL_law 675 = .ok (.iload 4, 2) := by decide +kernel
theorem dL_law_677 : decode cL_law 677 = .ok (.iconst 2, 1) := by decide +kernel
theorem dL_law_678 : decode cL_law 678 = .ok (.iadd, 1) := by decide +kernel
theorem dL_law_679 : decode cL_law 679 = .ok (.iaload, 1) := by decide +kernel
theorem dL_law_680 : decode cL_law 680 = .ok (.invokevirtual 113, 3) := by decide +kernel
theorem dL_law_683 : decode cL_law 683 = .ok (.istore 6, 2) := by decide +kernel
theorem dL_law_685 : decode cL_law 685 = .ok (.aload_n 2, 1) := by decide +kernel
theorem dL_law_686 : decode cL_law 686 = .ok (.invokevirtual 87, 3) := by decide +kernel
theorem dL_law_689 : decode cL_law 689 = .ok (.iload 5, 2) := by decide +kernel
theorem dL_law_691 : decode cL_law 691 = .ok (.if_icmp .eq 5, 3) := by decide +kernel
theorem dL_law_694 : decode cL_law 694 = .ok (.iconst 0, 1) := by decide +kernel
theorem dL_law_695 : decode cL_law 695 = .ok (.ireturn, 1) := by decide +kernel
theorem dL_law_696 : decode cL_law 696 = .ok (.iload 5, 2) := by decide +kernel
theorem dL_law_698 : decode cL_law 698 = .ok (.ifCond .ne 15, 3) := by decide +kernel
theorem dL_law_701 : decode cL_law 701 = .ok (.aload_n 3, 1) := by decide +kernel
theorem dL_law_702 : decode cL_law 702 = .ok (.iconst 0, 1) := by decide +kernel
theorem dL_law_703 : decode cL_law 703 = .ok (.laload, 1) := by decide +kernel
theorem dL_law_704 : decode cL_law 704 = .ok (.iload 6, 2) := by decide +kernel
theorem dL_law_706 : decode cL_law 706 = .ok (.i2l, 1) := by decide +kernel
theorem dL_law_707 : decode cL_law 707 = .ok (.lcmp, 1) := by decide +kernel
theorem dL_law_708 : decode cL_law 708 = .ok (.ifCond .eq 5, 3) := by decide +kernel
theorem dL_law_711 : decode cL_law 711 = .ok (.iconst 0, 1) := by decide +kernel
theorem dL_law_712 : decode cL_law 712 = .ok (.ireturn, 1) := by decide +kernel
theorem dL_law_713 : decode cL_law 713 = .ok (.goto 758, 3) := by decide +kernel
theorem dL_law_716 : decode cL_law 716 = .ok (.aload_n 1, 1) := by decide +kernel
theorem dL_law_717 : decode cL_law 717 = .ok (.aload_n 0, 1) := by decide +kernel
theorem dL_law_718 : decode cL_law 718 = .ok (.iload 4, 2) := by decide +kernel
theorem dL_law_720 : decode cL_law 720 = .ok (.iconst 1, 1) := by decide +kernel
theorem dL_law_721 : decode cL_law 721 = .ok (.iadd, 1) := by decide +kernel
theorem dL_law_722 : decode cL_law 722 = .ok (.iaload, 1) := by decide +kernel
theorem dL_law_723 : decode cL_law 723 = .ok (.aload_n 0, 1) := by decide +kernel
theorem dL_law_724 : decode cL_law 724 = .ok (.iload 4, 2) := by decide +kernel
theorem dL_law_726 : decode cL_law 726 = .ok (.iconst 2, 1) := by decide +kernel
theorem dL_law_727 : decode cL_law 727 = .ok (.iadd, 1) := by decide +kernel
theorem dL_law_728 : decode cL_law 728 = .ok (.iaload, 1) := by decide +kernel
theorem dL_law_729 : decode cL_law 729 = .ok (.aload_n 3, 1) := by decide +kernel
theorem dL_law_730 : decode cL_law 730 = .ok (.invokestatic 114, 3) := by decide +kernel
theorem dL_law_733 : decode cL_law 733 = .ok (.istore 5, 2) := by decide +kernel
theorem dL_law_735 : decode cL_law 735 = .ok (.aload_n 2, 1) := by decide +kernel
theorem dL_law_736 : decode cL_law 736 = .ok (.aload_n 0, 1) := by decide +kernel
theorem dL_law_737 : decode cL_law 737 = .ok (.iload 4, 2) := by decide +kernel
theorem dL_law_739 : decode cL_law 739 = .ok (.iconst 1, 1) := by decide +kernel
theorem dL_law_740 : decode cL_law 740 = .ok (.iadd, 1) := by decide +kernel
theorem dL_law_741 : decode cL_law 741 = .ok (.iaload, 1) := by decide +kernel
theorem dL_law_742 : decode cL_law 742 = .ok (.aload_n 0, 1) := by decide +kernel
theorem dL_law_743 : decode cL_law 743 = .ok (.iload 4, 2) := by decide +kernel
theorem dL_law_745 : decode cL_law 745 = .ok (.iconst 2, 1) := by decide +kernel
theorem dL_law_746 : decode cL_law 746 = .ok (.iadd, 1) := by decide +kernel
theorem dL_law_747 : decode cL_law 747 = .ok (.iaload, 1) := by decide +kernel
theorem dL_law_748 : decode cL_law 748 = .ok (.invokevirtual 116, 3) := by decide +kernel
theorem dL_law_751 : decode cL_law 751 = .ok (.istore 6, 2) := by decide +kernel
theorem dL_law_753 : decode cL_law 753 = .ok (.aload_n 2, 1) := by decide +kernel
theorem dL_law_754 : decode cL_law 754 = .ok (.invokevirtual 87, 3) := by decide +kernel
theorem dL_law_757 : decode cL_law 757 = .ok (.iload 5, 2) := by decide +kernel
theorem dL_law_759 : decode cL_law 759 = .ok (.if_icmp .eq 5, 3) := by decide +kernel
theorem dL_law_762 : decode cL_law 762 = .ok (.iconst 0, 1) := by decide +kernel
theorem dL_law_763 : decode cL_law 763 = .ok (.ireturn, 1) := by decide +kernel
theorem dL_law_764 : decode cL_law 764 = .ok (.iload 5, 2) := by decide +kernel
theorem dL_law_766 : decode cL_law 766 = .ok (.ifCond .ne 15, 3) := by decide +kernel
theorem dL_law_769 : decode cL_law 769 = .ok (.aload_n 3, 1) := by decide +kernel
theorem dL_law_770 : decode cL_law 770 = .ok (.iconst 0, 1) := by decide +kernel
theorem dL_law_771 : decode cL_law 771 = .ok (.laload, 1) := by decide +kernel
theorem dL_law_772 : decode cL_law 772 = .ok (.iload 6, 2) := by decide +kernel
theorem dL_law_774 : decode cL_law 774 = .ok (.i2l, 1) := by decide +kernel
theorem dL_law_775 : decode cL_law 775 = .ok (.lcmp, 1) := by decide +kernel
theorem dL_law_776 : decode cL_law 776 = .ok (.ifCond .eq 5, 3) := by decide +kernel
theorem dL_law_779 : decode cL_law 779 = .ok (.iconst 0, 1) := by decide +kernel
theorem dL_law_780 : decode cL_law 780 = .ok (.ireturn, 1) := by decide +kernel
theorem dL_law_781 : decode cL_law 781 = .ok (.goto 690, 3) := by decide +kernel
theorem dL_law_784 : decode cL_law 784 = .ok (.aload_n 1, 1) := by decide +kernel
theorem dL_law_785 : decode cL_law 785 = .ok (.aload_n 0, 1) := by decide +kernel
theorem dL_law_786 : decode cL_law 786 = .ok (.iload 4, 2) := by decide +kernel
theorem dL_law_788 : decode cL_law 788 = .ok (.iconst 1, 1) := by decide +kernel
theorem dL_law_789 : decode cL_law 789 = .ok (.iadd, 1) := by decide +kernel
theorem dL_law_790 : decode cL_law 790 = .ok (.iaload, 1) := by decide +kernel
theorem dL_law_791 : decode cL_law 791 = .ok (.aload_n 0, 1) := by decide +kernel
theorem dL_law_792 : decode cL_law 792 = .ok (.iload 4, 2) := by decide +kernel
theorem dL_law_794 : decode cL_law 794 = .ok (.iconst 2, 1) := by decide +kernel
theorem dL_law_795 : decode cL_law 795 = .ok (.iadd, 1) := by decide +kernel
theorem dL_law_796 : decode cL_law 796 = .ok (.iaload, 1) := by decide +kernel
theorem dL_law_797 : decode cL_law 797 = .ok (.aload_n 3, 1) := by decide +kernel
theorem dL_law_798 : decode cL_law 798 = .ok (.invokestatic 117, 3) := by decide +kernel
theorem dL_law_801 : decode cL_law 801 = .ok (.istore 5, 2) := by decide +kernel
theorem dL_law_803 : decode cL_law 803 = .ok (.aload_n 2, 1) := by decide +kernel
theorem dL_law_804 : decode cL_law 804 = .ok (.aload_n 0, 1) := by decide +kernel
theorem dL_law_805 : decode cL_law 805 = .ok (.iload 4, 2) := by decide +kernel
theorem dL_law_807 : decode cL_law 807 = .ok (.iconst 1, 1) := by decide +kernel
theorem dL_law_808 : decode cL_law 808 = .ok (.iadd, 1) := by decide +kernel
theorem dL_law_809 : decode cL_law 809 = .ok (.iaload, 1) := by decide +kernel
theorem dL_law_810 : decode cL_law 810 = .ok (.aload_n 0, 1) := by decide +kernel
theorem dL_law_811 : decode cL_law 811 = .ok (.iload 4, 2) := by decide +kernel
theorem dL_law_813 : decode cL_law 813 = .ok (.iconst 2, 1) := by decide +kernel
theorem dL_law_814 : decode cL_law 814 = .ok (.iadd, 1) := by decide +kernel
theorem dL_law_815 : decode cL_law 815 = .ok (.iaload, 1) := by decide +kernel
theorem dL_law_816 : decode cL_law 816 = .ok (.invokevirtual 119, 3) := by decide +kernel
theorem dL_law_819 : decode cL_law 819 = .ok (.istore 6, 2) := by decide +kernel
theorem dL_law_821 : decode cL_law 821 = .ok (.aload_n 2, 1) := by decide +kernel
theorem dL_law_822 : decode cL_law 822 = .ok (.invokevirtual 87, 3) := by decide +kernel
theorem dL_law_825 : decode cL_law 825 = .ok (.iload 5, 2) := by decide +kernel
theorem dL_law_827 : decode cL_law 827 = .ok (.if_icmp .eq 5, 3) := by decide +kernel
theorem dL_law_830 : decode cL_law 830 = .ok (.iconst 0, 1) := by decide +kernel
theorem dL_law_831 : decode cL_law 831 = .ok (.ireturn, 1) := by decide +kernel
theorem dL_law_832 : decode cL_law 832 = .ok (.iload 5, 2) := by decide +kernel
theorem dL_law_834 : decode cL_law 834 = .ok (.ifCond .ne 15, 3) := by decide +kernel
theorem dL_law_837 : decode cL_law 837 = .ok (.aload_n 3, 1) := by decide +kernel
theorem dL_law_838 : decode cL_law 838 = .ok (.iconst 0, 1) := by decide +kernel
theorem dL_law_839 : decode cL_law 839 = .ok (.laload, 1) := by decide +kernel
theorem dL_law_840 : decode cL_law 840 = .ok (.iload 6, 2) := by decide +kernel
theorem dL_law_842 : decode cL_law 842 = .ok (.i2l, 1) := by decide +kernel
theorem dL_law_843 : decode cL_law 843 = .ok (.lcmp, 1) := by decide +kernel
theorem dL_law_844 : decode cL_law 844 = .ok (.ifCond .eq 5, 3) := by decide +kernel
theorem dL_law_847 : decode cL_law 847 = .ok (.iconst 0, 1) := by decide +kernel
theorem dL_law_848 : decode cL_law 848 = .ok (.ireturn, 1) := by decide +kernel
theorem dL_law_849 : decode cL_law 849 = .ok (.goto 622, 3) := by decide +kernel
theorem dL_law_852 : decode cL_law 852 = .ok (.aload_n 1, 1) := by decide +kernel
theorem dL_law_853 : decode cL_law 853 = .ok (.aload_n 0, 1) := by decide +kernel
theorem dL_law_854 : decode cL_law 854 = .ok (.iload 4, 2) := by decide +kernel
theorem dL_law_856 : decode cL_law 856 = .ok (.iconst 1, 1) := by decide +kernel
theorem dL_law_857 : decode cL_law 857 = .ok (.iadd, 1) := by decide +kernel
theorem dL_law_858 : decode cL_law 858 = .ok (.iaload, 1) := by decide +kernel
theorem dL_law_859 : decode cL_law 859 = .ok (.aload_n 3, 1) := by decide +kernel
theorem dL_law_860 : decode cL_law 860 = .ok (.invokestatic 120, 3) := by decide +kernel
theorem dL_law_863 : decode cL_law 863 = .ok (.istore 5, 2) := by decide +kernel
theorem dL_law_865 : decode cL_law 865 = .ok (.aload_n 2, 1) := by decide +kernel
theorem dL_law_866 : decode cL_law 866 = .ok (.aload_n 0, 1) := by decide +kernel
theorem dL_law_867 : decode cL_law 867 = .ok (.iload 4, 2) := by decide +kernel
theorem dL_law_869 : decode cL_law 869 = .ok (.iconst 1, 1) := by decide +kernel
theorem dL_law_870 : decode cL_law 870 = .ok (.iadd, 1) := by decide +kernel
theorem dL_law_871 : decode cL_law 871 = .ok (.iaload, 1) := by decide +kernel
theorem dL_law_872 : decode cL_law 872 = .ok (.invokevirtual 122, 3) := by decide +kernel
theorem dL_law_875 : decode cL_law 875 = .ok (.istore 6, 2) := by decide +kernel
theorem dL_law_877 : decode cL_law 877 = .ok (.aload_n 2, 1) := by decide +kernel
theorem dL_law_878 : decode cL_law 878 = .ok (.invokevirtual 87, 3) := by decide +kernel
theorem dL_law_881 : decode cL_law 881 = .ok (.iload 5, 2) := by decide +kernel
theorem dL_law_883 : decode cL_law 883 = .ok (.if_icmp .eq 5, 3) := by decide +kernel
theorem dL_law_886 : decode cL_law 886 = .ok (.iconst 0, 1) := by decide +kernel
theorem dL_law_887 : decode cL_law 887 = .ok (.ireturn, 1) := by decide +kernel
theorem dL_law_888 : decode cL_law 888 = .ok (.iload 5, 2) := by decide +kernel
theorem dL_law_890 : decode cL_law 890 = .ok (.ifCond .ne 15, 3) := by decide +kernel
theorem dL_law_893 : decode cL_law 893 = .ok (.aload_n 3, 1) := by decide +kernel
theorem dL_law_894 : decode cL_law 894 = .ok (.iconst 0, 1) := by decide +kernel
theorem dL_law_895 : decode cL_law 895 = .ok (.laload, 1) := by decide +kernel
theorem dL_law_896 : decode cL_law 896 = .ok (.iload 6, 2) := by decide +kernel
theorem dL_law_898 : decode cL_law 898 = .ok (.i2l, 1) := by decide +kernel
theorem dL_law_899 : decode cL_law 899 = .ok (.lcmp, 1) := by decide +kernel
theorem dL_law_900 : decode cL_law 900 = .ok (.ifCond .eq 5, 3) := by decide +kernel
theorem dL_law_903 : decode cL_law 903 = .ok (.iconst 0, 1) := by decide +kernel
theorem dL_law_904 : decode cL_law 904 = .ok (.ireturn, 1) := by decide +kernel
theorem dL_law_905 : decode cL_law 905 = .ok (.goto 566, 3) := by decide +kernel
theorem dL_law_908 : decode cL_law 908 = .ok (.aload_n 1, 1) := by decide +kernel
theorem dL_law_909 : decode cL_law 909 = .ok (.aload_n 3, 1) := by decide +kernel
theorem dL_law_910 : decode cL_law 910 = .ok (.invokestatic 123, 3) := by decide +kernel
theorem dL_law_913 : decode cL_law 913 = .ok (.istore 5, 2) := by decide +kernel
theorem dL_law_915 : decode cL_law 915 = .ok (.aload_n 2, 1) := by decide +kernel
theorem dL_law_916 : decode cL_law 916 = .ok (.invokevirtual 126, 3) := by decide +kernel
theorem dL_law_919 : decode cL_law 919 = .ok (.istore 6, 2) := by decide +kernel
theorem dL_law_921 : decode cL_law 921 = .ok (.aload_n 2, 1) := by decide +kernel
theorem dL_law_922 : decode cL_law 922 = .ok (.invokevirtual 87, 3) := by decide +kernel
theorem dL_law_925 : decode cL_law 925 = .ok (.iload 5, 2) := by decide +kernel
theorem dL_law_927 : decode cL_law 927 = .ok (.if_icmp .eq 5, 3) := by decide +kernel
theorem dL_law_930 : decode cL_law 930 = .ok (.iconst 0, 1) := by decide +kernel
theorem dL_law_931 : decode cL_law 931 = .ok (.ireturn, 1) := by decide +kernel
theorem dL_law_932 : decode cL_law 932 = .ok (.iload 5, 2) := by decide +kernel
theorem dL_law_934 : decode cL_law 934 = .ok (.ifCond .ne 15, 3) := by decide +kernel
theorem dL_law_937 : decode cL_law 937 = .ok (.aload_n 3, 1) := by decide +kernel
theorem dL_law_938 : decode cL_law 938 = .ok (.iconst 0, 1) := by decide +kernel
theorem dL_law_939 : decode cL_law 939 = .ok (.laload, 1) := by decide +kernel
theorem dL_law_940 : decode cL_law 940 = .ok (.iload 6, 2) := by decide +kernel
theorem dL_law_942 : decode cL_law 942 = .ok (.i2l, 1) := by decide +kernel
theorem dL_law_943 : decode cL_law 943 = .ok (.lcmp, 1) := by decide +kernel
theorem dL_law_944 : decode cL_law 944 = .ok (.ifCond .eq 5, 3) := by decide +kernel
theorem dL_law_947 : decode cL_law 947 = .ok (.iconst 0, 1) := by decide +kernel
theorem dL_law_948 : decode cL_law 948 = .ok (.ireturn, 1) := by decide +kernel
theorem dL_law_949 : decode cL_law 949 = .ok (.goto 522, 3) := by decide +kernel
theorem dL_law_952 : decode cL_law 952 = .ok (.aload_n 1, 1) := by decide +kernel
theorem dL_law_953 : decode cL_law 953 = .ok (.aload_n 0, 1) := by decide +kernel
theorem dL_law_954 : decode cL_law 954 = .ok (.iload 4, 2) := by decide +kernel
theorem dL_law_956 : decode cL_law 956 = .ok (.iconst 1, 1) := by decide +kernel
theorem dL_law_957 : decode cL_law 957 = .ok (.iadd, 1) := by decide +kernel
theorem dL_law_958 : decode cL_law 958 = .ok (.iaload, 1) := by decide +kernel
theorem dL_law_959 : decode cL_law 959 = .ok (.aload_n 0, 1) := by decide +kernel
theorem dL_law_960 : decode cL_law 960 = .ok (.iload 4, 2) := by decide +kernel
theorem dL_law_962 : decode cL_law 962 = .ok (.iconst 2, 1) := by decide +kernel
theorem dL_law_963 : decode cL_law 963 = .ok (.iadd, 1) := by decide +kernel
theorem dL_law_964 : decode cL_law 964 = .ok (.iaload, 1) := by decide +kernel
theorem dL_law_965 : decode cL_law 965 = .ok (.aload_n 0, 1) := by decide +kernel
theorem dL_law_966 : decode cL_law 966 = .ok (.iload 4, 2) := by decide +kernel
theorem dL_law_968 : decode cL_law 968 = .ok (.iconst 3, 1) := by decide +kernel
theorem dL_law_969 : decode cL_law 969 = .ok (.iadd, 1) := by decide +kernel
theorem dL_law_970 : decode cL_law 970 = .ok (.iaload, 1) := by decide +kernel
theorem dL_law_971 : decode cL_law 971 = .ok (.aload_n 3, 1) := by decide +kernel
theorem dL_law_972 : decode cL_law 972 = .ok (.invokestatic 127, 3) := by decide +kernel
theorem dL_law_975 : decode cL_law 975 = .ok (.istore 5, 2) := by decide +kernel
theorem dL_law_977 : decode cL_law 977 = .ok (.aload_n 2, 1) := by decide +kernel
theorem dL_law_978 : decode cL_law 978 = .ok (.aload_n 0, 1) := by decide +kernel
theorem dL_law_979 : decode cL_law 979 = .ok (.iload 4, 2) := by decide +kernel
theorem dL_law_981 : decode cL_law 981 = .ok (.iconst 1, 1) := by decide +kernel
theorem dL_law_982 : decode cL_law 982 = .ok (.iadd, 1) := by decide +kernel
theorem dL_law_983 : decode cL_law 983 = .ok (.iaload, 1) := by decide +kernel
theorem dL_law_984 : decode cL_law 984 = .ok (.aload_n 0, 1) := by decide +kernel
theorem dL_law_985 : decode cL_law 985 = .ok (.iload 4, 2) := by decide +kernel
theorem dL_law_987 : decode cL_law 987 = .ok (.iconst 2, 1) := by decide +kernel
theorem dL_law_988 : decode cL_law 988 = .ok (.iadd, 1) := by decide +kernel
theorem dL_law_989 : decode cL_law 989 = .ok (.iaload, 1) := by decide +kernel
theorem dL_law_990 : decode cL_law 990 = .ok (.aload_n 0, 1) := by decide +kernel
theorem dL_law_991 : decode cL_law 991 = .ok (.iload 4, 2) := by decide +kernel
theorem dL_law_993 : decode cL_law 993 = .ok (.iconst 3, 1) := by decide +kernel
theorem dL_law_994 : decode cL_law 994 = .ok (.iadd, 1) := by decide +kernel
theorem dL_law_995 : decode cL_law 995 = .ok (.iaload, 1) := by decide +kernel
theorem dL_law_996 : decode cL_law 996 = .ok (.invokevirtual 129, 3) := by decide +kernel
theorem dL_law_999 : decode cL_law 999 = .ok (.istore 6, 2) := by decide +kernel
theorem dL_law_1001 : decode cL_law 1001 = .ok (.aload_n 2, 1) := by decide +kernel
theorem dL_law_1002 : decode cL_law 1002 = .ok (.invokevirtual 87, 3) := by decide +kernel
theorem dL_law_1005 : decode cL_law 1005 = .ok (.iload 5, 2) := by decide +kernel
theorem dL_law_1007 : decode cL_law 1007 = .ok (.if_icmp .eq 5, 3) := by decide +kernel
theorem dL_law_1010 : decode cL_law 1010 = .ok (.iconst 0, 1) := by decide +kernel
theorem dL_law_1011 : decode cL_law 1011 = .ok (.ireturn, 1) := by decide +kernel
theorem dL_law_1012 : decode cL_law 1012 = .ok (.iload 5, 2) := by decide +kernel
theorem dL_law_1014 : decode cL_law 1014 = .ok (.ifCond .ne 15, 3) := by decide +kernel
theorem dL_law_1017 : decode cL_law 1017 = .ok (.aload_n 3, 1) := by decide +kernel
theorem dL_law_1018 : decode cL_law 1018 = .ok (.iconst 0, 1) := by decide +kernel
theorem dL_law_1019 : decode cL_law 1019 = .ok (.laload, 1) := by decide +kernel
theorem dL_law_1020 : decode cL_law 1020 = .ok (.iload 6, 2) := by decide +kernel
theorem dL_law_1022 : decode cL_law 1022 = .ok (.i2l, 1) := by decide +kernel
theorem dL_law_1023 : decode cL_law 1023 = .ok (.lcmp, 1) := by decide +kernel
theorem dL_law_1024 : decode cL_law 1024 = .ok (.ifCond .eq 5, 3) := by decide +kernel
theorem dL_law_1027 : decode cL_law 1027 = .ok (.iconst 0, 1) := by decide +kernel
theorem dL_law_1028 : decode cL_law 1028 = .ok (.ireturn, 1) := by decide +kernel
theorem dL_law_1029 : decode cL_law 1029 = .ok (.goto 442, 3) := by decide +kernel
theorem dL_law_1032 : decode cL_law 1032 = .ok (.aload_n 1, 1) := by decide +kernel
theorem dL_law_1033 : decode cL_law 1033 = .ok (.aload_n 0, 1) := by decide +kernel
theorem dL_law_1034 : decode cL_law 1034 = .ok (.iload 4, 2) := by decide +kernel
theorem dL_law_1036 : decode cL_law 1036 = .ok (.iconst 1, 1) := by decide +kernel
theorem dL_law_1037 : decode cL_law 1037 = .ok (.iadd, 1) := by decide +kernel
theorem dL_law_1038 : decode cL_law 1038 = .ok (.iaload, 1) := by decide +kernel
theorem dL_law_1039 : decode cL_law 1039 = .ok (.aload_n 0, 1) := by decide +kernel
theorem dL_law_1040 : decode cL_law 1040 = .ok (.iload 4, 2) := by decide +kernel
theorem dL_law_1042 : decode cL_law 1042 = .ok (.iconst 2, 1) := by decide +kernel
theorem dL_law_1043 : decode cL_law 1043 = .ok (.iadd, 1) := by decide +kernel
theorem dL_law_1044 : decode cL_law 1044 = .ok (.iaload, 1) := by decide +kernel
theorem dL_law_1045 : decode cL_law 1045 = .ok (.aload_n 3, 1) := by decide +kernel
theorem dL_law_1046 : decode cL_law 1046 = .ok (.invokestatic 130, 3) := by decide +kernel
theorem dL_law_1049 : decode cL_law 1049 = .ok (.istore 5, 2) := by decide +kernel
theorem dL_law_1051 : decode cL_law 1051 = .ok (.aload_n 2, 1) := by decide +kernel
theorem dL_law_1052 : decode cL_law 1052 = .ok (.aload_n 0, 1) := by decide +kernel
theorem dL_law_1053 : decode cL_law 1053 = .ok (.iload 4, 2) := by decide +kernel
theorem dL_law_1055 : decode cL_law 1055 = .ok (.iconst 1, 1) := by decide +kernel
theorem dL_law_1056 : decode cL_law 1056 = .ok (.iadd, 1) := by decide +kernel
theorem dL_law_1057 : decode cL_law 1057 = .ok (.iaload, 1) := by decide +kernel
theorem dL_law_1058 : decode cL_law 1058 = .ok (.aload_n 0, 1) := by decide +kernel
theorem dL_law_1059 : decode cL_law 1059 = .ok (.iload 4, 2) := by decide +kernel
theorem dL_law_1061 : decode cL_law 1061 = .ok (.iconst 2, 1) := by decide +kernel
theorem dL_law_1062 : decode cL_law 1062 = .ok (.iadd, 1) := by decide +kernel
theorem dL_law_1063 : decode cL_law 1063 = .ok (.iaload, 1) := by decide +kernel
theorem dL_law_1064 : decode cL_law 1064 = .ok (.invokevirtual 132, 3) := by decide +kernel
theorem dL_law_1067 : decode cL_law 1067 = .ok (.istore 6, 2) := by decide +kernel
theorem dL_law_1069 : decode cL_law 1069 = .ok (.aload_n 2, 1) := by decide +kernel
theorem dL_law_1070 : decode cL_law 1070 = .ok (.invokevirtual 87, 3) := by decide +kernel
theorem dL_law_1073 : decode cL_law 1073 = .ok (.iload 5, 2) := by decide +kernel
theorem dL_law_1075 : decode cL_law 1075 = .ok (.if_icmp .eq 5, 3) := by decide +kernel
theorem dL_law_1078 : decode cL_law 1078 = .ok (.iconst 0, 1) := by decide +kernel
theorem dL_law_1079 : decode cL_law 1079 = .ok (.ireturn, 1) := by decide +kernel
theorem dL_law_1080 : decode cL_law 1080 = .ok (.iload 5, 2) := by decide +kernel
theorem dL_law_1082 : decode cL_law 1082 = .ok (.ifCond .ne 15, 3) := by decide +kernel
theorem dL_law_1085 : decode cL_law 1085 = .ok (.aload_n 3, 1) := by decide +kernel
theorem dL_law_1086 : decode cL_law 1086 = .ok (.iconst 0, 1) := by decide +kernel
theorem dL_law_1087 : decode cL_law 1087 = .ok (.laload, 1) := by decide +kernel
theorem dL_law_1088 : decode cL_law 1088 = .ok (.iload 6, 2) := by decide +kernel
theorem dL_law_1090 : decode cL_law 1090 = .ok (.i2l, 1) := by decide +kernel
theorem dL_law_1091 : decode cL_law 1091 = .ok (.lcmp, 1) := by decide +kernel
theorem dL_law_1092 : decode cL_law 1092 = .ok (.ifCond .eq 5, 3) := by decide +kernel
theorem dL_law_1095 : decode cL_law 1095 = .ok (.iconst 0, 1) := by decide +kernel
theorem dL_law_1096 : decode cL_law 1096 = .ok (.ireturn, 1) := by decide +kernel
theorem dL_law_1097 : decode cL_law 1097 = .ok (.goto 374, 3) := by decide +kernel
theorem dL_law_1100 : decode cL_law 1100 = .ok (.aload_n 1, 1) := by decide +kernel
theorem dL_law_1101 : decode cL_law 1101 = .ok (.aload_n 0, 1) := by decide +kernel
theorem dL_law_1102 : decode cL_law 1102 = .ok (.iload 4, 2) := by decide +kernel
theorem dL_law_1104 : decode cL_law 1104 = .ok (.iconst 1, 1) := by decide +kernel
theorem dL_law_1105 : decode cL_law 1105 = .ok (.iadd, 1) := by decide +kernel
theorem dL_law_1106 : decode cL_law 1106 = .ok (.iaload, 1) := by decide +kernel
theorem dL_law_1107 : decode cL_law 1107 = .ok (.aload_n 3, 1) := by decide +kernel
theorem dL_law_1108 : decode cL_law 1108 = .ok (.invokestatic 133, 3) := by decide +kernel
theorem dL_law_1111 : decode cL_law 1111 = .ok (.istore 5, 2) := by decide +kernel
theorem dL_law_1113 : decode cL_law 1113 = .ok (.aload_n 2, 1) := by decide +kernel
theorem dL_law_1114 : decode cL_law 1114 = .ok (.aload_n 0, 1) := by decide +kernel
theorem dL_law_1115 : decode cL_law 1115 = .ok (.iload 4, 2) := by decide +kernel
theorem dL_law_1117 : decode cL_law 1117 = .ok (.iconst 1, 1) := by decide +kernel
theorem dL_law_1118 : decode cL_law 1118 = .ok (.iadd, 1) := by decide +kernel
theorem dL_law_1119 : decode cL_law 1119 = .ok (.iaload, 1) := by decide +kernel
theorem dL_law_1120 : decode cL_law 1120 = .ok (.invokevirtual 135, 3) := by decide +kernel
theorem dL_law_1123 : decode cL_law 1123 = .ok (.istore 6, 2) := by decide +kernel
theorem dL_law_1125 : decode cL_law 1125 = .ok (.aload_n 2, 1) := by decide +kernel
theorem dL_law_1126 : decode cL_law 1126 = .ok (.invokevirtual 87, 3) := by decide +kernel
theorem dL_law_1129 : decode cL_law 1129 = .ok (.iload 5, 2) := by decide +kernel
theorem dL_law_1131 : decode cL_law 1131 = .ok (.if_icmp .eq 5, 3) := by decide +kernel
theorem dL_law_1134 : decode cL_law 1134 = .ok (.iconst 0, 1) := by decide +kernel
theorem dL_law_1135 : decode cL_law 1135 = .ok (.ireturn, 1) := by decide +kernel
theorem dL_law_1136 : decode cL_law 1136 = .ok (.iload 5, 2) := by decide +kernel
theorem dL_law_1138 : decode cL_law 1138 = .ok (.ifCond .ne 15, 3) := by decide +kernel
theorem dL_law_1141 : decode cL_law 1141 = .ok (.aload_n 3, 1) := by decide +kernel
theorem dL_law_1142 : decode cL_law 1142 = .ok (.iconst 0, 1) := by decide +kernel
theorem dL_law_1143 : decode cL_law 1143 = .ok (.laload, 1) := by decide +kernel
theorem dL_law_1144 : decode cL_law 1144 = .ok (.iload 6, 2) := by decide +kernel
theorem dL_law_1146 : decode cL_law 1146 = .ok (.i2l, 1) := by decide +kernel
theorem dL_law_1147 : decode cL_law 1147 = .ok (.lcmp, 1) := by decide +kernel
theorem dL_law_1148 : decode cL_law 1148 = .ok (.ifCond .eq 5, 3) := by decide +kernel
theorem dL_law_1151 : decode cL_law 1151 = .ok (.iconst 0, 1) := by decide +kernel
theorem dL_law_1152 : decode cL_law 1152 = .ok (.ireturn, 1) := by decide +kernel
theorem dL_law_1153 : decode cL_law 1153 = .ok (.goto 318, 3) := by decide +kernel
theorem dL_law_1156 : decode cL_law 1156 = .ok (.aload_n 1, 1) := by decide +kernel
theorem dL_law_1157 : decode cL_law 1157 = .ok (.invokevirtual 136, 3) := by decide +kernel
theorem dL_law_1160 : decode cL_law 1160 = .ok (.dstore 5, 2) := by decide +kernel
theorem dL_law_1162 : decode cL_law 1162 = .ok (.aload_n 2, 1) := by decide +kernel
theorem dL_law_1163 : decode cL_law 1163 = .ok (.invokevirtual 140, 3) := by decide +kernel
theorem dL_law_1166 : decode cL_law 1166 = .ok (.dstore 7, 2) := by decide +kernel
theorem dL_law_1168 : decode cL_law 1168 = .ok (.dload 5, 2) := by decide +kernel
theorem dL_law_1170 : decode cL_law 1170 = .ok (.dload 7, 2) := by decide +kernel
theorem dL_law_1172 : decode cL_law 1172 = .ok (.dcmp .l, 1) := by decide +kernel
theorem dL_law_1173 : decode cL_law 1173 = .ok (.ifCond .eq 21, 3) := by decide +kernel
theorem dL_law_1176 : decode cL_law 1176 = .ok (.dload 5, 2) := by decide +kernel
theorem dL_law_1178 : decode cL_law 1178 = .ok (.dload 5, 2) := by decide +kernel
theorem dL_law_1180 : decode cL_law 1180 = .ok (.dcmp .l, 1) := by decide +kernel
theorem dL_law_1181 : decode cL_law 1181 = .ok (.ifCond .eq 11, 3) := by decide +kernel
theorem dL_law_1184 : decode cL_law 1184 = .ok (.dload 7, 2) := by decide +kernel
theorem dL_law_1186 : decode cL_law 1186 = .ok (.dload 7, 2) := by decide +kernel
theorem dL_law_1188 : decode cL_law 1188 = .ok (.dcmp .l, 1) := by decide +kernel
theorem dL_law_1189 : decode cL_law 1189 = .ok (.ifCond .ne 5, 3) := by decide +kernel
theorem dL_law_1192 : decode cL_law 1192 = .ok (.iconst 0, 1) := by decide +kernel
theorem dL_law_1193 : decode cL_law 1193 = .ok (.ireturn, 1) := by decide +kernel
theorem dL_law_1194 : decode cL_law 1194 = .ok (.goto 277, 3) := by decide +kernel
theorem dL_law_1197 : decode cL_law 1197 = .ok (.aload_n 1, 1) := by decide +kernel
theorem dL_law_1198 : decode cL_law 1198 = .ok (.aload_n 0, 1) := by decide +kernel
theorem dL_law_1199 : decode cL_law 1199 = .ok (.iload 4, 2) := by decide +kernel
theorem dL_law_1201 : decode cL_law 1201 = .ok (.iconst 1, 1) := by decide +kernel
theorem dL_law_1202 : decode cL_law 1202 = .ok (.iadd, 1) := by decide +kernel
theorem dL_law_1203 : decode cL_law 1203 = .ok (.iaload, 1) := by decide +kernel
theorem dL_law_1204 : decode cL_law 1204 = .ok (.aload_n 0, 1) := by decide +kernel
theorem dL_law_1205 : decode cL_law 1205 = .ok (.iload 4, 2) := by decide +kernel
theorem dL_law_1207 : decode cL_law 1207 = .ok (.iconst 2, 1) := by decide +kernel
theorem dL_law_1208 : decode cL_law 1208 = .ok (.iadd, 1) := by decide +kernel
theorem dL_law_1209 : decode cL_law 1209 = .ok (.iaload, 1) := by decide +kernel
theorem dL_law_1210 : decode cL_law 1210 = .ok (.aload_n 3, 1) := by decide +kernel
theorem dL_law_1211 : decode cL_law 1211 = .ok (.invokestatic 141, 3) := by decide +kernel
theorem dL_law_1214 : decode cL_law 1214 = .ok (.istore 5, 2) := by decide +kernel
theorem dL_law_1216 : decode cL_law 1216 = .ok (.aload_n 2, 1) := by decide +kernel
theorem dL_law_1217 : decode cL_law 1217 = .ok (.aload_n 0, 1) := by decide +kernel
theorem dL_law_1218 : decode cL_law 1218 = .ok (.iload 4, 2) := by decide +kernel
theorem dL_law_1220 : decode cL_law 1220 = .ok (.iconst 1, 1) := by decide +kernel
theorem dL_law_1221 : decode cL_law 1221 = .ok (.iadd, 1) := by decide +kernel
theorem dL_law_1222 : decode cL_law 1222 = .ok (.iaload, 1) := by decide +kernel
theorem dL_law_1223 : decode cL_law 1223 = .ok (.aload_n 0, 1) := by decide +kernel
theorem dL_law_1224 : decode cL_law 1224 = .ok (.iload 4, 2) := by decide +kernel
theorem dL_law_1226 : decode cL_law 1226 = .ok (.iconst 2, 1) := by decide +kernel
theorem dL_law_1227 : decode cL_law 1227 = .ok (.iadd, 1) := by decide +kernel
theorem dL_law_1228 : decode cL_law 1228 = .ok (.iaload, 1) := by decide +kernel
theorem dL_law_1229 : decode cL_law 1229 = .ok (.invokevirtual 143, 3) := by decide +kernel
theorem dL_law_1232 : decode cL_law 1232 = .ok (.istore 6, 2) := by decide +kernel
theorem dL_law_1234 : decode cL_law 1234 = .ok (.aload_n 2, 1) := by decide +kernel
theorem dL_law_1235 : decode cL_law 1235 = .ok (.invokevirtual 87, 3) := by decide +kernel
theorem dL_law_1238 : decode cL_law 1238 = .ok (.iload 5, 2) := by decide +kernel
theorem dL_law_1240 : decode cL_law 1240 = .ok (.if_icmp .eq 5, 3) := by decide +kernel
theorem dL_law_1243 : decode cL_law 1243 = .ok (.iconst 0, 1) := by decide +kernel
theorem dL_law_1244 : decode cL_law 1244 = .ok (.ireturn, 1) := by decide +kernel
theorem dL_law_1245 : decode cL_law 1245 = .ok (.iload 5, 2) := by decide +kernel
theorem dL_law_1247 : decode cL_law 1247 = .ok (.ifCond .ne 15, 3) := by decide +kernel
theorem dL_law_1250 : decode cL_law 1250 = .ok (.aload_n 3, 1) := by decide +kernel
theorem dL_law_1251 : decode cL_law 1251 = .ok (.iconst 0, 1) := by decide +kernel
theorem dL_law_1252 : decode cL_law 1252 = .ok (.laload, 1) := by decide +kernel
theorem dL_law_1253 : decode cL_law 1253 = .ok (.iload 6, 2) := by decide +kernel
theorem dL_law_1255 : decode cL_law 1255 = .ok (.i2l, 1) := by decide +kernel
theorem dL_law_1256 : decode cL_law 1256 = .ok (.lcmp, 1) := by decide +kernel
theorem dL_law_1257 : decode cL_law 1257 = .ok (.ifCond .eq 5, 3) := by decide +kernel
theorem dL_law_1260 : decode cL_law 1260 = .ok (.iconst 0, 1) := by decide +kernel
theorem dL_law_1261 : decode cL_law 1261 = .ok (.ireturn, 1) := by decide +kernel
theorem dL_law_1262 : decode cL_law 1262 = .ok (.goto 209, 3) := by decide +kernel
theorem dL_law_1265 : decode cL_law 1265 = .ok (.aload_n 1, 1) := by decide +kernel
theorem dL_law_1266 : decode cL_law 1266 = .ok (.aload_n 0, 1) := by decide +kernel
theorem dL_law_1267 : decode cL_law 1267 = .ok (.iload 4, 2) := by decide +kernel
theorem dL_law_1269 : decode cL_law 1269 = .ok (.iconst 1, 1) := by decide +kernel
theorem dL_law_1270 : decode cL_law 1270 = .ok (.iadd, 1) := by decide +kernel
theorem dL_law_1271 : decode cL_law 1271 = .ok (.iaload, 1) := by decide +kernel
theorem dL_law_1272 : decode cL_law 1272 = .ok (.aload_n 0, 1) := by decide +kernel
theorem dL_law_1273 : decode cL_law 1273 = .ok (.iload 4, 2) := by decide +kernel
theorem dL_law_1275 : decode cL_law 1275 = .ok (.iconst 2, 1) := by decide +kernel
theorem dL_law_1276 : decode cL_law 1276 = .ok (.iadd, 1) := by decide +kernel
theorem dL_law_1277 : decode cL_law 1277 = .ok (.iaload, 1) := by decide +kernel
theorem dL_law_1278 : decode cL_law 1278 = .ok (.aload_n 3, 1) := by decide +kernel
theorem dL_law_1279 : decode cL_law 1279 = .ok (.invokestatic 144, 3) := by decide +kernel
theorem dL_law_1282 : decode cL_law 1282 = .ok (.istore 5, 2) := by decide +kernel
theorem dL_law_1284 : decode cL_law 1284 = .ok (.aload_n 2, 1) := by decide +kernel
theorem dL_law_1285 : decode cL_law 1285 = .ok (.aload_n 0, 1) := by decide +kernel
theorem dL_law_1286 : decode cL_law 1286 = .ok (.iload 4, 2) := by decide +kernel
theorem dL_law_1288 : decode cL_law 1288 = .ok (.iconst 1, 1) := by decide +kernel
theorem dL_law_1289 : decode cL_law 1289 = .ok (.iadd, 1) := by decide +kernel
theorem dL_law_1290 : decode cL_law 1290 = .ok (.iaload, 1) := by decide +kernel
theorem dL_law_1291 : decode cL_law 1291 = .ok (.aload_n 0, 1) := by decide +kernel
theorem dL_law_1292 : decode cL_law 1292 = .ok (.iload 4, 2) := by decide +kernel
theorem dL_law_1294 : decode cL_law 1294 = .ok (.iconst 2, 1) := by decide +kernel
theorem dL_law_1295 : decode cL_law 1295 = .ok (.iadd, 1) := by decide +kernel
theorem dL_law_1296 : decode cL_law 1296 = .ok (.iaload, 1) := by decide +kernel
theorem dL_law_1297 : decode cL_law 1297 = .ok (.invokevirtual 146, 3) := by decide +kernel
theorem dL_law_1300 : decode cL_law 1300 = .ok (.istore 6, 2) := by decide +kernel
theorem dL_law_1302 : decode cL_law 1302 = .ok (.aload_n 2, 1) := by decide +kernel
theorem dL_law_1303 : decode cL_law 1303 = .ok (.invokevirtual 87, 3) := by decide +kernel
theorem dL_law_1306 : decode cL_law 1306 = .ok (.iload 5, 2) := by decide +kernel
theorem dL_law_1308 : decode cL_law 1308 = .ok (.if_icmp .eq 5, 3) := by decide +kernel
theorem dL_law_1311 : decode cL_law 1311 = .ok (.iconst 0, 1) := by decide +kernel
theorem dL_law_1312 : decode cL_law 1312 = .ok (.ireturn, 1) := by decide +kernel
theorem dL_law_1313 : decode cL_law 1313 = .ok (.iload 5, 2) := by decide +kernel
theorem dL_law_1315 : decode cL_law 1315 = .ok (.ifCond .ne 15, 3) := by decide +kernel
theorem dL_law_1318 : decode cL_law 1318 = .ok (.aload_n 3, 1) := by decide +kernel
theorem dL_law_1319 : decode cL_law 1319 = .ok (.iconst 0, 1) := by decide +kernel
theorem dL_law_1320 : decode cL_law 1320 = .ok (.laload, 1) := by decide +kernel
theorem dL_law_1321 : decode cL_law 1321 = .ok (.iload 6, 2) := by decide +kernel
theorem dL_law_1323 : decode cL_law 1323 = .ok (.i2l, 1) := by decide +kernel
theorem dL_law_1324 : decode cL_law 1324 = .ok (.lcmp, 1) := by decide +kernel
theorem dL_law_1325 : decode cL_law 1325 = .ok (.ifCond .eq 5, 3) := by decide +kernel
theorem dL_law_1328 : decode cL_law 1328 = .ok (.iconst 0, 1) := by decide +kernel
theorem dL_law_1329 : decode cL_law 1329 = .ok (.ireturn, 1) := by decide +kernel
theorem dL_law_1330 : decode cL_law 1330 = .ok (.goto 141, 3) := by decide +kernel
theorem dL_law_1333 : decode cL_law 1333 = .ok (.aload_n 1, 1) := by decide +kernel
theorem dL_law_1334 : decode cL_law 1334 = .ok (.aload_n 0, 1) := by decide +kernel
theorem dL_law_1335 : decode cL_law 1335 = .ok (.iload 4, 2) := by decide +kernel
theorem dL_law_1337 : decode cL_law 1337 = .ok (.iconst 1, 1) := by decide +kernel
theorem dL_law_1338 : decode cL_law 1338 = .ok (.iadd, 1) := by decide +kernel
theorem dL_law_1339 : decode cL_law 1339 = .ok (.iaload, 1) := by decide +kernel
theorem dL_law_1340 : decode cL_law 1340 = .ok (.aload_n 3, 1) := by decide +kernel
theorem dL_law_1341 : decode cL_law 1341 = .ok (.invokestatic 147, 3) := by decide +kernel
theorem dL_law_1344 : decode cL_law 1344 = .ok (.istore 5, 2) := by decide +kernel
theorem dL_law_1346 : decode cL_law 1346 = .ok (.aload_n 2, 1) := by decide +kernel
theorem dL_law_1347 : decode cL_law 1347 = .ok (.aload_n 0, 1) := by decide +kernel
theorem dL_law_1348 : decode cL_law 1348 = .ok (.iload 4, 2) := by decide +kernel
theorem dL_law_1350 : decode cL_law 1350 = .ok (.iconst 1, 1) := by decide +kernel
theorem dL_law_1351 : decode cL_law 1351 = .ok (.iadd, 1) := by decide +kernel
theorem dL_law_1352 : decode cL_law 1352 = .ok (.iaload, 1) := by decide +kernel
theorem dL_law_1353 : decode cL_law 1353 = .ok (.invokevirtual 149, 3) := by decide +kernel
theorem dL_law_1356 : decode cL_law 1356 = .ok (.istore 6, 2) := by decide +kernel
theorem dL_law_1358 : decode cL_law 1358 = .ok (.aload_n 2, 1) := by decide +kernel
theorem dL_law_1359 : decode cL_law 1359 = .ok (.invokevirtual 87, 3) := by decide +kernel
theorem dL_law_1362 : decode cL_law 1362 = .ok (.iload 5, 2) := by decide +kernel
theorem dL_law_1364 : decode cL_law 1364 = .ok (.if_icmp .eq 5, 3) := by decide +kernel
theorem dL_law_1367 : decode cL_law 1367 = .ok (.iconst 0, 1) := by decide +kernel
theorem dL_law_1368 : decode cL_law 1368 = .ok (.ireturn, 1) := by decide +kernel
theorem dL_law_1369 : decode cL_law 1369 = .ok (.iload 5, 2) := by decide +kernel
theorem dL_law_1371 : decode cL_law 1371 = .ok (.ifCond .ne 15, 3) := by decide +kernel
theorem dL_law_1374 : decode cL_law 1374 = .ok (.aload_n 3, 1) := by decide +kernel
theorem dL_law_1375 : decode cL_law 1375 = .ok (.iconst 0, 1) := by decide +kernel
theorem dL_law_1376 : decode cL_law 1376 = .ok (.laload, 1) := by decide +kernel
theorem dL_law_1377 : decode cL_law 1377 = .ok (.iload 6, 2) := by decide +kernel
theorem dL_law_1379 : decode cL_law 1379 = .ok (.i2l, 1) := by decide +kernel
theorem dL_law_1380 : decode cL_law 1380 = .ok (.lcmp, 1) := by decide +kernel
theorem dL_law_1381 : decode cL_law 1381 = .ok (.ifCond .eq 5, 3) := by decide +kernel
theorem dL_law_1384 : decode cL_law 1384 = .ok (.iconst 0, 1) := by decide +kernel
theorem dL_law_1385 : decode cL_law 1385 = .ok (.ireturn, 1) := by decide +kernel
theorem dL_law_1386 : decode cL_law 1386 = .ok (.goto 85, 3) := by decide +kernel
theorem dL_law_1389 : decode cL_law 1389 = .ok (.aload_n 1, 1) := by decide +kernel
theorem dL_law_1390 : decode cL_law 1390 = .ok (.aload_n 0, 1) := by decide +kernel
theorem dL_law_1391 : decode cL_law 1391 = .ok (.iload 4, 2) := by decide +kernel
theorem dL_law_1393 : decode cL_law 1393 = .ok (.iconst 1, 1) := by decide +kernel
theorem dL_law_1394 : decode cL_law 1394 = .ok (.iadd, 1) := by decide +kernel
theorem dL_law_1395 : decode cL_law 1395 = .ok (.iaload, 1) := by decide +kernel
theorem dL_law_1396 : decode cL_law 1396 = .ok (.aload_n 0, 1) := by decide +kernel
theorem dL_law_1397 : decode cL_law 1397 = .ok (.iload 4, 2) := by decide +kernel
theorem dL_law_1399 : decode cL_law 1399 = .ok (.iconst 2, 1) := by decide +kernel
theorem dL_law_1400 : decode cL_law 1400 = .ok (.iadd, 1) := by decide +kernel
theorem dL_law_1401 : decode cL_law 1401 = .ok (.iaload, 1) := by decide +kernel
theorem dL_law_1402 : decode cL_law 1402 = .ok (.aload_n 3, 1) := by decide +kernel
theorem dL_law_1403 : decode cL_law 1403 = .ok (.invokestatic 150, 3) := by decide +kernel
theorem dL_law_1406 : decode cL_law 1406 = .ok (.istore 5, 2) := by decide +kernel
theorem dL_law_1408 : decode cL_law 1408 = .ok (.aload_n 2, 1) := by decide +kernel
theorem dL_law_1409 : decode cL_law 1409 = .ok (.aload_n 0, 1) := by decide +kernel
theorem dL_law_1410 : decode cL_law 1410 = .ok (.iload 4, 2) := by decide +kernel
theorem dL_law_1412 : decode cL_law 1412 = .ok (.iconst 1, 1) := by decide +kernel
theorem dL_law_1413 : decode cL_law 1413 = .ok (.iadd, 1) := by decide +kernel
theorem dL_law_1414 : decode cL_law 1414 = .ok (.iaload, 1) := by decide +kernel
theorem dL_law_1415 : decode cL_law 1415 = .ok (.aload_n 0, 1) := by decide +kernel
theorem dL_law_1416 : decode cL_law 1416 = .ok (.iload 4, 2) := by decide +kernel
theorem dL_law_1418 : decode cL_law 1418 = .ok (.iconst 2, 1) := by decide +kernel
theorem dL_law_1419 : decode cL_law 1419 = .ok (.iadd, 1) := by decide +kernel
theorem dL_law_1420 : decode cL_law 1420 = .ok (.iaload, 1) := by decide +kernel
theorem dL_law_1421 : decode cL_law 1421 = .ok (.invokevirtual 152, 3) := by decide +kernel
theorem dL_law_1424 : decode cL_law 1424 = .ok (.istore 6, 2) := by decide +kernel
theorem dL_law_1426 : decode cL_law 1426 = .ok (.aload_n 2, 1) := by decide +kernel
theorem dL_law_1427 : decode cL_law 1427 = .ok (.invokevirtual 87, 3) := by decide +kernel
theorem dL_law_1430 : decode cL_law 1430 = .ok (.iload 5, 2) := by decide +kernel
theorem dL_law_1432 : decode cL_law 1432 = .ok (.if_icmp .eq 5, 3) := by decide +kernel
theorem dL_law_1435 : decode cL_law 1435 = .ok (.iconst 0, 1) := by decide +kernel
theorem dL_law_1436 : decode cL_law 1436 = .ok (.ireturn, 1) := by decide +kernel
theorem dL_law_1437 : decode cL_law 1437 = .ok (.iload 5, 2) := by decide +kernel
theorem dL_law_1439 : decode cL_law 1439 = .ok (.ifCond .ne 15, 3) := by decide +kernel
theorem dL_law_1442 : decode cL_law 1442 = .ok (.aload_n 3, 1) := by decide +kernel
theorem dL_law_1443 : decode cL_law 1443 = .ok (.iconst 0, 1) := by decide +kernel
theorem dL_law_1444 : decode cL_law 1444 = .ok (.laload, 1) := by decide +kernel
theorem dL_law_1445 : decode cL_law 1445 = .ok (.iload 6, 2) := by decide +kernel
theorem dL_law_1447 : decode cL_law 1447 = .ok (.i2l, 1) := by decide +kernel
theorem dL_law_1448 : decode cL_law 1448 = .ok (.lcmp, 1) := by decide +kernel
theorem dL_law_1449 : decode cL_law 1449 = .ok (.ifCond .eq 5, 3) := by decide +kernel
theorem dL_law_1452 : decode cL_law 1452 = .ok (.iconst 0, 1) := by decide +kernel
theorem dL_law_1453 : decode cL_law 1453 = .ok (.ireturn, 1) := by decide +kernel
theorem dL_law_1454 : decode cL_law 1454 = .ok (.goto 17, 3) := by decide +kernel
theorem dL_law_1457 : decode cL_law 1457 = .ok (.aload_n 1, 1) := by decide +kernel
theorem dL_law_1458 : decode cL_law 1458 = .ok (.invokevirtual 153, 3) := by decide +kernel
theorem dL_law_1461 : decode cL_law 1461 = .ok (.aload_n 2, 1) := by decide +kernel
theorem dL_law_1462 : decode cL_law 1462 = .ok (.invokevirtual 157, 3) := by decide +kernel
theorem dL_law_1465 : decode cL_law 1465 = .ok (.lcmp, 1) := by decide +kernel
theorem dL_law_1466 : decode cL_law 1466 = .ok (.ifCond .eq 5, 3) := by decide +kernel
theorem dL_law_1469 : decode cL_law 1469 = .ok (.iconst 0, 1) := by decide +kernel
end
section
section WORDS
/-- all good words of the tables: every method's own list is its code and these -/
def BIG : List Cond := lw_tbl.filter goodWord
theorem kB (i : Nat) {w : Cond} (h : tables_1[i]? = some w) (hg : goodWord w = true) : w ∈ BIG := List.mem_filter.mpr ⟨List.mem_append_right _ (List.mem_of_getElem? h), hg⟩
theorem kBs (i : Nat) {w : Cond} (h : (k2_sels lw_privs)[i]? = some w) (hg : goodWord w = true) : w ∈ BIG := List.mem_filter.mpr ⟨List.mem_append_left _ (List.mem_of_getElem? h), hg⟩
theorem kBu {ws : List Cond} (h : ∀ w ∈ ws, w ∈ lw_tbl) (hg : ws.all goodWord = true) : ∀ w ∈ ws, w ∈ BIG := fun w hw => List.mem_filter.mpr ⟨h w hw, List.all_eq_true.mp hg w hw⟩
theorem big_g {w : Cond} (h : w ∈ BIG) : w ∈ BIG ∧ ((w.onTables && w.keeps) = true ∨ ∃ ty, w = .arrayClass ty) := ⟨h, good_of_word (List.mem_filter.mp h).2⟩
theorem gB_0 {y : MethodName} {bytes : ByteArray} {maxL : Nat} {ret : Option FieldType} (h5 : Cond.code y bytes maxL ret ∈ BIG) : GoodIn BIG (.code y bytes maxL ret :: BIG) := fun w hw => by
  rcases List.mem_cons.mp hw with rfl | hw
  · exact big_g h5
  · exact big_g hw
theorem gB_H {y : MethodName} {bytes : ByteArray} {maxL : Nat} {ret : Option FieldType} {hh : List (Nat × Nat × Nat × Nat)} (h5 : Cond.codeWith y bytes maxL ret hh ∈ BIG) : GoodIn BIG (.codeWith y bytes maxL ret hh :: BIG) := fun w hw => by
  rcases List.mem_cons.mp hw with rfl | hw
  · exact big_g h5
  · exact big_g hw
theorem gB_app {a b : List Cond} (ha : ∀ w ∈ a, w ∈ BIG) (hb : GoodIn BIG b) : GoodIn BIG (a ++ b) := fun w hw => (List.mem_append.mp hw).elim (fun h => big_g (ha w h)) (hb w)
theorem gB_V {own C : String} {idx : Nat} {y : MethodName} {bytes : ByteArray} {maxL : Nat} {ret : Option FieldType} (h1 : Cond.methodLink own idx y ∈ BIG) (h2 : Cond.instanceMethod y ∈ BIG) (h3 : Cond.selects C y y ∈ BIG) (h4 : Cond.initialized C ∈ BIG) (h5 : Cond.code y bytes maxL ret ∈ BIG) : GoodIn BIG (wsV own idx C y (.code y bytes maxL ret :: BIG)) := by
  refine gB_app ?_ (gB_0 h5)
  intro w hw
  simp only [List.mem_cons, List.not_mem_nil, or_false] at hw
  rcases hw with rfl | rfl | rfl | rfl <;> assumption
theorem gB_S {own : String} {idx : Nat} {y : MethodName} {bytes : ByteArray} {maxL : Nat} {ret : Option FieldType} (h1 : Cond.methodLink own idx y ∈ BIG) (h2 : Cond.static y ∈ BIG) (h4 : Cond.initialized y.cls ∈ BIG) (h5 : Cond.code y bytes maxL ret ∈ BIG) : GoodIn BIG (va_wsS own idx y (.code y bytes maxL ret :: BIG)) := by
  refine gB_app ?_ (gB_0 h5)
  intro w hw
  simp only [List.mem_cons, List.not_mem_nil, or_false] at hw
  rcases hw with rfl | rfl | rfl <;> assumption
theorem gB_VH {own C : String} {idx : Nat} {y : MethodName} {bytes : ByteArray} {maxL : Nat} {ret : Option FieldType} {hh : List (Nat × Nat × Nat × Nat)} (h1 : Cond.methodLink own idx y ∈ BIG) (h2 : Cond.instanceMethod y ∈ BIG) (h3 : Cond.selects C y y ∈ BIG) (h4 : Cond.initialized C ∈ BIG) (h5 : Cond.codeWith y bytes maxL ret hh ∈ BIG) : GoodIn BIG (wsV own idx C y (.codeWith y bytes maxL ret hh :: BIG)) := by
  refine gB_app ?_ (gB_H h5)
  intro w hw
  simp only [List.mem_cons, List.not_mem_nil, or_false] at hw
  rcases hw with rfl | rfl | rfl | rfl <;> assumption
theorem gB_SH {own : String} {idx : Nat} {y : MethodName} {bytes : ByteArray} {maxL : Nat} {ret : Option FieldType} {hh : List (Nat × Nat × Nat × Nat)} (h1 : Cond.methodLink own idx y ∈ BIG) (h2 : Cond.static y ∈ BIG) (h4 : Cond.initialized y.cls ∈ BIG) (h5 : Cond.codeWith y bytes maxL ret hh ∈ BIG) : GoodIn BIG (va_wsS own idx y (.codeWith y bytes maxL ret hh :: BIG)) := by
  refine gB_app ?_ (gB_H h5)
  intro w hw
  simp only [List.mem_cons, List.not_mem_nil, or_false] at hw
  rcases hw with rfl | rfl | rfl <;> assumption
/-- the words of a throw of the class's own -/
abbrev kEx : List String := ["java/lang/RuntimeException", "java/lang/Exception"]
/-- the words that are not good, but go with the tables -/
def kmv : Cond → Bool
  | .methodLinkNest .. => true
  | .fieldLinkNest .. => true
  | .declares _ => true
  | .castable .. => true
  | _ => false
def KOW : List Cond := lw_tbl.filter kmv
theorem kO (i : Nat) {w : Cond} (h : tables_1[i]? = some w) (hg : kmv w = true) : w ∈ KOW := List.mem_filter.mpr ⟨List.mem_append_right _ (List.mem_of_getElem? h), hg⟩
theorem kmv_t {w : Cond} (h : kmv w = true) : w.onTables = true := by
  cases w <;> first | rfl | (simp [kmv] at h)
theorem kmv_w {w : Cond} (h : kmv w = true) {s U : State} (hW : s.WarmedH U.vm) (z : va_Nw w s) : va_Nw w U := by
  cases w <;> first | exact z.warmM hW | exact z.warmF hW | exact z.warmD hW | exact z.warmC hW | (simp [kmv] at h)
theorem xw_2 : ∀ w ∈ vx_atS RX5 62 "java/lang/IllegalArgumentException" kEx, w ∈ lw_tbl ∧ (goodWord w || kmv w) = true := by decide +kernel
theorem xw_3 : ∀ w ∈ vx_atS RX5 73 "java/lang/IllegalStateException" kEx, w ∈ lw_tbl ∧ (goodWord w || kmv w) = true := by decide +kernel
theorem xw_1 : ∀ w ∈ vx_atS RX5 78 "java/lang/IndexOutOfBoundsException" kEx, w ∈ lw_tbl ∧ (goodWord w || kmv w) = true := by decide +kernel
theorem xw_use {args : Array Value} {s : State} {w : Cond} (hts : ∀ w ∈ BIG, w.before args s = true) (hO : ∀ w ∈ KOW, va_Nw w s) (h : w ∈ lw_tbl ∧ (goodWord w || kmv w) = true) : w.before args s = true := by
  cases g : goodWord w with
  | true => exact hts w (List.mem_filter.mpr ⟨h.1, g⟩)
  | false =>
    have k : kmv w = true := by have := h.2; rw [g] at this; simpa using this
    exact (hO w (List.mem_filter.mpr ⟨h.1, k⟩)).use (kmv_t k)
theorem xh_1 {args : Array Value} {s : State} (hts : ∀ w ∈ BIG, w.before args s = true) (hO : ∀ w ∈ KOW, va_Nw w s) : ∀ w ∈ vx_atS RX5 78 "java/lang/IndexOutOfBoundsException" kEx, w.before args s = true := fun w hw => xw_use hts hO (xw_1 w hw)
theorem xh_2 {args : Array Value} {s : State} (hts : ∀ w ∈ BIG, w.before args s = true) (hO : ∀ w ∈ KOW, va_Nw w s) : ∀ w ∈ vx_atS RX5 62 "java/lang/IllegalArgumentException" kEx, w.before args s = true := fun w hw => xw_use hts hO (xw_2 w hw)
theorem xh_3 {args : Array Value} {s : State} (hts : ∀ w ∈ BIG, w.before args s = true) (hO : ∀ w ∈ KOW, va_Nw w s) : ∀ w ∈ vx_atS RX5 73 "java/lang/IllegalStateException" kEx, w.before args s = true := fun w hw => xw_use hts hO (xw_3 w hw)
theorem xg_1 : ∀ w ∈ Cond.classLink RX5 74 "java/lang/IndexOutOfBoundsException" :: Cond.initialized "java/lang/IndexOutOfBoundsException" :: vx_atS RX5 78 "java/lang/IndexOutOfBoundsException" kEx, vx_ot w = true := by decide +kernel
theorem xg_2 : ∀ w ∈ Cond.classLink RX5 58 "java/lang/IllegalArgumentException" :: Cond.initialized "java/lang/IllegalArgumentException" :: vx_atS RX5 62 "java/lang/IllegalArgumentException" kEx, vx_ot w = true := by decide +kernel
theorem xg_3 : ∀ w ∈ Cond.classLink RX5 69 "java/lang/IllegalStateException" :: Cond.initialized "java/lang/IllegalStateException" :: vx_atS RX5 73 "java/lang/IllegalStateException" kEx, vx_ot w = true := by decide +kernel
end WORDS
section KIT
/-! WORLDS BY IDS: a cell has a kind f and an owner o; its address is ad f o, what it holds ce f o; L lists the ids that are there -/
def wl (L : List (Nat × Nat)) (ad : Nat → Nat → Nat) (ce : Nat → Nat → va_E) : va_W := L.map fun i => (ad i.1 i.2, ce i.1 i.2)
def up2 (ce : Nat → Nat → va_E) (f o : Nat) (e : va_E) : Nat → Nat → va_E := fun f' => if f' = f then (fun o' => if o' = o then e else ce f o') else ce f'
def up3 (S : Nat → Nat → Nat → Int32) (f o k : Nat) (v : Int32) : Nat → Nat → Nat → Int32 := fun f' => if f' = f then (fun o' => if o' = o then upd (S f o) k v else S f o') else S f'
theorem up2_eq {ce : Nat → Nat → va_E} {f o : Nat} {e : va_E} : up2 ce f o e f o = e := by unfold up2; rw [if_pos rfl, if_pos rfl]
theorem up2_ne {ce : Nat → Nat → va_E} {f o : Nat} {e : va_E} {i : Nat × Nat} (h : i ≠ (f, o)) : up2 ce f o e i.1 i.2 = ce i.1 i.2 := by
  unfold up2
  by_cases h1 : i.1 = f
  · rw [if_pos h1]
    by_cases h2 : i.2 = o
    · exact absurd (Prod.ext h1 h2) h
    · rw [if_neg h2, h1]
  · rw [if_neg h1]
theorem wl_at {L : List (Nat × Nat)} {ad : Nat → Nat → Nat} {ce : Nat → Nat → va_E} {k f o : Nat} (h : L[k]? = some (f, o)) : (wl L ad ce)[k]? = some (ad f o, ce f o) := by
  unfold wl; rw [List.getElem?_map, h]; rfl
theorem wl_in {L : List (Nat × Nat)} {f o : Nat} (h : (f, o) ∈ L) : ∃ k : Nat, L[k]? = some (f, o) := List.mem_iff_getElem?.mp h
theorem wl_set {A : Nat → Prop} {L : List (Nat × Nat)} {ad : Nat → Nat → Nat} {ce : Nat → Nat → va_E} {k f o : Nat} {e : va_E} (hD : va_D A (wl L ad ce)) (hk : L[k]? = some (f, o)) : (wl L ad ce).set k (ad f o, e) = wl L ad (up2 ce f o e) := by
  apply List.ext_getElem?
  intro i
  rw [List.getElem?_set]
  by_cases hi : k = i
  · subst hi
    rw [if_pos rfl]
    have hlt : k < (wl L ad ce).length := by
      unfold wl; rw [List.length_map]; exact (List.getElem?_eq_some_iff.mp hk).1
    rw [if_pos hlt, wl_at hk, up2_eq]
  · rw [if_neg hi]
    unfold wl
    rw [List.getElem?_map, List.getElem?_map]
    cases hq : L[i]? with
    | none => rfl
    | some j =>
      have hj : j ≠ (f, o) := by
        intro e1
        subst e1
        exact hi (hD.1 k i _ _ (wl_at hk) (wl_at hq) rfl)
      show some (ad j.1 j.2, ce j.1 j.2) = some (ad j.1 j.2, up2 ce f o e j.1 j.2)
      rw [up2_ne hj]
/-- the world at a heap H, on the way from H0 -/
def wk (D : va_G) (A : Nat → Prop) (L : List (Nat × Nat)) (ad : Nat → Nat → Nat) (ce : Nat → Nat → va_E) (H0 H : Heap) (locs : List Loc) : Prop := va_P D vwCl (wl L ad ce) H ∧ va_D A (wl L ad ce) ∧ va_S A H0 H locs
variable {p : Program} {l : Launch} {e : Env} {R : Room} {s : State} {m : MethodId} {args : Array Value} {below : List Frame} {meth : Method} {c : Code} {H : Heap} {locs : List Loc} {cells slots : Nat} {Q : State → Prop} {cc : ByteArray} {pc : Nat} {ls : Array Slot} {rest : List Value} {D : va_G} {A : Nat → Prop} {tys : List (ClassId × FieldType)} {H0 : Heap} {L : List (Nat × Nat)} {ad : Nat → Nat → Nat} {ce : Nat → Nat → va_E}
theorem k_get (hx : p.tables.exec = Jvm.exec) (hb : c.code = cc) {own ref C : String} {T : u_T} {N ci index : Nat} {Ts : List Cond} (hts : ∀ w ∈ Ts, w.before args s = true) (hin : ∀ w ∈ u_ws C T N, w ∈ Ts) (hown : s.vm.findClass own = some m.cls) (hK : va_K D vwCl tys s) (hw : wk D A L ad ce H0 H locs) {f o : Nat} (hi : (f, o) ∈ L) {fs : List Value} (he : ce f o = .inr (ci, fs)) (hc : vwCl[ci]? = some (C, T, N)) (k : Nat) (hk : k < N) (hlink : (Cond.fieldLink own index ref (T k).2.1 (T k).2.2.1).before args s = true) (hsame : ∀ x, s.fieldFound? (T k).1 (T k).2.1 (T k).2.2.1 = some x → s.fieldFound? ref (T k).2.1 (T k).2.2.1 = some x) {v : Value} (hv : fs[k]? = some v) (hdg : decode cc pc = .ok (.getfield index, 3))
    (kk : W p l e R s m args below meth c H locs cells slots Q (F0 m (pc + 3) ls (v :: rest))) : W p l e R s m args below meth c H locs cells slots Q (F0 m pc ls (.ref (ad f o) :: rest)) := by
  obtain ⟨q, hq⟩ := wl_in hi
  exact va_get hx hb hts hin hown hK hw.1 q ((wl_at hq).trans (by rw [he])) hc k hk hlink hsame hv hdg kk
theorem k_put (hx : p.tables.exec = Jvm.exec) (hb : c.code = cc) {own ref C : String} {T : u_T} {N ci index : Nat} {Ts : List Cond} (hts : ∀ w ∈ Ts, w.before args s = true) (hin : ∀ w ∈ u_ws C T N, w ∈ Ts) (ty0 : Nat → FieldType) (hty : ∀ k, k < N → parseFieldDescriptor (T k).2.2.1 = some (ty0 k)) (hnm : ∀ a, a < N → ∀ b, b < N → a ≠ b → (T a).2.1 ≠ (T b).2.1) (hown : s.vm.findClass own = some m.cls) (hK : va_K D vwCl tys s) (hw : wk D A L ad ce H0 H locs) {f o : Nat} (hi : (f, o) ∈ L) {fs : List Value} (he : ce f o = .inr (ci, fs)) (hc : vwCl[ci]? = some (C, T, N)) (k : Nat) (hk : k < N) (hlink : (Cond.fieldLink own index ref (T k).2.1 (T k).2.2.1).before args s = true) (hsame : ∀ x, s.fieldFound? (T k).1 (T k).2.1 (T k).2.2.1 = some x → s.fieldFound? ref (T k).2.1 (T k).2.2.1 = some x) (hfin : (T k).2.2.2 = false) {ty : FieldType} {v : Value} (hd : parseFieldDescriptor (T k).2.2.1 = some ty) (hn : narrow ty v = v) (hfit : fits ty v = true) (hl : k < fs.length) {ce' : Nat → Nat → va_E} (hce : up2 ce f o (.inr (ci, fs.set k v)) = ce')
    (hdg : decode cc pc = .ok (.putfield index, 3)) (kk : ∀ (H1 : Heap) (locs1 : List Loc), wk D A L ad ce' H0 H1 locs1 → W p l e R s m args below meth c H1 locs1 cells slots Q (F0 m (pc + 3) ls rest)) : W p l e R s m args below meth c H locs cells slots Q (F0 m pc ls (v :: .ref (ad f o) :: rest)) := by
  obtain ⟨q, hq⟩ := wl_in hi
  subst hce
  refine va_put hx hb hts hin ty0 hty hnm hown hK hw.1 hw.2.1 hw.2.2 q ((wl_at hq).trans (by rw [he])) hc k hk hlink hsame hfin hd hn hfit hl hdg (fun H1 locs1 h1 h2 h3 => kk H1 locs1 ⟨?_, ?_, h3⟩)
  · rw [wl_set hw.2.1 hq] at h1; exact h1
  · rw [wl_set hw.2.1 hq] at h2; exact h2
theorem k_putF (hx : p.tables.exec = Jvm.exec) (hb : c.code = cc) {own ref C : String} {T : u_T} {N ci index : Nat} {Ts : List Cond} (hts : ∀ w ∈ Ts, w.before args s = true) (hin : ∀ w ∈ u_ws C T N, w ∈ Ts) (ty0 : Nat → FieldType) (hty : ∀ k, k < N → parseFieldDescriptor (T k).2.2.1 = some (ty0 k)) (hnm : ∀ a, a < N → ∀ b, b < N → a ≠ b → (T a).2.1 ≠ (T b).2.1) (hown : s.vm.findClass own = some m.cls) (hK : va_K D vwCl tys s) (hw : wk D A L ad ce H0 H locs) {f o : Nat} (hi : (f, o) ∈ L) {fs : List Value} (he : ce f o = .inr (ci, fs)) (hc : vwCl[ci]? = some (C, T, N)) (k : Nat) (hk : k < N) (hlink : (Cond.fieldLink own index ref (T k).2.1 (T k).2.2.1).before args s = true) (hsame : ∀ x, s.fieldFound? (T k).1 (T k).2.1 (T k).2.2.1 = some x → s.fieldFound? ref (T k).2.1 (T k).2.2.1 = some x) (hfin : (T k).2.2.2 = true) (hin2 : meth.name = "<init>") (hdecl : (T k).1 = own) {ty : FieldType} {v : Value} (hd : parseFieldDescriptor (T k).2.2.1 = some ty) (hn : narrow ty v = v) (hfit : fits ty v = true) (hl : k < fs.length) {ce' : Nat → Nat → va_E} (hce : up2 ce f o (.inr (ci, fs.set k v)) = ce')
    (hdg : decode cc pc = .ok (.putfield index, 3)) (kk : ∀ (H1 : Heap) (locs1 : List Loc), wk D A L ad ce' H0 H1 locs1 → W p l e R s m args below meth c H1 locs1 cells slots Q (F0 m (pc + 3) ls rest)) : W p l e R s m args below meth c H locs cells slots Q (F0 m pc ls (v :: .ref (ad f o) :: rest)) := by
  obtain ⟨q, hq⟩ := wl_in hi
  subst hce
  refine va_putF hx hb hts hin ty0 hty hnm hown hK hw.1 hw.2.1 hw.2.2 q ((wl_at hq).trans (by rw [he])) hc k hk hlink hsame hfin hin2 hdecl hd hn hfit hl hdg (fun H1 locs1 h1 h2 h3 => kk H1 locs1 ⟨?_, ?_, h3⟩)
  · rw [wl_set hw.2.1 hq] at h1; exact h1
  · rw [wl_set hw.2.1 hq] at h2; exact h2
/-- an int row read at any index -/
theorem k_ald (hx : p.tables.exec = Jvm.exec) (hb : c.code = cc) (hK : va_K D vwCl tys s) (hw : wk D A L ad ce H0 H locs) {f o : Nat} (hi : (f, o) ∈ L) (t0 : Nat) {cA : ClassId} {n : Nat} {g : Nat → Int32} (he : ce f o = .inl (cA, n, .inl g)) (ht : tys[t0]? = some (cA, .int)) {i : Int32} (hin : vp_in i n) (hdg : decode cc pc = .ok (.iaload, 1))
    (kk : W p l e R s m args below meth c H locs cells slots Q (F0 m (pc + 1) ls (.int (g i.toNatClampNeg) :: rest))) : W p l e R s m args below meth c H locs cells slots Q (F0 m pc ls (.int i :: .ref (ad f o) :: rest)) := by
  obtain ⟨q, hq⟩ := wl_in hi
  exact va_iald hx hb hK hw.1 q t0 ((wl_at hq).trans (by rw [he])) ht hin hdg kk
/-- .. at an index that is a number -/
theorem k_aldn (hx : p.tables.exec = Jvm.exec) (hb : c.code = cc) (hK : va_K D vwCl tys s) (hw : wk D A L ad ce H0 H locs) {f o : Nat} (hi : (f, o) ∈ L) (t0 : Nat) {cA : ClassId} {n : Nat} {g : Nat → Int32} (he : ce f o = .inl (cA, n, .inl g)) (ht : tys[t0]? = some (cA, .int)) {i : Nat} (hin : i < n) (hn : n < 2 ^ 31) (hdg : decode cc pc = .ok (.iaload, 1))
    (kk : W p l e R s m args below meth c H locs cells slots Q (F0 m (pc + 1) ls (.int (g i) :: rest))) : W p l e R s m args below meth c H locs cells slots Q (F0 m pc ls (.int (nI i) :: .ref (ad f o) :: rest)) :=
  k_ald hx hb hK hw hi t0 he ht (vp_in_nI hin hn) hdg (by rw [nI_clamp (Nat.lt_trans hin hn)]; exact kk)
theorem k_ast (hx : p.tables.exec = Jvm.exec) (hb : c.code = cc) (hK : va_K D vwCl tys s) (hw : wk D A L ad ce H0 H locs) {f o : Nat} (hi : (f, o) ∈ L) (t0 : Nat) {cA : ClassId} {n : Nat} {g : Nat → Int32} (he : ce f o = .inl (cA, n, .inl g)) (ht : tys[t0]? = some (cA, .int)) {i x : Int32} (hin : vp_in i n) {ce' : Nat → Nat → va_E} (hce : up2 ce f o (.inl (cA, n, .inl (upd g i.toNatClampNeg x))) = ce') (hdg : decode cc pc = .ok (.iastore, 1))
    (kk : ∀ (H1 : Heap) (locs1 : List Loc), wk D A L ad ce' H0 H1 locs1 → W p l e R s m args below meth c H1 locs1 cells slots Q (F0 m (pc + 1) ls rest)) : W p l e R s m args below meth c H locs cells slots Q (F0 m pc ls (.int x :: .int i :: .ref (ad f o) :: rest)) := by
  obtain ⟨q, hq⟩ := wl_in hi
  subst hce
  refine va_iast hx hb hK hw.1 hw.2.1 hw.2.2 q t0 ((wl_at hq).trans (by rw [he])) ht hin hdg (fun H1 locs1 h1 h2 h3 => kk H1 locs1 ⟨?_, ?_, h3⟩)
  · rw [wl_set hw.2.1 hq] at h1; exact h1
  · rw [wl_set hw.2.1 hq] at h2; exact h2
theorem k_astn (hx : p.tables.exec = Jvm.exec) (hb : c.code = cc) (hK : va_K D vwCl tys s) (hw : wk D A L ad ce H0 H locs) {f o : Nat} (hi : (f, o) ∈ L) (t0 : Nat) {cA : ClassId} {n : Nat} {g : Nat → Int32} (he : ce f o = .inl (cA, n, .inl g)) (ht : tys[t0]? = some (cA, .int)) {i : Nat} {x : Int32} (hin : i < n) (hn : n < 2 ^ 31) {ce' : Nat → Nat → va_E} (hce : up2 ce f o (.inl (cA, n, .inl (upd g i x))) = ce') (hdg : decode cc pc = .ok (.iastore, 1))
    (kk : ∀ (H1 : Heap) (locs1 : List Loc), wk D A L ad ce' H0 H1 locs1 → W p l e R s m args below meth c H1 locs1 cells slots Q (F0 m (pc + 1) ls rest)) : W p l e R s m args below meth c H locs cells slots Q (F0 m pc ls (.int x :: .int (nI i) :: .ref (ad f o) :: rest)) :=
  k_ast hx hb hK hw hi t0 he ht (vp_in_nI hin hn) (by rw [nI_clamp (Nat.lt_trans hin hn)]; exact hce) hdg kk
/-- a reference row read -/
theorem k_aldq (hx : p.tables.exec = Jvm.exec) (hb : c.code = cc) (hK : va_K D vwCl tys s) (hw : wk D A L ad ce H0 H locs) {f o : Nat} (hi : (f, o) ∈ L) (t0 : Nat) {cA : ClassId} {C : String} {n : Nat} {g : Nat → Option Nat} (he : ce f o = .inl (cA, n, .inr (.inr (.inr (.inr g))))) (ht : tys[t0]? = some (cA, .object C)) {i : Int32} (hin : vp_in i n) {a : Nat} (ha : g i.toNatClampNeg = some a) (hdg : decode cc pc = .ok (.aaload, 1))
    (kk : W p l e R s m args below meth c H locs cells slots Q (F0 m (pc + 1) ls (.ref a :: rest))) : W p l e R s m args below meth c H locs cells slots Q (F0 m pc ls (.int i :: .ref (ad f o) :: rest)) := by
  obtain ⟨q, hq⟩ := wl_in hi
  exact va_aldq hx hb hK hw.1 q t0 ((wl_at hq).trans (by rw [he])) ht hin hdg (by rw [ha]; exact kk)
end KIT
section KIT2
def kstr : List (String × Nat × String) := [(RX5, 60, "no STEP can be so"), (RX5, 71, "there are all STEPS that can be"), (RX5, 76, "no such ROLE"), (RX5, 79, "no such set of STEPS"), (RX5, 89, "there are all RIGHTS that can be"), (RX5, 91, "no such ITEM"), (RX5, 93, "not so many at once"), (RX5, 105, "no ORDER can be so"), (RX5, 111, "there are all ORDERS that can be"), (RX5, 124, "no such STEP"), (RX5, 129, "no SESSION can be so"), (RX5, 134, "there are all SESSIONS that can be"), (RX5, 142, "no such SESSION"), (RX5, 144, "nothing of a SESSION is told so"), (RX5, 158, "nothing of an ITEM is told so"), (RX5, 172, "nobody can START then"), (RX5, 177, "nobody can join with that ROLE"), (RX5, 193, "it has LEFT"), (RX5, 208, "it is the last DAY"), (RX5, 229, "no such STEP of that JOINER"), (RX5, 231, "nothing of a STEP is told so"), (RX5, 241, "nothing of a JOINER is told so"), (RX5, 247, "nothing is counted so"), (RX5, 271, "no such RIGHT"), (RX5, 303, "no such ORDER"), (RX5, 305, "not so many DAYS later"), (RX5, 310, "it came"), (RX5, 312, "no such JOINER")]
def knc : List (String × String) := [("java/lang/IllegalArgumentException", "java/lang/IndexOutOfBoundsException"), ("java/lang/IllegalStateException", "java/lang/IndexOutOfBoundsException"), ("java/lang/IllegalStateException", "java/lang/IllegalArgumentException")]
/-- what is old: statics, texts, nest mates; nothing in A; K0: the empty row, the cache of Integers -/
def OW (A : Nat → Prop) (K0 : Nat → Nat) (U : State) : Prop :=
  (vx_Zq Bundle.tN "UNASSIGNED_STACK" Bundle.steD A U U.heap ∧ vx_Zq Bundle.tN "SUPPRESSED_SENTINEL" Bundle.listD A U U.heap) ∧
  (∀ q ∈ kstr, ∃ sa, vk_R q.1 q.2.1 q.2.2 sa U) ∧
  (∀ w ∈ KOW, va_Nw w U) ∧
  (va_Fw "java/util/ArrayList$Itr" ⟨"java/util/Iterator", "hasNext", "()Z"⟩ yJx35411_hasNext_aae02 U ∧ va_Fw "java/util/ArrayList$Itr" ⟨"java/util/Iterator", "next", "()Ljava/lang/Object;"⟩ yJx35411_next_0502b U ∧ va_Mi "[Ljava/lang/Object;" (K0 300) U) ∧
  (va_AO "OnboardingWorks$Joiner" U ∧ va_AO "java/lang/Object" U) ∧
  (va_Z "java/util/ArrayList" "DEFAULTCAPACITY_EMPTY_ELEMENTDATA" "[Ljava/lang/Object;" (.ref (K0 0)) A U U.heap ∧ va_T (.object "java/lang/Object") (K0 0) 0 (fun _ => .null) A U U.heap) ∧
  (va_Z "java/lang/Integer$IntegerCache" "high" "I" (.int 127) A U U.heap ∧ va_Z "java/lang/Integer$IntegerCache" "cache" "[Ljava/lang/Integer;" (.ref (K0 1)) A U U.heap ∧ va_T (.object "java/lang/Integer") (K0 1) 256 (fun k => .ref (K0 (2 + k))) A U U.heap ∧ vb_C (fun k => K0 (2 + k)) A U U.heap) ∧
  (∀ q ∈ knc, va_Nc q.1 q.2 U)
theorem OW.go {A : Nat → Prop} {K0 : Nat → Nat} {s U : State} {H : Heap} {locs : List Loc} (h : OW A K0 s) (hS : va_S A s.heap H locs) (hU : U.heap = H) (hW : s.WarmedH U.vm) : OW A K0 U := by
  obtain ⟨⟨a1, a2⟩, b, c, ⟨d1, d2, d3⟩, ⟨e1, e2⟩, ⟨f1, f2⟩, ⟨g1, g2, g3, g4⟩, i⟩ := h
  have al := hW.alike
  have hk : ∀ a : Nat, a < s.heap.size → ¬ A a → U.heap[a]? = s.heap[a]? := fun a x y => by rw [hU]; exact hS.2.1 a x y
  exact ⟨⟨(a1.moved al).kept hk, (a2.moved al).kept hk⟩, fun q hq => (b q hq).imp fun _ z => z.warm hW, fun q hq => kmv_w (List.mem_filter.mp hq).2 hW (c q hq), ⟨d1.moved (by decide) al, d2.moved (by decide) al, d3.moved al⟩, ⟨e1.moved al, e2.moved al⟩, ⟨(f1.moved al).kept hk, (f2.moved al).kept hk⟩, ⟨(g1.moved al).kept hk, (g2.moved al).kept hk, (g3.moved al).kept hk, (g4.moved al).kept hk⟩, fun q hq => (i q hq).moved al⟩
theorem OW.cal {A : Nat → Prop} {K0 : Nat → Nat} {U : State} (g : JFrame) (mk : MethodId) (a : Array Value) (h : OW A K0 U) : OW A K0 (U.calling g mk a) := by
  obtain ⟨⟨a1, a2⟩, b, c, ⟨d1, d2, d3⟩, ⟨e1, e2⟩, ⟨f1, f2⟩, ⟨g1, g2, g3, g4⟩, i⟩ := h
  have al : U.vm.Alike (U.calling g mk a).vm := Vm.Alike.refl U.vm
  exact ⟨⟨a1.moved al, a2.moved al⟩, fun q hq => (b q hq).imp fun _ z => z.same rfl, fun q hq => va_Nw.same (u := U) (U := U.calling g mk a) (kmv_t (List.mem_filter.mp hq).2) rfl (c q hq), ⟨d1.moved (by decide) al, d2.moved (by decide) al, d3.moved al⟩, ⟨e1.moved al, e2.moved al⟩, ⟨f1.moved al, f2.moved al⟩, ⟨g1.moved al, g2.moved al, g3.moved al, g4.moved al⟩, fun q hq => (i q hq).moved al⟩
def ktys (cI cG cJ cO : ClassId) : List (ClassId × FieldType) := [(cI, .int), (cG, .long), (cJ, .object "OnboardingWorks$Joiner"), (cO, .object "java/lang/Object")]
/-- a method's start: this world -/
def WS (D : va_G) (tys : List (ClassId × FieldType)) (K0 : Nat → Nat) (A : Nat → Prop) (L : List (Nat × Nat)) (ad : Nat → Nat → Nat) (ce : Nat → Nat → va_E) (sz : Nat) (U : State) : Prop :=
  U.heap.size = sz ∧ va_P D vwCl (wl L ad ce) U.heap ∧ va_D A (wl L ad ce) ∧ va_K D vwCl tys U ∧ OW A K0 U
/-- .. and its end -/
def WE (D : va_G) (A : Nat → Prop) (L : List (Nat × Nat)) (ad : Nat → Nat → Nat) (ce : Nat → Nat → va_E) (t : State) : Prop := va_P D vwCl (wl L ad ce) t.heap ∧ va_D A (wl L ad ce)
abbrev kP (D : va_G) (tys : List (ClassId × FieldType)) (K0 : Nat → Nat) (A : Nat → Prop) (L : List (Nat × Nat)) (ad : Nat → Nat → Nat) (ce : Nat → Nat → va_E) (sz : Nat) (as : List Value) : Array Value → State → Prop := va_Pc as (WS D tys K0 A L ad ce sz)
abbrev kQi (D : va_G) (A : Nat → Prop) (v : Int32) (L : List (Nat × Nat)) (ad : Nat → Nat → Nat) (ce : Nat → Nat → va_E) : Array Value → State → Outcome → State → Prop := va_Qi (fun (r : Int32) (_ : Unit) => r = v) (fun _ t => WE D A L ad ce t) A
abbrev kQl (D : va_G) (A : Nat → Prop) (v : Int64) (L : List (Nat × Nat)) (ad : Nat → Nat → Nat) (ce : Nat → Nat → va_E) : Array Value → State → Outcome → State → Prop := va_Ql (fun (r : Int64) (_ : Unit) => r = v) (fun _ t => WE D A L ad ce t) A
abbrev kQv (D : va_G) (A : Nat → Prop) (L : List (Nat × Nat)) (ad : Nat → Nat → Nat) (ce : Nat → Nat → va_E) : Array Value → State → Outcome → State → Prop := va_Qv (fun (_ : Unit) => True) (fun _ t => WE D A L ad ce t) A
abbrev kQr (D : va_G) (A : Nat → Prop) (v : Nat) (L : List (Nat × Nat)) (ad : Nat → Nat → Nat) (ce : Nat → Nat → va_E) : Array Value → State → Outcome → State → Prop := va_Qr (fun (_ : Unit) => True) (fun _ a t => a = v ∧ WE D A L ad ce t) A
variable {p : Program} {l : Launch} {e : Env} {R : Room} {s : State} {m : MethodId} {args : Array Value} {below : List Frame} {meth : Method} {c : Code} {H : Heap} {locs : List Loc} {cells slots : Nat} {Q : State → Prop} {cc : ByteArray} {pc : Nat} {ls : Array Slot} {rest st0 : List Value} {D : va_G} {A : Nat → Prop} {tys : List (ClassId × FieldType)} {K0 : Nat → Nat} {L L' : List (Nat × Nat)} {ad ad' : Nat → Nat → Nat} {ce ce' : Nat → Nat → va_E}
variable {y : MethodName} {bytes : ByteArray} {maxL nL mc ms n index : Nat} {ret : Option FieldType} {ws : List Cond} {rm : Room} {Ts : List Cond} {own C host : String} {As : List Value}
theorem WS.blind {sz : Nat} {as : List Value} : FrameBlind (kP D tys K0 A L ad ce sz as) := fun a U g mk q => by
  obtain ⟨q0, q1, qP, qD, qK, qO⟩ := q
  exact ⟨q0, q1, qP, qD, va_K.moved (u := U) (U := U.calling g mk a) (Vm.Alike.refl U.vm) qK, qO.cal g mk a⟩
theorem WS.at (hK : va_K D vwCl tys s) (hO : OW A K0 s) (hw : wk D A L ad ce s.heap H locs) (as : List Value) : ∀ U : State, U.heap = H → s.WarmedH U.vm → kP D tys K0 A L ad ce H.size as as.toArray U := fun U hU hW =>
  ⟨rfl, by rw [hU], by rw [hU]; exact hw.1, hw.2.1, va_K.moved hW.alike hK, hO.go hw.2.2 hU hW⟩
theorem wk.recv (hK : va_K D vwCl tys s) (hw : wk D A L ad ce s.heap H locs) {f o : Nat} (hi : (f, o) ∈ L) {ci : Nat} {fs : List Value} (he : ce f o = .inr (ci, fs)) {q : vw_C} (hc : vwCl[ci]? = some q) : ∃ cell : Cell, H[ad f o]? = some cell ∧ cell.vm.isStatics = false ∧ s.vm.findClass q.1 = some cell.cls := by
  obtain ⟨k, hk⟩ := wl_in hi
  exact va_recv hK hw.1 hc ((wl_at hk).trans (by rw [he]))
/-- what a call's row gives, whichever way it is made -/
abbrev kRun (p : Program) (l : Launch) (e : Env) (R : Room) (s : State) (m : MethodId) (args : Array Value) (below : List Frame) (meth : Method) (c : Code) (H : Heap) (locs : List Loc) (cells slots mc ms : Nat) (pc : Nat) (ls : Array Slot) (st0 rest : List Value) (A : Nat → Prop) (Qa : State → Outcome → State → Prop) : Prop := va_Run p l e R s m args below meth c H locs cells slots mc ms (F0 m pc ls st0) rest Qa A
theorem k_ci {v : Int32} {a : Array Value} (hw : wk D A L ad ce s.heap H locs) (hr : kRun p l e R s m args below meth c H locs cells slots mc ms pc ls st0 rest A (kQi D A v L' ad' ce' a))
    (kk : ∀ (H1 : Heap) (locs1 : List Loc), wk D A L' ad' ce' s.heap H1 locs1 → W p l e R s m args below meth c H1 locs1 (cells + mc) (slots + ms) Q (F0 m (pc + 3) ls (.int v :: rest))) : W p l e R s m args below meth c H locs cells slots Q (F0 m pc ls st0) :=
  va_calli hr hw.2.2 (fun _ _ h => h) (fun _ h => h) (fun r _ t H1 locs1 ht _ hp hB _ _ hS => by
    subst hp
    exact kk H1 locs1 ⟨by rw [← ht]; exact hB.1, hB.2, hS⟩)
theorem k_cl {v : Int64} {a : Array Value} (hw : wk D A L ad ce s.heap H locs) (hr : kRun p l e R s m args below meth c H locs cells slots mc ms pc ls st0 rest A (kQl D A v L' ad' ce' a))
    (kk : ∀ (H1 : Heap) (locs1 : List Loc), wk D A L' ad' ce' s.heap H1 locs1 → W p l e R s m args below meth c H1 locs1 (cells + mc) (slots + ms) Q (F0 m (pc + 3) ls (.long v :: rest))) : W p l e R s m args below meth c H locs cells slots Q (F0 m pc ls st0) :=
  va_calll hr hw.2.2 (fun _ _ h => h) (fun _ h => h) (fun r _ t H1 locs1 ht _ hp hB _ _ hS => by
    subst hp
    exact kk H1 locs1 ⟨by rw [← ht]; exact hB.1, hB.2, hS⟩)
theorem k_cv {a : Array Value} (hw : wk D A L ad ce s.heap H locs) (hr : kRun p l e R s m args below meth c H locs cells slots mc ms pc ls st0 rest A (kQv D A L' ad' ce' a))
    (kk : ∀ (H1 : Heap) (locs1 : List Loc), wk D A L' ad' ce' s.heap H1 locs1 → W p l e R s m args below meth c H1 locs1 (cells + mc) (slots + ms) Q (F0 m (pc + 3) ls rest)) : W p l e R s m args below meth c H locs cells slots Q (F0 m pc ls st0) :=
  va_callv hr hw.2.2 (fun _ _ h => h) (fun _ h => h) (fun _ t H1 locs1 ht _ _ hB _ _ hS => kk H1 locs1 ⟨by rw [← ht]; exact hB.1, hB.2, hS⟩)
theorem k_cr {v : Nat} {a : Array Value} (hw : wk D A L ad ce s.heap H locs) (hr : kRun p l e R s m args below meth c H locs cells slots mc ms pc ls st0 rest A (kQr D A v L' ad' ce' a))
    (kk : ∀ (H1 : Heap) (locs1 : List Loc), wk D A L' ad' ce' s.heap H1 locs1 → W p l e R s m args below meth c H1 locs1 (cells + mc) (slots + ms) Q (F0 m (pc + 3) ls (.ref v :: rest))) : W p l e R s m args below meth c H locs cells slots Q (F0 m pc ls st0) :=
  va_callr hr hw.2.2 (fun _ _ h => h) (fun _ h => h) (fun _ ra t H1 locs1 ht _ _ hB _ _ hS => by
    obtain ⟨rfl, hB⟩ := hB
    exact kk H1 locs1 ⟨by rw [← ht]; exact hB.1, hB.2, hS⟩)
/-- the receiver is the world's cell (f, o) -/
theorem k_rV {Qc : Array Value → State → Outcome → State → Prop} (F : CallFix p m c cc nL s args Ts own) (hK : va_K D vwCl tys s) (hO : OW A K0 s) (hw : wk D A L ad ce s.heap H locs) {f o : Nat} (hM : Met l y ws rm (kP D tys K0 A L ad ce H.size (.ref (ad f o) :: As)) Qc mc ms A) (cw : CallW R s args own C index y bytes maxL ret ws rm mc ms n) (hi : (f, o) ∈ L) {ci : Nat} {fs : List Value} (he : ce f o = .inr (ci, fs)) {T : u_T} {N : Nat} (hc : vwCl[ci]? = some (C, T, N)) (hn : As.length = n) (hsize : ls.size = nL) (hst : st0 = As.reverse ++ .ref (ad f o) :: rest) (hW : (rest.map fun v => v.category).sum ≤ 8) (hdg : decode cc pc = .ok (.invokevirtual index, 3)) (hf : cells + mc ≤ R.cells ∧ slots + ms ≤ R.slots) :
    kRun p l e R s m args below meth c H locs cells slots mc ms pc ls st0 rest A (Qc (Value.ref (ad f o) :: As).toArray) :=
  va_runV F hM cw ⟨WS.blind, wk.recv hK hw hi he hc, WS.at hK hO hw _⟩ rfl hn hsize hst (by show 2 * 0 + _ ≤ 8; omega) hdg hf
theorem k_rS {Qc : Array Value → State → Outcome → State → Prop} (F : CallFix p m c cc nL s args Ts own) (hK : va_K D vwCl tys s) (hO : OW A K0 s) (hw : wk D A L ad ce s.heap H locs) (hM : Met l y ws rm (kP D tys K0 A L ad ce H.size As) Qc mc ms A) (cw : CallB R s args own index y bytes maxL ret ws rm mc ms n ∧ (Cond.static y).before args s = true) (hn : As.length = n) (hsize : ls.size = nL) (hst : st0 = As.reverse ++ rest) (hW : (rest.map fun v => v.category).sum ≤ 8) (hdg : decode cc pc = .ok (.invokestatic index, 3)) (hf : cells + mc ≤ R.cells ∧ slots + ms ≤ R.slots) :
    kRun p l e R s m args below meth c H locs cells slots mc ms pc ls st0 rest A (Qc As.toArray) :=
  va_runS F hM cw ⟨WS.blind, WS.at hK hO hw _⟩ rfl hn hsize hst (by show 2 * 0 + _ ≤ 8; omega) hdg hf
theorem k_rSN {Qc : Array Value → State → Outcome → State → Prop} (F : CallFix p m c cc nL s args Ts own) (hK : va_K D vwCl tys s) (hO : OW A K0 s) (hw : wk D A L ad ce s.heap H locs) (hM : Met l y ws rm (kP D tys K0 A L ad ce H.size As) Qc mc ms A) (cw : va_CN R s args own index y host bytes maxL ret ws rm mc ms n ∧ (Cond.static y).before args s = true ∧ True) (hn : As.length = n) (hsize : ls.size = nL) (hst : st0 = As.reverse ++ rest) (hW : (rest.map fun v => v.category).sum ≤ 8) (hdg : decode cc pc = .ok (.invokestatic index, 3)) (hf : cells + mc ≤ R.cells ∧ slots + ms ≤ R.slots) :
    kRun p l e R s m args below meth c H locs cells slots mc ms pc ls st0 rest A (Qc As.toArray) :=
  va_runSN F hM cw ⟨WS.blind, WS.at hK hO hw _⟩ rfl hn hsize hst (by show 2 * 0 + _ ≤ 8; omega) hdg hf
theorem k_rI {Qc : Array Value → State → Outcome → State → Prop} (F : CallFix p m c cc nL s args Ts own) (hK : va_K D vwCl tys s) (hO : OW A K0 s) (hw : wk D A L ad ce s.heap H locs) {b : Nat} (hM : Met l y ws rm (kP D tys K0 A L ad ce H.size (.ref b :: As)) Qc mc ms A) (cw : CallB R s args own index y bytes maxL none ws rm mc ms n ∧ y.name = "<init>" ∧ (Cond.instanceMethod y).before args s = true) (hn : As.length = n) (hsize : ls.size = nL) (hst : st0 = As.reverse ++ .ref b :: rest) (hW : (rest.map fun v => v.category).sum ≤ 8) (hdg : decode cc pc = .ok (.invokespecial index, 3)) (hf : cells + mc ≤ R.cells ∧ slots + ms ≤ R.slots) :
    kRun p l e R s m args below meth c H locs cells slots mc ms pc ls st0 rest A (Qc (Value.ref b :: As).toArray) :=
  va_runI F hM cw ⟨WS.blind, WS.at hK hO hw _⟩ rfl hn hsize hst (by show 2 * 0 + _ ≤ 8; omega) hdg hf
theorem k_rIN {Qc : Array Value → State → Outcome → State → Prop} (F : CallFix p m c cc nL s args Ts own) (hK : va_K D vwCl tys s) (hO : OW A K0 s) (hw : wk D A L ad ce s.heap H locs) {b : Nat} (hM : Met l y ws rm (kP D tys K0 A L ad ce H.size (.ref b :: As)) Qc mc ms A) (cw : va_CN R s args own index y host bytes maxL none ws rm mc ms n ∧ y.name = "<init>" ∧ (Cond.instanceMethod y).before args s = true) (hn : As.length = n) (hsize : ls.size = nL) (hst : st0 = As.reverse ++ .ref b :: rest) (hW : (rest.map fun v => v.category).sum ≤ 8) (hdg : decode cc pc = .ok (.invokespecial index, 3)) (hf : cells + mc ≤ R.cells ∧ slots + ms ≤ R.slots) :
    kRun p l e R s m args below meth c H locs cells slots mc ms pc ls st0 rest A (Qc (Value.ref b :: As).toArray) :=
  va_runIN F hM cw ⟨WS.blind, WS.at hK hO hw _⟩ rfl hn hsize hst (by show 2 * 0 + _ ≤ 8; omega) hdg hf
/-- ends -/
theorem k_iret {v v0 : Int32} {ty : FieldType} (hx : p.tables.exec = Jvm.exec) (hb : c.code = cc) (hr : meth.sig.returnType = some ty) (hlocks : meth.locks = false) (hn : narrow ty (.int v) = .int v) (hw : wk D A L ad ce s.heap H locs) (hv : v0 = v) (hce : ce' = ce) (hdg : decode cc pc = .ok (.ireturn, 1)) : W p l e R s m args below meth c H locs cells slots (MQ below (kQi D A v0 L ad ce') args s cells slots A) (F0 m pc ls [.int v]) := by
  subst hv; subst hce
  exact W.zret hx hb hr hn (fun t ht _ => ⟨⟨_, (), rfl, rfl, by rw [ht]; exact hw.1, hw.2.1⟩, hw.2.2.F ht⟩) hw.2.2.2.2 hdg hlocks
theorem k_lret {v v0 : Int64} (hx : p.tables.exec = Jvm.exec) (hb : c.code = cc) (hr : meth.sig.returnType = some .long) (hlocks : meth.locks = false) (hw : wk D A L ad ce s.heap H locs) (hv : v0 = v) (hce : ce' = ce) (hdg : decode cc pc = .ok (.lreturn, 1)) : W p l e R s m args below meth c H locs cells slots (MQ below (kQl D A v0 L ad ce') args s cells slots A) (F0 m pc ls [.long v]) := by
  subst hv; subst hce
  exact W.lret hx hb hr (fun t ht _ => ⟨⟨_, (), rfl, rfl, by rw [ht]; exact hw.1, hw.2.1⟩, hw.2.2.F ht⟩) hw.2.2.2.2 hdg hlocks
theorem k_vret (hx : p.tables.exec = Jvm.exec) (hb : c.code = cc) (hr : meth.sig.returnType = none) (hlocks : meth.locks = false) (hw : wk D A L ad ce s.heap H locs) (hce : ce' = ce) (hdg : decode cc pc = .ok (.return_, 1)) : W p l e R s m args below meth c H locs cells slots (MQ below (kQv D A L ad ce') args s cells slots A) (F0 m pc ls []) := by
  subst hce
  exact W.vret hx hb hr (fun t ht _ => ⟨⟨(), rfl, trivial, by rw [ht]; exact hw.1, hw.2.1⟩, hw.2.2.F ht⟩) hw.2.2.2.2 hdg hlocks
theorem k_rret {v v0 : Nat} {rt : FieldType} (hx : p.tables.exec = Jvm.exec) (hb : c.code = cc) (hr : meth.sig.returnType = some rt) (hrt : (∃ n, rt = .object n) ∨ ∃ t, rt = .array t) (hlocks : meth.locks = false) (hw : wk D A L ad ce s.heap H locs) (hv : v0 = v) (hce : ce' = ce) (hdg : decode cc pc = .ok (.areturn, 1)) : W p l e R s m args below meth c H locs cells slots (MQ below (kQr D A v0 L ad ce') args s cells slots A) (F0 m pc ls [.ref v]) := by
  subst hv; subst hce
  exact W.aret hx hb hr hrt (Or.inr ⟨_, rfl⟩) (fun t ht _ => ⟨⟨(), _, rfl, trivial, rfl, by rw [ht]; exact hw.1, hw.2.1⟩, hw.2.2.F ht⟩) hw.2.2.2.2 hdg hlocks
/-- loops that count -/
theorem lp_o {i N : Nat} {b : Int32} (hb : b = nI N) (h : i + 0 = N) (hN : N < 2 ^ 31) : b ≤ nI i := by
  subst hb; subst h; exact nI_le (Nat.le_refl _) hN
theorem lp_i {i k N : Nat} {b : Int32} (hb : b = nI N) (h : i + (k + 1) = N) (hN : N < 2 ^ 31) : ¬ b ≤ nI i := by
  subst hb; exact nI_ge (by omega) hN
theorem lp_s {i k N : Nat} (h : i + (k + 1) = N) : i + 1 + k = N := by omega
theorem lp_l {i k N : Nat} (h : i + (k + 1) = N) : i < N := by omega
theorem k_in {x b : Int32} {n : Nat} (h1 : ¬ x < 0) (h2 : ¬ b ≤ x) (hb : b.toInt ≤ n) : vp_in x n := by
  rw [vp_in_iff]
  rw [Int32.lt_iff_toInt_lt] at h1
  rw [Int32.le_iff_toInt_le] at h2
  have h0 : (0 : Int32).toInt = 0 := rfl
  omega
theorem k_in' {x b : Int32} {n : Nat} (h1 : ¬ x < 0) (h2 : x < b) (hb : b.toInt ≤ n) : vp_in x n := by
  rw [vp_in_iff]
  rw [Int32.lt_iff_toInt_lt] at h1 h2
  have h0 : (0 : Int32).toInt = 0 := rfl
  omega
end KIT2
end
section
section
variable {p : Program} {l : Launch} {e : Env} {R : Room} {s : State} {m : MethodId} {args : Array Value} {below : List Frame} {meth : Method} {c : Code} {H : Heap} {locs : List Loc} {cells slots : Nat} {Q : State → Prop}
variable {mc ms : Nat} {free : Addr → Prop} {A0 A1 : Nat → Prop} {H0 : Heap} {a : Array Value} {pc : Nat} {ls : Array Slot} {st0 rest : List Value}
theorem vx_callq {S SX : Type} {post : Option Nat → S → Prop} {px : SX → Prop} {B : S → State → Prop} {BX : String → SX → State → Prop} {AX : Nat → Prop} (hr : vx_Run p l e R s m args below meth c H locs cells slots mc ms (F0 m pc ls st0) rest (va_Qq post B A1 a) (vx_X px BX AX) free) (hS : va_S A0 H0 H locs) (hA : ∀ q, q < H.size → A1 q → A0 q) (hf : ∀ q, free q → A0 q) (hAX : ∀ q, q < H.size → AX q → A0 q)
    (kx : ∀ (E : String) (ce : Cell) (q9 : Addr) (u : SX) (t : State) (H1 : Heap) (locs1 : List Loc), t.heap = H1 → s.vm.Alike t.vm → px u → BX E u t → H.size ≤ H1.size → (∀ q : Nat, q < H.size → ¬ AX q → H1[q]? = H[q]?) → va_S A0 H0 H1 locs1 → H1[q9]? = some ce → ce.vm = .none → s.vm.findClass E = some ce.cls → vx_W p l e R s m args below meth c H1 locs1 (cells + mc) (slots + ms) Q (F0 m pc ls rest) q9)
    (kk : ∀ (r : Option Nat) (u : S) (t : State) (H1 : Heap) (locs1 : List Loc), t.heap = H1 → s.vm.Alike t.vm → post r u → B u t → H.size ≤ H1.size → (∀ q : Nat, q < H.size → ¬ A1 q → H1[q]? = H[q]?) → va_S A0 H0 H1 locs1 → W p l e R s m args below meth c H1 locs1 (cells + mc) (slots + ms) Q (F0 m (pc + 3) ls (va_rf r :: rest))) : W p l e R s m args below meth c H locs cells slots Q (F0 m pc ls st0) := by
  intro T hT X
  rcases hr T hT X with ⟨v, st₀, t, T', L, h0, X', hL, e1, e2, ⟨⟨r, u, hv, hp, hb⟩, hF⟩, st⟩ | ⟨q, st₀, t, T', L, E, ce, h0, X', hL, e1, e2, ⟨u, hp, hb, hF⟩, hce, hcv, hcl, st⟩
  · cases hv
    obtain ⟨k1, k2, k3⟩ := vx_keep h0 e1 hS hA hf hL hF
    obtain ⟨t2, a1, b1⟩ := kk r u t T'.heap (locs ++ L) e1.symm (by rw [← e2]; exact X'.warmed.alike) hp hb k1 k2 k3 T' rfl X'
    exact ⟨t2, st t2 a1, b1⟩
  · obtain ⟨k1, k2, k3⟩ := vx_keep h0 e1 hS hAX hf hL hF
    obtain ⟨t2, a1, b1⟩ := kx E ce q u t T'.heap (locs ++ L) e1.symm (by rw [← e2]; exact X'.warmed.alike) hp hb k1 k2 k3 (by rw [e1]; exact hce) hcv hcl T' rfl X'
    exact ⟨t2, st.trans a1, b1⟩
end
section KIT3
variable {p : Program} {l : Launch} {e : Env} {R : Room} {s : State} {m : MethodId} {args : Array Value} {below : List Frame} {meth : Method} {c : Code} {H : Heap} {locs : List Loc} {cells slots : Nat} {Q : State → Prop} {cc : ByteArray} {pc : Nat} {ls : Array Slot} {rest st0 : List Value} {D : va_G} {A : Nat → Prop} {tys : List (ClassId × FieldType)} {K0 : Nat → Nat} {L L' : List (Nat × Nat)} {ad ad' : Nat → Nat → Nat} {ce ce' : Nat → Nat → va_E}
variable {y : MethodName} {bytes : ByteArray} {maxL nL mc ms n index : Nat} {ret : Option FieldType} {ws : List Cond} {rm : Room} {Ts : List Cond} {own C host : String} {As : List Value}
theorem wk.start (hP : va_P D vwCl (wl L ad ce) H) (hD : va_D A (wl L ad ce)) : wk D A L ad ce H H [] := ⟨hP, hD, va_S.rf⟩
theorem wk.hA (hw : wk D A L ad ce s.heap H locs) (hA : ∀ q, s.heap.size ≤ q → A q) : ∀ q, H.size ≤ q → A q := fun q h => hA q (Nat.le_trans hw.2.2.1 h)
theorem k_start {av : List Value} {sl : List Slot} (hs : sl = lg_sl av) (h : args = av.toArray) (hn : sl.length ≤ n) (k : ∀ ls : Array Slot, lv_has ls n (lv_args 0 av) → W p l e R s m args below meth c H locs cells slots Q (F0 m 0 ls [])) : W p l e R s m args below meth c H locs cells slots Q (entryFrame m args n) := by
  subst hs
  have hl := lv_entry av hn
  have k2 := k _ hl
  have e1 : entryFrame m args n = F0 m 0 ((lg_sl av ++ List.replicate (n - (lg_sl av).length) Slot.unset).toArray) [] := by rw [h]; exact lg_entry_eq ..
  rw [e1]; exact k2
theorem k_ci0 {v : Int32} {a : Array Value} (hw : wk D A L ad ce s.heap H locs) (hr : kRun p l e R s m args below meth c H locs cells slots 0 0 pc ls st0 rest A (kQi D A v L' ad' ce' a))
    (kk : ∀ (H1 : Heap) (locs1 : List Loc), wk D A L' ad' ce' s.heap H1 locs1 → W p l e R s m args below meth c H1 locs1 cells slots Q (F0 m (pc + 3) ls (.int v :: rest))) : W p l e R s m args below meth c H locs cells slots Q (F0 m pc ls st0) := k_ci hw hr kk
theorem k_cl0 {v : Int64} {a : Array Value} (hw : wk D A L ad ce s.heap H locs) (hr : kRun p l e R s m args below meth c H locs cells slots 0 0 pc ls st0 rest A (kQl D A v L' ad' ce' a))
    (kk : ∀ (H1 : Heap) (locs1 : List Loc), wk D A L' ad' ce' s.heap H1 locs1 → W p l e R s m args below meth c H1 locs1 cells slots Q (F0 m (pc + 3) ls (.long v :: rest))) : W p l e R s m args below meth c H locs cells slots Q (F0 m pc ls st0) := k_cl hw hr kk
theorem k_cv0 {a : Array Value} (hw : wk D A L ad ce s.heap H locs) (hr : kRun p l e R s m args below meth c H locs cells slots 0 0 pc ls st0 rest A (kQv D A L' ad' ce' a))
    (kk : ∀ (H1 : Heap) (locs1 : List Loc), wk D A L' ad' ce' s.heap H1 locs1 → W p l e R s m args below meth c H1 locs1 cells slots Q (F0 m (pc + 3) ls rest)) : W p l e R s m args below meth c H locs cells slots Q (F0 m pc ls st0) := k_cv hw hr kk
theorem k_cr0 {v : Nat} {a : Array Value} (hw : wk D A L ad ce s.heap H locs) (hr : kRun p l e R s m args below meth c H locs cells slots 0 0 pc ls st0 rest A (kQr D A v L' ad' ce' a))
    (kk : ∀ (H1 : Heap) (locs1 : List Loc), wk D A L' ad' ce' s.heap H1 locs1 → W p l e R s m args below meth c H1 locs1 cells slots Q (F0 m (pc + 3) ls (.ref v :: rest))) : W p l e R s m args below meth c H locs cells slots Q (F0 m pc ls st0) := k_cr hw hr kk
theorem k_nz {x : Int32} (h : x = 0 ∨ x = 1) : narrow .boolean (.int x) = .int x := by rcases h with rfl | rfl <;> rfl
theorem cn_lt (x : Int32) : x.toNatClampNeg < 2 ^ 31 := by
  have h := Int32.toInt_lt x
  have h2 : x.toNatClampNeg = x.toInt.toNat := rfl
  omega
theorem cn_eq {x : Int32} (h : 0 ≤ x.toInt) : x = nI x.toNatClampNeg := by
  apply Int32.toInt_inj.mp
  rw [nI_toInt (cn_lt x)]
  have h2 : x.toNatClampNeg = x.toInt.toNat := rfl
  omega
theorem cn_le {x : Int32} {n : Nat} (h : x.toInt ≤ n) : x.toNatClampNeg ≤ n := by
  have h2 : x.toNatClampNeg = x.toInt.toNat := rfl
  omega
theorem k_lt {x : Int32} {n : Nat} (h : vp_in x n) : x.toNatClampNeg < n := by
  unfold vp_in at h
  exact Nat.lt_of_not_le (fun z => h (Or.inr z))
theorem sw_lt {x : Int32} {k : Nat} (hk : k < 2 ^ 31) (h : ∀ j, j < k → ¬ x = nI j) : x.toInt < 0 ∨ ((k : Int) - 1) < x.toInt := by
  rcases Int.lt_or_le x.toInt 0 with q | q
  · exact Or.inl q
  · refine Or.inr ?_
    rcases Int.lt_or_le ((k : Int) - 1) x.toInt with r | r
    · exact r
    · exfalso
      have h2 : x.toNatClampNeg = x.toInt.toNat := rfl
      exact h x.toNatClampNeg (by omega) (cn_eq q)
theorem sw_out3 {x : Int32} (h0 : ¬ x = 0) (h1 : ¬ x = 1) (h2 : ¬ x = 2) : x.toInt < 0 ∨ 2 < x.toInt := sw_lt (k := 3) (by decide) (fun j hj => by rcases (show j = 0 ∨ j = 1 ∨ j = 2 by omega) with rfl | rfl | rfl <;> assumption)
theorem sw_out4 {x : Int32} (h0 : ¬ x = 0) (h1 : ¬ x = 1) (h2 : ¬ x = 2) (h3 : ¬ x = 3) : x.toInt < 0 ∨ 3 < x.toInt := sw_lt (k := 4) (by decide) (fun j hj => by rcases (show j = 0 ∨ j = 1 ∨ j = 2 ∨ j = 3 by omega) with rfl | rfl | rfl | rfl <;> assumption)
theorem sw_out5 {x : Int32} (h0 : ¬ x = 0) (h1 : ¬ x = 1) (h2 : ¬ x = 2) (h3 : ¬ x = 3) (h4 : ¬ x = 4) : x.toInt < 0 ∨ 4 < x.toInt := sw_lt (k := 5) (by decide) (fun j hj => by rcases (show j = 0 ∨ j = 1 ∨ j = 2 ∨ j = 3 ∨ j = 4 by omega) with rfl | rfl | rfl | rfl | rfl <;> assumption)
theorem sw_out6 {x : Int32} (h0 : ¬ x = 0) (h1 : ¬ x = 1) (h2 : ¬ x = 2) (h3 : ¬ x = 3) (h4 : ¬ x = 4) (h5 : ¬ x = 5) : x.toInt < 0 ∨ 5 < x.toInt := sw_lt (k := 6) (by decide) (fun j hj => by rcases (show j = 0 ∨ j = 1 ∨ j = 2 ∨ j = 3 ∨ j = 4 ∨ j = 5 by omega) with rfl | rfl | rfl | rfl | rfl | rfl <;> assumption)
theorem sw_out10 {x : Int32} (h0 : ¬ x = 0) (h1 : ¬ x = 1) (h2 : ¬ x = 2) (h3 : ¬ x = 3) (h4 : ¬ x = 4) (h5 : ¬ x = 5) (h6 : ¬ x = 6) (h7 : ¬ x = 7) (h8 : ¬ x = 8) (h9 : ¬ x = 9) : x.toInt < 0 ∨ 9 < x.toInt := sw_lt (k := 10) (by decide) (fun j hj => by rcases (show j = 0 ∨ j = 1 ∨ j = 2 ∨ j = 3 ∨ j = 4 ∨ j = 5 ∨ j = 6 ∨ j = 7 ∨ j = 8 ∨ j = 9 by omega) with rfl | rfl | rfl | rfl | rfl | rfl | rfl | rfl | rfl | rfl <;> assumption)
/-! exceptions -/
def kE (E : String) (k : Nat) : Prop := (k = 1 ∧ E = "java/lang/IndexOutOfBoundsException") ∨ (k = 2 ∧ E = "java/lang/IllegalArgumentException") ∨ (k = 3 ∧ E = "java/lang/IllegalStateException")
theorem kE_1 : kE "java/lang/IndexOutOfBoundsException" 1 := Or.inl ⟨rfl, rfl⟩
theorem kE_2 : kE "java/lang/IllegalArgumentException" 2 := Or.inr (Or.inl ⟨rfl, rfl⟩)
theorem kE_3 : kE "java/lang/IllegalStateException" 3 := Or.inr (Or.inr ⟨rfl, rfl⟩)
theorem kE.ne {E : String} {k : Nat} (h : kE E k) : ¬ k = 0 := by rcases h with ⟨rfl, -⟩ | ⟨rfl, -⟩ | ⟨rfl, -⟩ <;> decide
/-- where a method of the class throws: nothing has changed -/
abbrev kX (D : va_G) (A : Nat → Prop) (k : Nat) (L : List (Nat × Nat)) (ad : Nat → Nat → Nat) (ce : Nat → Nat → va_E) : String → State → State → Prop := vx_X (fun (_ : Unit) => True) (fun E _ t => kE E k ∧ WE D A L ad ce t) A
theorem WE.kept {t : State} (hw : wk D A L ad ce s.heap H locs) (h1 : ∀ q : Nat, q < H.size → t.heap[q]? = H[q]?) : WE D A L ad ce t := ⟨hw.1.kept (fun k q hk => h1 _ (hw.1 k q hk).lt), hw.2.1⟩
theorem k_throw {k : Nat} {Qc : Array Value → State → Outcome → State → Prop} (hx : p.tables.exec = Jvm.exec) (hb : c.code = cc) (hl : l.stackTraces = false) {cls text : String} {names : List String} {ik is ic sa : Nat}
    (hown : s.vm.findClass own = some m.cls) (hcls : Bundle.fit cls = true) (hnames : ∀ n ∈ names, Bundle.fit n = true) (hk : (Cond.classLink own ik cls).before args s = true) (hini : (Cond.initialized cls).before args s = true) (hstr : vk_R own is text sa s) (hat : ∀ w ∈ vx_atS own ic cls names, w.before args s = true)
    (hgood : ∀ w ∈ Cond.classLink own ik cls :: Cond.initialized cls :: vx_atS own ic cls names, vx_ot w = true) (hO : OW A K0 s) (hw : wk D A L ad ce s.heap H locs) (hsize : ls.size = nL) (hml : c.maxLocals = nL)
    (d0 : decode cc pc = .ok (.new ik, 3)) (d3 : decode cc (pc + 3) = .ok (.dup, 1)) (d4 : decode cc (pc + 4) = .ok (.ldc is, 2)) (d6 : decode cc (pc + 6) = .ok (.invokespecial ic, 3)) (d9 : decode cc (pc + 9) = .ok (.athrow, 1))
    (hexn : ∀ x ∈ c.exceptionTable.toList, False) (hRframes : names.length + 3 < R.frames) (hRlocals : (rest.map fun v => v.category).sum + (13 * (names.length + 1) + 43) ≤ R.locals) (hRcells : cells + 1 ≤ R.cells) (hRslots : slots + 6 ≤ R.slots) (hlocks : meth.locks = false) (hkE : kE cls k) (hc : cells + 1 ≤ mc) (hs : slots + 6 ≤ ms) :
    W p l e R s m args below meth c H locs cells slots (vx_MQ below Qc (kX D A k L ad ce) args s mc ms A) (F0 m pc ls rest) :=
  vx_throwS hx hb hl hown hcls hnames hk hini hstr hat hgood hO.1.1 hO.1.2 hw.2.2 (hsize.trans hml.symm) d0 d3 d4 d6 d9 (fun x h => (hexn x h).elim) hRframes hRlocals hRcells hRslots hlocks
    (fun t _ h1 h2 => ⟨(), trivial, ⟨hkE, WE.kept hw h2⟩, Nat.le_trans hw.2.2.1 h1, fun q hq hA => (h2 q (Nat.lt_of_lt_of_le hq hw.2.2.1)).trans (hw.2.2.2.1 q hq hA)⟩) hw.2.2.2.2 hc hs
theorem x_rV {Qc : Array Value → State → Outcome → State → Prop} {XC : String → State → State → Prop} (F : CallFix p m c cc nL s args Ts own) (hK : va_K D vwCl tys s) (hO : OW A K0 s) (hw : wk D A L ad ce s.heap H locs) {f o : Nat} (hM : vx_Met l y ws rm (kP D tys K0 A L ad ce H.size (.ref (ad f o) :: As)) Qc XC mc ms A) (cw : CallW R s args own C index y bytes maxL ret ws rm mc ms n) (hi : (f, o) ∈ L) {ci : Nat} {fs : List Value} (he : ce f o = .inr (ci, fs)) {T : u_T} {N : Nat} (hc : vwCl[ci]? = some (C, T, N)) (hn : As.length = n) (hsize : ls.size = nL) (hst : st0 = As.reverse ++ .ref (ad f o) :: rest) (hW : (rest.map fun v => v.category).sum ≤ 8) (hdg : decode cc pc = .ok (.invokevirtual index, 3)) (hf : cells + mc ≤ R.cells ∧ slots + ms ≤ R.slots) :
    vx_Run p l e R s m args below meth c H locs cells slots mc ms (F0 m pc ls st0) rest (Qc (Value.ref (ad f o) :: As).toArray) XC A :=
  vx_runV F hM cw ⟨WS.blind, wk.recv hK hw hi he hc, WS.at hK hO hw _⟩ rfl hn hsize hst (by show 2 * 0 + _ ≤ 8; omega) hdg hf
theorem x_ci {v : Int32} {k : Nat} {cd : Prop} {a : Array Value} (hw : wk D A L ad ce s.heap H locs) (hr : vx_Run p l e R s m args below meth c H locs cells slots mc ms (F0 m pc ls st0) rest (va_Qi (fun (r : Int32) (_ : Unit) => r = v ∧ cd) (fun _ t => WE D A L' ad' ce' t) A a) (kX D A k L ad ce) A)
    (kx : ∀ (E : String) (cx : Cell) (q9 : Addr) (H1 : Heap) (locs1 : List Loc), kE E k → wk D A L ad ce s.heap H1 locs1 → H1[q9]? = some cx → cx.vm = .none → s.vm.findClass E = some cx.cls → vx_W p l e R s m args below meth c H1 locs1 (cells + mc) (slots + ms) Q (F0 m pc ls rest) q9)
    (kk : ∀ (H1 : Heap) (locs1 : List Loc), cd → wk D A L' ad' ce' s.heap H1 locs1 → W p l e R s m args below meth c H1 locs1 (cells + mc) (slots + ms) Q (F0 m (pc + 3) ls (.int v :: rest))) : W p l e R s m args below meth c H locs cells slots Q (F0 m pc ls st0) :=
  vx_calli hr hw.2.2 (fun _ _ h => h) (fun _ h => h) (fun _ _ h => h) (fun E cx q9 _ t H1 locs1 ht _ _ hB _ _ hS h1 h2 h3 => kx E cx q9 H1 locs1 hB.1 ⟨by rw [← ht]; exact hB.2.1, hB.2.2, hS⟩ h1 h2 h3) (fun r _ t H1 locs1 ht _ hp hB _ _ hS => by
    obtain ⟨rfl, hcd⟩ := hp
    exact kk H1 locs1 hcd ⟨by rw [← ht]; exact hB.1, hB.2, hS⟩)
theorem x_cl {v : Int64} {k : Nat} {cd : Prop} {a : Array Value} (hw : wk D A L ad ce s.heap H locs) (hr : vx_Run p l e R s m args below meth c H locs cells slots mc ms (F0 m pc ls st0) rest (va_Ql (fun (r : Int64) (_ : Unit) => r = v ∧ cd) (fun _ t => WE D A L' ad' ce' t) A a) (kX D A k L ad ce) A)
    (kx : ∀ (E : String) (cx : Cell) (q9 : Addr) (H1 : Heap) (locs1 : List Loc), kE E k → wk D A L ad ce s.heap H1 locs1 → H1[q9]? = some cx → cx.vm = .none → s.vm.findClass E = some cx.cls → vx_W p l e R s m args below meth c H1 locs1 (cells + mc) (slots + ms) Q (F0 m pc ls rest) q9)
    (kk : ∀ (H1 : Heap) (locs1 : List Loc), cd → wk D A L' ad' ce' s.heap H1 locs1 → W p l e R s m args below meth c H1 locs1 (cells + mc) (slots + ms) Q (F0 m (pc + 3) ls (.long v :: rest))) : W p l e R s m args below meth c H locs cells slots Q (F0 m pc ls st0) :=
  vx_calll hr hw.2.2 (fun _ _ h => h) (fun _ h => h) (fun _ _ h => h) (fun E cx q9 _ t H1 locs1 ht _ _ hB _ _ hS h1 h2 h3 => kx E cx q9 H1 locs1 hB.1 ⟨by rw [← ht]; exact hB.2.1, hB.2.2, hS⟩ h1 h2 h3) (fun r _ t H1 locs1 ht _ hp hB _ _ hS => by
    obtain ⟨rfl, hcd⟩ := hp
    exact kk H1 locs1 hcd ⟨by rw [← ht]; exact hB.1, hB.2, hS⟩)
theorem x_cv {k : Nat} {cd : Prop} {a : Array Value} (hw : wk D A L ad ce s.heap H locs) (hr : vx_Run p l e R s m args below meth c H locs cells slots mc ms (F0 m pc ls st0) rest (va_Qv (fun (_ : Unit) => cd) (fun _ t => WE D A L' ad' ce' t) A a) (kX D A k L ad ce) A)
    (kx : ∀ (E : String) (cx : Cell) (q9 : Addr) (H1 : Heap) (locs1 : List Loc), kE E k → wk D A L ad ce s.heap H1 locs1 → H1[q9]? = some cx → cx.vm = .none → s.vm.findClass E = some cx.cls → vx_W p l e R s m args below meth c H1 locs1 (cells + mc) (slots + ms) Q (F0 m pc ls rest) q9)
    (kk : ∀ (H1 : Heap) (locs1 : List Loc), cd → wk D A L' ad' ce' s.heap H1 locs1 → W p l e R s m args below meth c H1 locs1 (cells + mc) (slots + ms) Q (F0 m (pc + 3) ls rest)) : W p l e R s m args below meth c H locs cells slots Q (F0 m pc ls st0) :=
  vx_callv hr hw.2.2 (fun _ _ h => h) (fun _ h => h) (fun _ _ h => h) (fun E cx q9 _ t H1 locs1 ht _ _ hB _ _ hS h1 h2 h3 => kx E cx q9 H1 locs1 hB.1 ⟨by rw [← ht]; exact hB.2.1, hB.2.2, hS⟩ h1 h2 h3) (fun _ t H1 locs1 ht _ hp hB _ _ hS => kk H1 locs1 hp ⟨by rw [← ht]; exact hB.1, hB.2, hS⟩)
theorem x_cq {v : Nat} {k : Nat} {cd : Prop} {a : Array Value} (hw : wk D A L ad ce s.heap H locs) (hr : vx_Run p l e R s m args below meth c H locs cells slots mc ms (F0 m pc ls st0) rest (va_Qq (fun (r : Option Nat) (_ : Unit) => r = some v ∧ cd) (fun _ t => WE D A L' ad' ce' t) A a) (kX D A k L ad ce) A)
    (kx : ∀ (E : String) (cx : Cell) (q9 : Addr) (H1 : Heap) (locs1 : List Loc), kE E k → wk D A L ad ce s.heap H1 locs1 → H1[q9]? = some cx → cx.vm = .none → s.vm.findClass E = some cx.cls → vx_W p l e R s m args below meth c H1 locs1 (cells + mc) (slots + ms) Q (F0 m pc ls rest) q9)
    (kk : ∀ (H1 : Heap) (locs1 : List Loc), cd → wk D A L' ad' ce' s.heap H1 locs1 → W p l e R s m args below meth c H1 locs1 (cells + mc) (slots + ms) Q (F0 m (pc + 3) ls (.ref v :: rest))) : W p l e R s m args below meth c H locs cells slots Q (F0 m pc ls st0) :=
  vx_callq hr hw.2.2 (fun _ _ h => h) (fun _ h => h) (fun _ _ h => h) (fun E cx q9 _ t H1 locs1 ht _ _ hB _ _ hS h1 h2 h3 => kx E cx q9 H1 locs1 hB.1 ⟨by rw [← ht]; exact hB.2.1, hB.2.2, hS⟩ h1 h2 h3) (fun r _ t H1 locs1 ht _ hp hB _ _ hS => by
    obtain ⟨rfl, hcd⟩ := hp
    exact kk H1 locs1 hcd ⟨by rw [← ht]; exact hB.1, hB.2, hS⟩)
theorem x_out {k k0 : Nat} {E : String} {cx : Cell} {q : Addr} {Qc : Array Value → State → Outcome → State → Prop} (hexn : ∀ x ∈ c.exceptionTable.toList, False) (hlocks : meth.locks = false) (hw : wk D A L ad ce s.heap H locs) (h1 : H[q]? = some cx) (h2 : cx.vm = .none) (h3 : s.vm.findClass E = some cx.cls) (hk : kE E k) (hc : cells ≤ mc) (hs : slots ≤ ms) :
    vx_W p l e R s m args below meth c H locs cells slots (vx_MQ below Qc (kX D A k L ad ce) args s mc ms A) (F0 m pc ls rest) q :=
  vx_out (fun x h => (hexn x h).elim) hlocks h1 h2 h3 (fun t ht _ => ⟨(), trivial, ⟨hk, by rw [ht]; exact hw.1, hw.2.1⟩, hw.2.2.F ht⟩) hw.2.2.2.2 hc hs
theorem x_iret {v v0 : Int32} {cd : Prop} {ty : FieldType} {XC : String → State → State → Prop} (hx : p.tables.exec = Jvm.exec) (hb : c.code = cc) (hr : meth.sig.returnType = some ty) (hlocks : meth.locks = false) (hn : narrow ty (.int v) = .int v) (hw : wk D A L ad ce s.heap H locs) (hv : v0 = v) (hcd : cd) (hce : ce' = ce) (hc : cells ≤ mc) (hs : slots ≤ ms) (hdg : decode cc pc = .ok (.ireturn, 1)) : W p l e R s m args below meth c H locs cells slots (vx_MQ below (va_Qi (fun (r : Int32) (_ : Unit) => r = v0 ∧ cd) (fun _ t => WE D A L ad ce' t) A) XC args s mc ms A) (F0 m pc ls [.int v]) := by
  subst hv; subst hce
  exact W.widen hc hs (vx_ret (W.zret hx hb hr hn (fun t ht _ => ⟨⟨_, (), rfl, ⟨rfl, hcd⟩, by rw [ht]; exact hw.1, hw.2.1⟩, hw.2.2.F ht⟩) hw.2.2.2.2 hdg hlocks))
theorem x_lret {v v0 : Int64} {cd : Prop} {XC : String → State → State → Prop} (hx : p.tables.exec = Jvm.exec) (hb : c.code = cc) (hr : meth.sig.returnType = some .long) (hlocks : meth.locks = false) (hw : wk D A L ad ce s.heap H locs) (hv : v0 = v) (hcd : cd) (hce : ce' = ce) (hc : cells ≤ mc) (hs : slots ≤ ms) (hdg : decode cc pc = .ok (.lreturn, 1)) : W p l e R s m args below meth c H locs cells slots (vx_MQ below (va_Ql (fun (r : Int64) (_ : Unit) => r = v0 ∧ cd) (fun _ t => WE D A L ad ce' t) A) XC args s mc ms A) (F0 m pc ls [.long v]) := by
  subst hv; subst hce
  exact W.widen hc hs (vx_ret (W.lret hx hb hr (fun t ht _ => ⟨⟨_, (), rfl, ⟨rfl, hcd⟩, by rw [ht]; exact hw.1, hw.2.1⟩, hw.2.2.F ht⟩) hw.2.2.2.2 hdg hlocks))
theorem x_vret {cd : Prop} {XC : String → State → State → Prop} (hx : p.tables.exec = Jvm.exec) (hb : c.code = cc) (hr : meth.sig.returnType = none) (hlocks : meth.locks = false) (hw : wk D A L ad ce s.heap H locs) (hcd : cd) (hce : ce' = ce) (hc : cells ≤ mc) (hs : slots ≤ ms) (hdg : decode cc pc = .ok (.return_, 1)) : W p l e R s m args below meth c H locs cells slots (vx_MQ below (va_Qv (fun (_ : Unit) => cd) (fun _ t => WE D A L ad ce' t) A) XC args s mc ms A) (F0 m pc ls []) := by
  subst hce
  exact W.widen hc hs (vx_ret (W.vret hx hb hr (fun t ht _ => ⟨⟨(), rfl, hcd, by rw [ht]; exact hw.1, hw.2.1⟩, hw.2.2.F ht⟩) hw.2.2.2.2 hdg hlocks))
theorem x_qret {v v0 : Nat} {cd : Prop} {rt : FieldType} {XC : String → State → State → Prop} (hx : p.tables.exec = Jvm.exec) (hb : c.code = cc) (hr : meth.sig.returnType = some rt) (hrt : (∃ n, rt = .object n) ∨ ∃ t, rt = .array t) (hlocks : meth.locks = false) (hw : wk D A L ad ce s.heap H locs) (hv : v0 = v) (hcd : cd) (hce : ce' = ce) (hc : cells ≤ mc) (hs : slots ≤ ms) (hdg : decode cc pc = .ok (.areturn, 1)) : W p l e R s m args below meth c H locs cells slots (vx_MQ below (va_Qq (fun (r : Option Nat) (_ : Unit) => r = some v0 ∧ cd) (fun _ t => WE D A L ad ce' t) A) XC args s mc ms A) (F0 m pc ls [.ref v]) := by
  subst hv; subst hce
  exact W.widen hc hs (vx_ret (W.aret hx hb hr hrt (Or.inr ⟨_, rfl⟩) (fun t ht _ => ⟨⟨some _, (), rfl, ⟨rfl, hcd⟩, by rw [ht]; exact hw.1, hw.2.1⟩, hw.2.2.F ht⟩) hw.2.2.2.2 hdg hlocks))
end KIT3
section COMP
/-! THE CLASS'S STATE: S f o k, the row f of the owner o at k -/
def clen (f : Nat) : Nat := match f with
  | 11 => 4 | 12 => 6 | 13 => 4 | 21 => 4 | 14 => 20 | 15 => 20 | 16 => 20 | 17 => 20 | 18 => 20 | 19 => 20 | 20 => 20 | _ => 12
def ccell (cI cJ : ClassId) (ad : Nat → Nat → Nat) (f o : Nat) (g : Nat → Int32) : va_E := match f with
  | 0 => .inr (8, [.ref (ad 1 0), .ref (ad 2 0), .ref (ad 3 0), .ref (ad 4 0), .ref (ad 5 0), .int (g 0), .int (g 1)])
  | 1 => .inr (5, [.ref (ad 7 0), .ref (ad 8 0), .ref (ad 9 0), .ref (ad 10 0), .ref (ad 11 0), .ref (ad 12 0), .int (g 0), .int (g 1)])
  | 2 => .inr (6, [.ref (ad 13 0), .ref (ad 14 0), .ref (ad 15 0), .ref (ad 16 0), .int (g 0)])
  | 3 => .inr (7, [.ref (ad 17 0), .ref (ad 18 0), .ref (ad 19 0), .ref (ad 20 0), .int (g 0)])
  | 4 => .inr (3, [.ref (ad 1 0), .ref (ad 2 0), .ref (ad 3 0), .ref (ad 21 0), .ref (ad 22 0), .ref (ad 23 0), .int (g 0)])
  | 5 => .inl (cJ, 8, .inr (.inr (.inr (.inr (fun k => if k < 8 then some (ad 6 k) else none)))))
  | 6 => .inr (4, [.ref (ad 24 o), .ref (ad 25 o), .ref (ad 26 o), .ref (ad 27 o), .ref (ad 28 o), .int (g 0), .int (g 1), .int (g 2)])
  | n + 7 => .inl (cI, clen (n + 7), .inl g)
def cK (cI cJ : ClassId) (ad : Nat → Nat → Nat) (ce : Nat → Nat → va_E) (S : Nat → Nat → Nat → Int32) : Nat → Nat → va_E := fun f o => if f < 30 then ccell cI cJ ad f o (S f o) else ce f o
def cid (f o : Nat) : Bool := if f = 6 then decide (o < 8) else if f < 24 then decide (o = 0) else if f < 29 then decide (o < 8) else false
theorem cidJ6 {j : Nat} (h : j < 8) : cid 6 j = true := decide_eq_true h
theorem cidJ24 {j : Nat} (h : j < 8) : cid 24 j = true := decide_eq_true h
theorem cidJ25 {j : Nat} (h : j < 8) : cid 25 j = true := decide_eq_true h
theorem cidJ26 {j : Nat} (h : j < 8) : cid 26 j = true := decide_eq_true h
theorem cidJ27 {j : Nat} (h : j < 8) : cid 27 j = true := decide_eq_true h
theorem cidJ28 {j : Nat} (h : j < 8) : cid 28 j = true := decide_eq_true h
variable {cI cJ : ClassId} {ad : Nat → Nat → Nat} {ce : Nat → Nat → va_E} {S T U : Nat → Nat → Nat → Int32} {o : Nat}
theorem cK_up {f i : Nat} {x : Int32} {e : va_E} (hf : f < 30) (he : e = ccell cI cJ ad f o (upd (S f o) i x)) : up2 (cK cI cJ ad ce S) f o e = cK cI cJ ad ce (up3 S f o i x) := by
  funext f' o'
  unfold up2 cK up3
  by_cases h1 : f' = f
  · subst h1
    rw [if_pos rfl, if_pos hf, if_pos rfl]
    by_cases h2 : o' = o
    · subst h2
      rw [if_pos rfl, if_pos rfl, he, if_pos hf]
    · rw [if_neg h2, if_neg h2, if_pos hf]
  · rw [if_neg h1, if_neg h1]
theorem cke_0 : cK cI cJ ad ce S 0 o = .inr (8, [.ref (ad 1 0), .ref (ad 2 0), .ref (ad 3 0), .ref (ad 4 0), .ref (ad 5 0), .int (S 0 o 0), .int (S 0 o 1)]) := rfl
theorem cke_1 : cK cI cJ ad ce S 1 o = .inr (5, [.ref (ad 7 0), .ref (ad 8 0), .ref (ad 9 0), .ref (ad 10 0), .ref (ad 11 0), .ref (ad 12 0), .int (S 1 o 0), .int (S 1 o 1)]) := rfl
theorem cke_2 : cK cI cJ ad ce S 2 o = .inr (6, [.ref (ad 13 0), .ref (ad 14 0), .ref (ad 15 0), .ref (ad 16 0), .int (S 2 o 0)]) := rfl
theorem cke_3 : cK cI cJ ad ce S 3 o = .inr (7, [.ref (ad 17 0), .ref (ad 18 0), .ref (ad 19 0), .ref (ad 20 0), .int (S 3 o 0)]) := rfl
theorem cke_4 : cK cI cJ ad ce S 4 o = .inr (3, [.ref (ad 1 0), .ref (ad 2 0), .ref (ad 3 0), .ref (ad 21 0), .ref (ad 22 0), .ref (ad 23 0), .int (S 4 o 0)]) := rfl
theorem cke_5 : cK cI cJ ad ce S 5 o = .inl (cJ, 8, .inr (.inr (.inr (.inr (fun k => if k < 8 then some (ad 6 k) else none))))) := rfl
theorem cke_6 : cK cI cJ ad ce S 6 o = .inr (4, [.ref (ad 24 o), .ref (ad 25 o), .ref (ad 26 o), .ref (ad 27 o), .ref (ad 28 o), .int (S 6 o 0), .int (S 6 o 1), .int (S 6 o 2)]) := rfl
theorem cke_7 : cK cI cJ ad ce S 7 o = .inl (cI, 12, .inl (S 7 o)) := rfl
theorem cke_8 : cK cI cJ ad ce S 8 o = .inl (cI, 12, .inl (S 8 o)) := rfl
theorem cke_9 : cK cI cJ ad ce S 9 o = .inl (cI, 12, .inl (S 9 o)) := rfl
theorem cke_10 : cK cI cJ ad ce S 10 o = .inl (cI, 12, .inl (S 10 o)) := rfl
theorem cke_11 : cK cI cJ ad ce S 11 o = .inl (cI, 4, .inl (S 11 o)) := rfl
theorem cke_12 : cK cI cJ ad ce S 12 o = .inl (cI, 6, .inl (S 12 o)) := rfl
theorem cke_13 : cK cI cJ ad ce S 13 o = .inl (cI, 4, .inl (S 13 o)) := rfl
theorem cke_14 : cK cI cJ ad ce S 14 o = .inl (cI, 20, .inl (S 14 o)) := rfl
theorem cke_15 : cK cI cJ ad ce S 15 o = .inl (cI, 20, .inl (S 15 o)) := rfl
theorem cke_16 : cK cI cJ ad ce S 16 o = .inl (cI, 20, .inl (S 16 o)) := rfl
theorem cke_17 : cK cI cJ ad ce S 17 o = .inl (cI, 20, .inl (S 17 o)) := rfl
theorem cke_18 : cK cI cJ ad ce S 18 o = .inl (cI, 20, .inl (S 18 o)) := rfl
theorem cke_19 : cK cI cJ ad ce S 19 o = .inl (cI, 20, .inl (S 19 o)) := rfl
theorem cke_20 : cK cI cJ ad ce S 20 o = .inl (cI, 20, .inl (S 20 o)) := rfl
theorem cke_21 : cK cI cJ ad ce S 21 o = .inl (cI, 4, .inl (S 21 o)) := rfl
theorem cke_22 : cK cI cJ ad ce S 22 o = .inl (cI, 12, .inl (S 22 o)) := rfl
theorem cke_23 : cK cI cJ ad ce S 23 o = .inl (cI, 12, .inl (S 23 o)) := rfl
theorem cke_24 : cK cI cJ ad ce S 24 o = .inl (cI, 12, .inl (S 24 o)) := rfl
theorem cke_25 : cK cI cJ ad ce S 25 o = .inl (cI, 12, .inl (S 25 o)) := rfl
theorem cke_26 : cK cI cJ ad ce S 26 o = .inl (cI, 12, .inl (S 26 o)) := rfl
theorem cke_27 : cK cI cJ ad ce S 27 o = .inl (cI, 12, .inl (S 27 o)) := rfl
theorem cke_28 : cK cI cJ ad ce S 28 o = .inl (cI, 12, .inl (S 28 o)) := rfl
/-- the counters stay within the document's bounds -/
def CI (S : Nat → Nat → Nat → Int32) : Prop := (0 ≤ (S 1 0 0).toInt ∧ (S 1 0 0).toInt ≤ 12) ∧ (0 ≤ (S 1 0 1).toInt ∧ (S 1 0 1).toInt ≤ 6) ∧ (0 ≤ (S 2 0 0).toInt ∧ (S 2 0 0).toInt ≤ 20) ∧ (0 ≤ (S 3 0 0).toInt ∧ (S 3 0 0).toInt ≤ 20) ∧ (0 ≤ (S 0 0 0).toInt ∧ (S 0 0 0).toInt ≤ 8)
theorem CI.le1 (h : CI S) {n : Nat} (hn : 12 ≤ n) : (S 1 0 0).toInt ≤ n := by have := h.1.2; omega
theorem CI.le2 (h : CI S) {n : Nat} (hn : 6 ≤ n) : (S 1 0 1).toInt ≤ n := by have := h.2.1.2; omega
theorem CI.le3 (h : CI S) {n : Nat} (hn : 20 ≤ n) : (S 2 0 0).toInt ≤ n := by have := h.2.2.1.2; omega
theorem CI.le4 (h : CI S) {n : Nat} (hn : 20 ≤ n) : (S 3 0 0).toInt ≤ n := by have := h.2.2.2.1.2; omega
theorem CI.le5 (h : CI S) {n : Nat} (hn : 8 ≤ n) : (S 0 0 0).toInt ≤ n := by have := h.2.2.2.2.2; omega
theorem CI.n1 (h : CI S) : (S 1 0 0).toNatClampNeg ≤ 12 := cn_le h.1.2
theorem CI.n2 (h : CI S) : (S 1 0 1).toNatClampNeg ≤ 6 := cn_le h.2.1.2
theorem CI.n3 (h : CI S) : (S 2 0 0).toNatClampNeg ≤ 20 := cn_le h.2.2.1.2
theorem CI.n4 (h : CI S) : (S 3 0 0).toNatClampNeg ≤ 20 := cn_le h.2.2.2.1.2
theorem CI.n5 (h : CI S) : (S 0 0 0).toNatClampNeg ≤ 8 := cn_le h.2.2.2.2.2
/-- the counters are the same -/
def SF (S T : Nat → Nat → Nat → Int32) : Prop := T 0 = S 0 ∧ T 1 = S 1 ∧ T 2 = S 2 ∧ T 3 = S 3
theorem SF.rf (S : Nat → Nat → Nat → Int32) : SF S S := ⟨rfl, rfl, rfl, rfl⟩
theorem SF.tr (h : SF S T) (k : SF T U) : SF S U := ⟨k.1.trans h.1, k.2.1.trans h.2.1, k.2.2.1.trans h.2.2.1, k.2.2.2.trans h.2.2.2⟩
theorem SF.up {f i : Nat} {x : Int32} (hf : 4 ≤ f) (h : SF S T) : SF S (up3 T f o i x) := by
  have k : ∀ g, g < 4 → up3 T f o i x g = T g := fun g hg => by unfold up3; rw [if_neg (by omega)]
  exact ⟨(k 0 (by decide)).trans h.1, (k 1 (by decide)).trans h.2.1, (k 2 (by decide)).trans h.2.2.1, (k 3 (by decide)).trans h.2.2.2⟩
theorem SF.ci (h : SF S T) (k : CI S) : CI T := by
  unfold CI; rw [h.1, h.2.1, h.2.2.1, h.2.2.2]; exact k
theorem SF.b1 (h : SF S T) (k : CI S) : T 1 0 0 = nI (S 1 0 0).toNatClampNeg := by rw [h.2.1]; exact cn_eq k.1.1
theorem SF.b2 (h : SF S T) (k : CI S) : T 1 0 1 = nI (S 1 0 1).toNatClampNeg := by rw [h.2.1]; exact cn_eq k.2.1.1
theorem SF.b3 (h : SF S T) (k : CI S) : T 2 0 0 = nI (S 2 0 0).toNatClampNeg := by rw [h.2.2.1]; exact cn_eq k.2.2.1.1
theorem SF.b4 (h : SF S T) (k : CI S) : T 3 0 0 = nI (S 3 0 0).toNatClampNeg := by rw [h.2.2.2]; exact cn_eq k.2.2.2.1.1
theorem SF.b5 (h : SF S T) (k : CI S) : T 0 0 0 = nI (S 0 0 0).toNatClampNeg := by rw [h.1]; exact cn_eq k.2.2.2.2.1
end COMP
end
section
theorem inB_X1 : ∀ w ∈ u_ws RX1 TX1 8, w ∈ BIG := kBu (by decide +kernel) (by decide +kernel)
theorem w_ct_J6_265 : Cond.constant RJ6 265 1431655765 ∈ BIG := kB 362 (by decide +kernel) rfl
theorem w_ct_J6_266 : Cond.constant RJ6 266 858993459 ∈ BIG := kB 363 (by decide +kernel) rfl
theorem w_ct_J6_267 : Cond.constant RJ6 267 252645135 ∈ BIG := kB 364 (by decide +kernel) rfl
theorem w_ml_X5_46 : Cond.methodLink RX5 46 yX5_isWithin ∈ BIG := kB 379 (by decide +kernel) rfl
theorem w_st_X5_isWithin : Cond.static yX5_isWithin ∈ BIG := kB 380 (by decide +kernel) rfl
theorem w_in_X5 : Cond.initialized RX5 ∈ BIG := kB 1 (by decide +kernel) rfl
theorem w_co_X5_isWithin : Cond.code yX5_isWithin cX5_isWithin 3 (some .boolean) ∈ BIG := kB 381 (by decide +kernel) rfl
theorem w_f_X1_27 : Cond.fieldLink RX1 27 "OnboardingWorks$Joiner" "steps" "I" ∈ BIG := kB 185 (by decide +kernel) rfl
theorem w_co_X5_has : Cond.code yX5_has cX5_has 2 (some .boolean) ∈ BIG := kB 338 (by decide +kernel) rfl
theorem w_mn_X1_31 : Cond.methodLinkNest RX1 31 yX5_has RX5 ∈ KOW := kO 448 (by decide +kernel) rfl
theorem w_st_X5_has : Cond.static yX5_has ∈ BIG := kB 337 (by decide +kernel) rfl
theorem w_f_X1_9 : Cond.fieldLink RX1 9 "OnboardingWorks$Joiner" "states" "[I" ∈ BIG := kB 170 (by decide +kernel) rfl
theorem w_ml_X1_35 : Cond.methodLink RX1 35 yX1_stepsIn ∈ BIG := kB 410 (by decide +kernel) rfl
theorem w_im_X1_stepsIn : Cond.instanceMethod yX1_stepsIn ∈ BIG := kB 355 (by decide +kernel) rfl
theorem w_se_X1_stepsIn : Cond.selects RX1 yX1_stepsIn yX1_stepsIn ∈ BIG := kB 356 (by decide +kernel) rfl
theorem w_in_X1 : Cond.initialized RX1 ∈ BIG := kB 6 (by decide +kernel) rfl
theorem w_co_X1_stepsIn : Cond.code yX1_stepsIn cX1_stepsIn 4 (some .int) ∈ BIG := kB 357 (by decide +kernel) rfl
theorem w_ml_X1_39 : Cond.methodLink RX1 39 yJ6_bitCount_0f7a4 ∈ BIG := kB 411 (by decide +kernel) rfl
theorem w_st_J6_bitCount_0f7a4 : Cond.static yJ6_bitCount_0f7a4 ∈ BIG := kB 360 (by decide +kernel) rfl
theorem w_in_J6 : Cond.initialized RJ6 ∈ BIG := kB 23 (by decide +kernel) rfl
theorem w_co_J6_bitCount_0f7a4 : Cond.code yJ6_bitCount_0f7a4 cJ6_bitCount_0f7a4 1 (some .int) ∈ BIG := kB 361 (by decide +kernel) rfl
theorem w_f_X1_44 : Cond.fieldLink RX1 44 "OnboardingWorks$Joiner" "left" "Z" ∈ BIG := kB 191 (by decide +kernel) rfl
theorem w_f_X1_15 : Cond.fieldLink RX1 15 "OnboardingWorks$Joiner" "begins" "[I" ∈ BIG := kB 174 (by decide +kernel) rfl
theorem w_f_X1_18 : Cond.fieldLink RX1 18 "OnboardingWorks$Joiner" "lengths" "[I" ∈ BIG := kB 177 (by decide +kernel) rfl
end
section
abbrev bw_J6_bitCount_0f7a4 : List Cond := .code yJ6_bitCount_0f7a4 cJ6_bitCount_0f7a4 1 (some .int) :: BIG
abbrev rm_J6_bitCount_0f7a4 : Room := { frames := 0, cells := 0, slots := 0, locals := 0 }
def bc_1 (x : Int32) : Int32 := x - (((x.toUInt32 >>> ((1 : Int32).toUInt32 &&& Int32.toUInt32 31)).toInt32) &&& 1431655765)
def bc_2 (x : Int32) : Int32 := ((x) &&& 858993459) + ((((x).toUInt32 >>> ((2 : Int32).toUInt32 &&& Int32.toUInt32 31)).toInt32) &&& 858993459)
def bc_3 (x : Int32) : Int32 := ((x) + (((x).toUInt32 >>> ((4 : Int32).toUInt32 &&& Int32.toUInt32 31)).toInt32)) &&& 252645135
def bc_4 (x : Int32) : Int32 := (x) + (((x).toUInt32 >>> ((8 : Int32).toUInt32 &&& Int32.toUInt32 31)).toInt32)
def bc_5 (x : Int32) : Int32 := (x) + (((x).toUInt32 >>> ((16 : Int32).toUInt32 &&& Int32.toUInt32 31)).toInt32)
def sp_J6_bitCount_0f7a4 (p1 : Int32) : Int32 := (bc_5 (bc_4 (bc_3 (bc_2 (bc_1 p1))))) &&& 63
set_option maxHeartbeats 4000000 in
set_option maxRecDepth 100000 in
theorem ct_J6_bitCount_0f7a4 {l : Launch} {D : va_G} {cI cG cJ cO : ClassId} {K0 : Nat → Nat} {A : Nat → Prop} {L : List (Nat × Nat)} {ad : Nat → Nat → Nat} {ce : Nat → Nat → va_E} (p1 : Int32) (sz : Nat) (hA : ∀ q, sz ≤ q → A q) : Met l yJ6_bitCount_0f7a4 bw_J6_bitCount_0f7a4 rm_J6_bitCount_0f7a4 (kP D (ktys cI cG cJ cO) K0 A L ad ce sz [.int p1]) (kQi D A (sp_J6_bitCount_0f7a4 p1) L ad ce) 0 0 A := by
  refine Met.ofW (cc := cJ6_bitCount_0f7a4) (maxL := 1) (ret := (some .int)) (by decide) rfl ?_
  intro p e s m args below meth c s₁ B hml hv
  obtain ⟨hav, hsz, hP, hD, hK, hO⟩ := hv
  have hx := B.exec
  have hb := B.bytes
  have hr := B.returns
  have hts : ∀ w ∈ BIG, w.before args s = true := fun w h => atoms_spec (ws := bw_J6_bitCount_0f7a4) B.pre w (List.mem_cons_of_mem _ h)
  have hown : s.vm.findClass RJ6 = some m.cls := findClass_of_methodNamed B.named
  have hlocks := B.notSynchronized
  subst hsz
  have hw := wk.start hP hD
  refine k_start (by rfl) hav (Nat.le_of_ble_eq_true rfl) (fun ls hl => ?_)
  have hl : lv_has ls 1 [(0, .int p1)] := hl
  have hE : sp_J6_bitCount_0f7a4 p1 = sp_J6_bitCount_0f7a4 p1 := rfl
  refine lv_iload_n hx hb dJ6_bitCount_0f7a4_0 rfl (lv_at hl 0 rfl) ?_
  refine lv_iload_n hx hb dJ6_bitCount_0f7a4_1 rfl (lv_at hl 0 rfl) ?_
  refine lv_iconst (v := 1) hx hb dJ6_bitCount_0f7a4_2 (by decide) ?_
  refine lv_iushr (v := (p1.toUInt32 >>> ((1 : Int32).toUInt32 &&& Int32.toUInt32 31)).toInt32) hx hb dJ6_bitCount_0f7a4_3 rfl ?_
  refine lv_ldcw hx hb hown (hts _ w_ct_J6_265) dJ6_bitCount_0f7a4_4 ?_
  refine lv_iand hx hb dJ6_bitCount_0f7a4_7 ?_
  refine lv_isub hx hb dJ6_bitCount_0f7a4_8 ?_
  refine lv_istore_n (lv' := [(0, .int (bc_1 p1))]) hx hb dJ6_bitCount_0f7a4_9 rfl hl (by decide) rfl (fun ls hl => ?_)
  refine lv_iload_n hx hb dJ6_bitCount_0f7a4_10 rfl (lv_at hl 0 rfl) ?_
  refine lv_ldcw hx hb hown (hts _ w_ct_J6_266) dJ6_bitCount_0f7a4_11 ?_
  refine lv_iand hx hb dJ6_bitCount_0f7a4_14 ?_
  refine lv_iload_n hx hb dJ6_bitCount_0f7a4_15 rfl (lv_at hl 0 rfl) ?_
  refine lv_iconst (v := 2) hx hb dJ6_bitCount_0f7a4_16 (by decide) ?_
  refine lv_iushr (v := ((bc_1 p1).toUInt32 >>> ((2 : Int32).toUInt32 &&& Int32.toUInt32 31)).toInt32) hx hb dJ6_bitCount_0f7a4_17 rfl ?_
  refine lv_ldcw hx hb hown (hts _ w_ct_J6_266) dJ6_bitCount_0f7a4_18 ?_
  refine lv_iand hx hb dJ6_bitCount_0f7a4_21 ?_
  refine lv_iadd hx hb dJ6_bitCount_0f7a4_22 ?_
  refine lv_istore_n (lv' := [(0, .int (bc_2 (bc_1 p1)))]) hx hb dJ6_bitCount_0f7a4_23 rfl hl (by decide) rfl (fun ls hl => ?_)
  refine lv_iload_n hx hb dJ6_bitCount_0f7a4_24 rfl (lv_at hl 0 rfl) ?_
  refine lv_iload_n hx hb dJ6_bitCount_0f7a4_25 rfl (lv_at hl 0 rfl) ?_
  refine lv_iconst (v := 4) hx hb dJ6_bitCount_0f7a4_26 (by decide) ?_
  refine lv_iushr (v := ((bc_2 (bc_1 p1)).toUInt32 >>> ((4 : Int32).toUInt32 &&& Int32.toUInt32 31)).toInt32) hx hb dJ6_bitCount_0f7a4_27 rfl ?_
  refine lv_iadd hx hb dJ6_bitCount_0f7a4_28 ?_
  refine lv_ldcw hx hb hown (hts _ w_ct_J6_267) dJ6_bitCount_0f7a4_29 ?_
  refine lv_iand hx hb dJ6_bitCount_0f7a4_32 ?_
  refine lv_istore_n (lv' := [(0, .int (bc_3 (bc_2 (bc_1 p1))))]) hx hb dJ6_bitCount_0f7a4_33 rfl hl (by decide) rfl (fun ls hl => ?_)
  refine lv_iload_n hx hb dJ6_bitCount_0f7a4_34 rfl (lv_at hl 0 rfl) ?_
  refine lv_iload_n hx hb dJ6_bitCount_0f7a4_35 rfl (lv_at hl 0 rfl) ?_
  refine lv_bipush (v := 8) hx hb dJ6_bitCount_0f7a4_36 (by decide) ?_
  refine lv_iushr (v := ((bc_3 (bc_2 (bc_1 p1))).toUInt32 >>> ((8 : Int32).toUInt32 &&& Int32.toUInt32 31)).toInt32) hx hb dJ6_bitCount_0f7a4_38 rfl ?_
  refine lv_iadd hx hb dJ6_bitCount_0f7a4_39 ?_
  refine lv_istore_n (lv' := [(0, .int (bc_4 (bc_3 (bc_2 (bc_1 p1)))))]) hx hb dJ6_bitCount_0f7a4_40 rfl hl (by decide) rfl (fun ls hl => ?_)
  refine lv_iload_n hx hb dJ6_bitCount_0f7a4_41 rfl (lv_at hl 0 rfl) ?_
  refine lv_iload_n hx hb dJ6_bitCount_0f7a4_42 rfl (lv_at hl 0 rfl) ?_
  refine lv_bipush (v := 16) hx hb dJ6_bitCount_0f7a4_43 (by decide) ?_
  refine lv_iushr (v := ((bc_4 (bc_3 (bc_2 (bc_1 p1)))).toUInt32 >>> ((16 : Int32).toUInt32 &&& Int32.toUInt32 31)).toInt32) hx hb dJ6_bitCount_0f7a4_45 rfl ?_
  refine lv_iadd hx hb dJ6_bitCount_0f7a4_46 ?_
  refine lv_istore_n (lv' := [(0, .int (bc_5 (bc_4 (bc_3 (bc_2 (bc_1 p1))))))]) hx hb dJ6_bitCount_0f7a4_47 rfl hl (by decide) rfl (fun ls hl => ?_)
  refine lv_iload_n hx hb dJ6_bitCount_0f7a4_48 rfl (lv_at hl 0 rfl) ?_
  refine lv_bipush (v := 63) hx hb dJ6_bitCount_0f7a4_49 (by decide) ?_
  refine lv_iand hx hb dJ6_bitCount_0f7a4_51 ?_
  exact k_iret hx hb hr hlocks rfl hw hE rfl dJ6_bitCount_0f7a4_52

abbrev bw_X5_has : List Cond := .code yX5_has cX5_has 2 (some .boolean) :: BIG
abbrev rm_X5_has : Room := { frames := 0, cells := 0, slots := 0, locals := 0 }
def sp_X5_has (p1 : Int32) (p2 : Int32) : Int32 := if (p1 >>> (p2 &&& 31)) &&& 1 = 1 then (1) else (0)
set_option maxHeartbeats 4000000 in
set_option maxRecDepth 100000 in
theorem ct_X5_has {l : Launch} {D : va_G} {cI cG cJ cO : ClassId} {K0 : Nat → Nat} {A : Nat → Prop} {L : List (Nat × Nat)} {ad : Nat → Nat → Nat} {ce : Nat → Nat → va_E} (p1 : Int32) (p2 : Int32) (sz : Nat) (hA : ∀ q, sz ≤ q → A q) : Met l yX5_has bw_X5_has rm_X5_has (kP D (ktys cI cG cJ cO) K0 A L ad ce sz [.int p1, .int p2]) (kQi D A (sp_X5_has p1 p2) L ad ce) 0 0 A := by
  refine Met.ofW (cc := cX5_has) (maxL := 2) (ret := (some .boolean)) (by decide) rfl ?_
  intro p e s m args below meth c s₁ B hml hv
  obtain ⟨hav, hsz, hP, hD, hK, hO⟩ := hv
  have hx := B.exec
  have hb := B.bytes
  have hr := B.returns
  have hts : ∀ w ∈ BIG, w.before args s = true := fun w h => atoms_spec (ws := bw_X5_has) B.pre w (List.mem_cons_of_mem _ h)
  have hown : s.vm.findClass RX5 = some m.cls := findClass_of_methodNamed B.named
  have hlocks := B.notSynchronized
  subst hsz
  have hw := wk.start hP hD
  refine k_start (by rfl) hav (Nat.le_of_ble_eq_true rfl) (fun ls hl => ?_)
  have hl : lv_has ls 2 [(0, .int p1), (1, .int p2)] := hl
  have hE : sp_X5_has p1 p2 = sp_X5_has p1 p2 := rfl
  refine lv_iload_n hx hb dX5_has_0 rfl (lv_at hl 0 rfl) ?_
  refine lv_iload_n hx hb dX5_has_1 rfl (lv_at hl 1 rfl) ?_
  refine lv_ishr hx hb dX5_has_2 ?_
  refine lv_iconst (v := 1) hx hb dX5_has_3 (by decide) ?_
  refine lv_iand hx hb dX5_has_4 ?_
  refine lv_iconst (v := 1) hx hb dX5_has_5 (by decide) ?_
  refine lv_icmp_ne (tgt := 13) hx hb dX5_has_6 (by decide) (fun c_1 => ?_) (fun c_1 => ?_)
  · have hE := hE.trans (if_neg c_1)
    refine lv_iconst (v := 0) hx hb dX5_has_13 (by decide) ?_
    exact k_iret hx hb hr hlocks rfl hw hE rfl dX5_has_14
  · have hE := hE.trans (if_pos c_1)
    refine lv_iconst (v := 1) hx hb dX5_has_9 (by decide) ?_
    refine lv_goto (tgt := 14) hx hb dX5_has_10 (by decide) ?_
    exact k_iret hx hb hr hlocks rfl hw hE rfl dX5_has_14

theorem bz_X5_has (p1 : Int32) (p2 : Int32) : sp_X5_has p1 p2 = 0 ∨ sp_X5_has p1 p2 = 1 := by
  unfold sp_X5_has
  repeat' split
  all_goals first | exact Or.inl rfl | exact Or.inr rfl | exact bz_X5_has _ _ | skip

abbrev bw_X5_isWithin : List Cond := .code yX5_isWithin cX5_isWithin 3 (some .boolean) :: BIG
abbrev rm_X5_isWithin : Room := { frames := 0, cells := 0, slots := 0, locals := 0 }
def sp_X5_isWithin (p1 : Int32) (p2 : Int32) (p3 : Int32) : Int32 := if p1 < p2 then (0) else (if p3 < p1 then (0) else (1))
set_option maxHeartbeats 4000000 in
set_option maxRecDepth 100000 in
theorem ct_X5_isWithin {l : Launch} {D : va_G} {cI cG cJ cO : ClassId} {K0 : Nat → Nat} {A : Nat → Prop} {L : List (Nat × Nat)} {ad : Nat → Nat → Nat} {ce : Nat → Nat → va_E} (p1 : Int32) (p2 : Int32) (p3 : Int32) (sz : Nat) (hA : ∀ q, sz ≤ q → A q) : Met l yX5_isWithin bw_X5_isWithin rm_X5_isWithin (kP D (ktys cI cG cJ cO) K0 A L ad ce sz [.int p1, .int p2, .int p3]) (kQi D A (sp_X5_isWithin p1 p2 p3) L ad ce) 0 0 A := by
  refine Met.ofW (cc := cX5_isWithin) (maxL := 3) (ret := (some .boolean)) (by decide) rfl ?_
  intro p e s m args below meth c s₁ B hml hv
  obtain ⟨hav, hsz, hP, hD, hK, hO⟩ := hv
  have hx := B.exec
  have hb := B.bytes
  have hr := B.returns
  have hts : ∀ w ∈ BIG, w.before args s = true := fun w h => atoms_spec (ws := bw_X5_isWithin) B.pre w (List.mem_cons_of_mem _ h)
  have hown : s.vm.findClass RX5 = some m.cls := findClass_of_methodNamed B.named
  have hlocks := B.notSynchronized
  subst hsz
  have hw := wk.start hP hD
  refine k_start (by rfl) hav (Nat.le_of_ble_eq_true rfl) (fun ls hl => ?_)
  have hl : lv_has ls 3 [(0, .int p1), (1, .int p2), (2, .int p3)] := hl
  have hE : sp_X5_isWithin p1 p2 p3 = sp_X5_isWithin p1 p2 p3 := rfl
  refine lv_iload_n hx hb dX5_isWithin_0 rfl (lv_at hl 0 rfl) ?_
  refine lv_iload_n hx hb dX5_isWithin_1 rfl (lv_at hl 1 rfl) ?_
  refine lv_icmp_lt (tgt := 14) hx hb dX5_isWithin_2 (by decide) (fun c_1 => ?_) (fun c_1 => ?_)
  · have hE := hE.trans (if_pos c_1)
    refine lv_iconst (v := 0) hx hb dX5_isWithin_14 (by decide) ?_
    exact k_iret hx hb hr hlocks rfl hw hE rfl dX5_isWithin_15
  · have hE := hE.trans (if_neg c_1)
    refine lv_iload_n hx hb dX5_isWithin_5 rfl (lv_at hl 0 rfl) ?_
    refine lv_iload_n hx hb dX5_isWithin_6 rfl (lv_at hl 2 rfl) ?_
    refine lv_icmp_gt (tgt := 14) hx hb dX5_isWithin_7 (by decide) (fun c_2 => ?_) (fun c_2 => ?_)
    · have hE := hE.trans (if_pos c_2)
      refine lv_iconst (v := 0) hx hb dX5_isWithin_14 (by decide) ?_
      exact k_iret hx hb hr hlocks rfl hw hE rfl dX5_isWithin_15
    · have hE := hE.trans (if_neg c_2)
      refine lv_iconst (v := 1) hx hb dX5_isWithin_10 (by decide) ?_
      refine lv_goto (tgt := 15) hx hb dX5_isWithin_11 (by decide) ?_
      exact k_iret hx hb hr hlocks rfl hw hE rfl dX5_isWithin_15

theorem bz_X5_isWithin (p1 : Int32) (p2 : Int32) (p3 : Int32) : sp_X5_isWithin p1 p2 p3 = 0 ∨ sp_X5_isWithin p1 p2 p3 = 1 := by
  unfold sp_X5_isWithin
  repeat' split
  all_goals first | exact Or.inl rfl | exact Or.inr rfl | exact bz_X5_has _ _ | skip

abbrev bw_X5_isOfKind : List Cond := .code yX5_isOfKind cX5_isOfKind 2 (some .boolean) :: BIG
abbrev rm_X5_isOfKind : Room := { frames := 1, cells := 0, slots := 0, locals := 22 }
def sp_X5_isOfKind (p1 : Int32) (p2 : Int32) : Int32 := if p1 = 0 then (sp_X5_isWithin p2 0 255) else (if p1 = 1 then (if sp_X5_isWithin p2 0 3 = 0 then (0) else (1)) else (1))
set_option maxHeartbeats 4000000 in
set_option maxRecDepth 100000 in
theorem ct_X5_isOfKind {l : Launch} {D : va_G} {cI cG cJ cO : ClassId} {K0 : Nat → Nat} {A : Nat → Prop} {L : List (Nat × Nat)} {ad : Nat → Nat → Nat} {ce : Nat → Nat → va_E} (p1 : Int32) (p2 : Int32) (sz : Nat) (hA : ∀ q, sz ≤ q → A q) : Met l yX5_isOfKind bw_X5_isOfKind rm_X5_isOfKind (kP D (ktys cI cG cJ cO) K0 A L ad ce sz [.int p1, .int p2]) (kQi D A (sp_X5_isOfKind p1 p2) L ad ce) 0 0 A := by
  refine Met.ofW (cc := cX5_isOfKind) (maxL := 2) (ret := (some .boolean)) (by decide) rfl ?_
  intro p e s m args below meth c s₁ B hml hv
  obtain ⟨hav, hsz, hP, hD, hK, hO⟩ := hv
  have hx := B.exec
  have hb := B.bytes
  have hr := B.returns
  have hts : ∀ w ∈ BIG, w.before args s = true := fun w h => atoms_spec (ws := bw_X5_isOfKind) B.pre w (List.mem_cons_of_mem _ h)
  have hown : s.vm.findClass RX5 = some m.cls := findClass_of_methodNamed B.named
  have hlocks := B.notSynchronized
  subst hsz
  have hw := wk.start hP hD
  refine k_start (by rfl) hav (Nat.le_of_ble_eq_true rfl) (fun ls hl => ?_)
  have hl : lv_has ls 2 [(0, .int p1), (1, .int p2)] := hl
  have hE : sp_X5_isOfKind p1 p2 = sp_X5_isOfKind p1 p2 := rfl
  refine lv_iload_n hx hb dX5_isOfKind_0 rfl (lv_at hl 0 rfl) ?_
  refine lv_if_ne (tgt := 13) hx hb dX5_isOfKind_1 (by decide) (fun c_1 => ?_) (fun c_1 => ?_)
  · have hE := hE.trans (if_neg c_1)
    refine lv_iload_n hx hb dX5_isOfKind_13 rfl (lv_at hl 0 rfl) ?_
    refine lv_iconst (v := 1) hx hb dX5_isOfKind_14 (by decide) ?_
    refine lv_icmp_ne (tgt := 27) hx hb dX5_isOfKind_15 (by decide) (fun c_2 => ?_) (fun c_2 => ?_)
    · have hE := hE.trans (if_neg c_2)
      refine lv_iconst (v := 1) hx hb dX5_isOfKind_27 (by decide) ?_
      refine lv_goto (tgt := 32) hx hb dX5_isOfKind_28 (by decide) ?_
      exact k_iret hx hb hr hlocks rfl hw hE rfl dX5_isOfKind_32
    · have hE := hE.trans (if_pos c_2)
      refine lv_iload_n hx hb dX5_isOfKind_18 rfl (lv_at hl 1 rfl) ?_
      refine lv_iconst (v := 0) hx hb dX5_isOfKind_19 (by decide) ?_
      refine lv_iconst (v := 3) hx hb dX5_isOfKind_20 (by decide) ?_
      refine k_ci0 hw (k_rS (As := [.int p2, .int 0, .int 3]) (rest := []) ⟨hx, hb, hml, hown, hts⟩ hK hO hw (ct_X5_isWithin p2 0 3 _ (wk.hA hw hA)) (va_cwS 3 hts (gB_S w_ml_X5_46 w_st_X5_isWithin w_in_X5 w_co_X5_isWithin) rfl rfl rfl (by decide +kernel) ⟨by decide, by decide⟩) rfl hl.1 rfl (Nat.le_of_ble_eq_true rfl) dX5_isOfKind_21 ⟨Nat.zero_le _, Nat.zero_le _⟩) (fun H locs hw => ?_)
      refine lv_if_eq (tgt := 31) hx hb dX5_isOfKind_24 (by decide) (fun c_3 => ?_) (fun c_3 => ?_)
      · have hE := hE.trans (if_pos c_3)
        refine lv_iconst (v := 0) hx hb dX5_isOfKind_31 (by decide) ?_
        exact k_iret hx hb hr hlocks rfl hw hE rfl dX5_isOfKind_32
      · have hE := hE.trans (if_neg c_3)
        refine lv_iconst (v := 1) hx hb dX5_isOfKind_27 (by decide) ?_
        refine lv_goto (tgt := 32) hx hb dX5_isOfKind_28 (by decide) ?_
        exact k_iret hx hb hr hlocks rfl hw hE rfl dX5_isOfKind_32
  · have hE := hE.trans (if_pos c_1)
    refine lv_iload_n hx hb dX5_isOfKind_4 rfl (lv_at hl 1 rfl) ?_
    refine lv_iconst (v := 0) hx hb dX5_isOfKind_5 (by decide) ?_
    refine lv_sipush (v := 255) hx hb dX5_isOfKind_6 (by decide) ?_
    refine k_ci0 hw (k_rS (As := [.int p2, .int 0, .int 255]) (rest := []) ⟨hx, hb, hml, hown, hts⟩ hK hO hw (ct_X5_isWithin p2 0 255 _ (wk.hA hw hA)) (va_cwS 3 hts (gB_S w_ml_X5_46 w_st_X5_isWithin w_in_X5 w_co_X5_isWithin) rfl rfl rfl (by decide +kernel) ⟨by decide, by decide⟩) rfl hl.1 rfl (Nat.le_of_ble_eq_true rfl) dX5_isOfKind_9 ⟨Nat.zero_le _, Nat.zero_le _⟩) (fun H locs hw => ?_)
    exact k_iret hx hb hr hlocks (k_nz (bz_X5_isWithin _ _ _)) hw hE rfl dX5_isOfKind_12

theorem bz_X5_isOfKind (p1 : Int32) (p2 : Int32) : sp_X5_isOfKind p1 p2 = 0 ∨ sp_X5_isOfKind p1 p2 = 1 := by
  unfold sp_X5_isOfKind
  repeat' split
  all_goals first | exact Or.inl rfl | exact Or.inr rfl | exact bz_X5_isWithin _ _ _
end
section
abbrev bw_X1_isIn : List Cond := .code yX1_isIn cX1_isIn 3 (some .boolean) :: BIG
abbrev rm_X1_isIn : Room := { frames := 1, cells := 0, slots := 0, locals := 21 }
def sp_X1_isIn (S : (Nat → Nat → Nat → Int32)) (j : Nat) (p1 : Int32) (p2 : Int32) : Int32 := if p1 < 0 then (0) else (if 12 ≤ p1 then (0) else (if sp_X5_has (S 6 j 0) p1 = 0 then (0) else (if S 24 j p1.toNatClampNeg = p2 then (1) else (0))))
set_option maxHeartbeats 4000000 in
set_option maxRecDepth 100000 in
theorem ct_X1_isIn {l : Launch} {D : va_G} {cI cG cJ cO : ClassId} {K0 : Nat → Nat} {A : Nat → Prop} {L : List (Nat × Nat)} {ad : Nat → Nat → Nat} {ce : Nat → Nat → va_E} (hL : ∀ f o, cid f o = true → (f, o) ∈ L) (S : (Nat → Nat → Nat → Int32)) (hI : CI S) (j : Nat) (hj : j < 8) (p1 : Int32) (p2 : Int32) (sz : Nat) (hA : ∀ q, sz ≤ q → A q) : Met l yX1_isIn bw_X1_isIn rm_X1_isIn (kP D (ktys cI cG cJ cO) K0 A L ad (cK cI cJ ad ce S) sz [.ref (ad 6 j), .int p1, .int p2]) (kQi D A (sp_X1_isIn S j p1 p2) L ad (cK cI cJ ad ce S)) 0 0 A := by
  refine Met.ofW (cc := cX1_isIn) (maxL := 3) (ret := (some .boolean)) (by decide) rfl ?_
  intro p e s m args below meth c s₁ B hml hv
  obtain ⟨hav, hsz, hP, hD, hK, hO⟩ := hv
  have hx := B.exec
  have hb := B.bytes
  have hr := B.returns
  have hts : ∀ w ∈ BIG, w.before args s = true := fun w h => atoms_spec (ws := bw_X1_isIn) B.pre w (List.mem_cons_of_mem _ h)
  have hown : s.vm.findClass RX1 = some m.cls := findClass_of_methodNamed B.named
  have hlocks := B.notSynchronized
  subst hsz
  have hw := wk.start hP hD
  refine k_start (by rfl) hav (Nat.le_of_ble_eq_true rfl) (fun ls hl => ?_)
  have hl : lv_has ls 3 [(0, .ref (ad 6 j)), (1, .int p1), (2, .int p2)] := hl
  have hE : sp_X1_isIn S j p1 p2 = sp_X1_isIn S j p1 p2 := rfl
  refine lv_iload_n hx hb dX1_isIn_0 rfl (lv_at hl 1 rfl) ?_
  refine lv_if_lt (tgt := 35) hx hb dX1_isIn_1 (by decide) (fun c_1 => ?_) (fun c_1 => ?_)
  · have hE := hE.trans (if_pos c_1)
    refine lv_iconst (v := 0) hx hb dX1_isIn_35 (by decide) ?_
    exact k_iret hx hb hr hlocks rfl hw hE rfl dX1_isIn_36
  · have hE := hE.trans (if_neg c_1)
    refine lv_iload_n hx hb dX1_isIn_4 rfl (lv_at hl 1 rfl) ?_
    refine lv_bipush (v := 12) hx hb dX1_isIn_5 (by decide) ?_
    refine lv_icmp_ge (tgt := 35) hx hb dX1_isIn_7 (by decide) (fun c_2 => ?_) (fun c_2 => ?_)
    · have hE := hE.trans (if_pos c_2)
      refine lv_iconst (v := 0) hx hb dX1_isIn_35 (by decide) ?_
      exact k_iret hx hb hr hlocks rfl hw hE rfl dX1_isIn_36
    · have hE := hE.trans (if_neg c_2)
      refine lv_aload_n hx hb dX1_isIn_10 rfl (lv_at hl 0 rfl) ?_
      refine k_get (C := RX1) (T := TX1) (N := 8) (v := .int (S 6 j 0)) hx hb hts inB_X1 hown hK hw (hL 6 j (cidJ6 hj)) cke_6 rfl 5 (by decide) (hts _ w_f_X1_27) (fun _ h9 => h9) rfl dX1_isIn_11 ?_
      refine lv_iload_n hx hb dX1_isIn_14 rfl (lv_at hl 1 rfl) ?_
      refine k_ci0 hw (k_rSN (As := [.int (S 6 j 0), .int p1]) (rest := []) ⟨hx, hb, hml, hown, hts⟩ hK hO hw (ct_X5_has (S 6 j 0) p1 _ (wk.hA hw hA)) (⟨va_cnB 2 hts (gB_0 w_co_X5_has) rfl rfl rfl (hO.2.2.1 _ w_mn_X1_31) (hts _ w_in_X5) (by decide +kernel) ⟨by decide, by decide⟩, hts _ w_st_X5_has, trivial⟩) rfl hl.1 rfl (Nat.le_of_ble_eq_true rfl) dX1_isIn_15 ⟨Nat.zero_le _, Nat.zero_le _⟩) (fun H locs hw => ?_)
      refine lv_if_eq (tgt := 35) hx hb dX1_isIn_18 (by decide) (fun c_3 => ?_) (fun c_3 => ?_)
      · have hE := hE.trans (if_pos c_3)
        refine lv_iconst (v := 0) hx hb dX1_isIn_35 (by decide) ?_
        exact k_iret hx hb hr hlocks rfl hw hE rfl dX1_isIn_36
      · have hE := hE.trans (if_neg c_3)
        refine lv_aload_n hx hb dX1_isIn_21 rfl (lv_at hl 0 rfl) ?_
        refine k_get (C := RX1) (T := TX1) (N := 8) (v := .ref (ad 24 j)) hx hb hts inB_X1 hown hK hw (hL 6 j (cidJ6 hj)) cke_6 rfl 0 (by decide) (hts _ w_f_X1_9) (fun _ h9 => h9) rfl dX1_isIn_22 ?_
        refine lv_iload_n hx hb dX1_isIn_25 rfl (lv_at hl 1 rfl) ?_
        refine k_ald hx hb hK hw (hL 24 j (cidJ24 hj)) 0 cke_24 rfl (k_in c_1 c_2 (by decide)) dX1_isIn_26 ?_
        refine lv_iload_n hx hb dX1_isIn_27 rfl (lv_at hl 2 rfl) ?_
        refine lv_icmp_ne (tgt := 35) hx hb dX1_isIn_28 (by decide) (fun c_4 => ?_) (fun c_4 => ?_)
        · have hE := hE.trans (if_neg c_4)
          refine lv_iconst (v := 0) hx hb dX1_isIn_35 (by decide) ?_
          exact k_iret hx hb hr hlocks rfl hw hE rfl dX1_isIn_36
        · have hE := hE.trans (if_pos c_4)
          refine lv_iconst (v := 1) hx hb dX1_isIn_31 (by decide) ?_
          refine lv_goto (tgt := 36) hx hb dX1_isIn_32 (by decide) ?_
          exact k_iret hx hb hr hlocks rfl hw hE rfl dX1_isIn_36

theorem bz_X1_isIn (S : (Nat → Nat → Nat → Int32)) (j : Nat) (p1 : Int32) (p2 : Int32) : sp_X1_isIn S j p1 p2 = 0 ∨ sp_X1_isIn S j p1 p2 = 1 := by
  unfold sp_X1_isIn
  repeat' split
  all_goals first | exact Or.inl rfl | exact Or.inr rfl | exact bz_X5_has _ _ | skip

abbrev bw_X1_stepsIn : List Cond := .code yX1_stepsIn cX1_stepsIn 4 (some .int) :: BIG
abbrev rm_X1_stepsIn : Room := { frames := 0, cells := 0, slots := 0, locals := 0 }
def lp_X1_stepsIn_4 (S : (Nat → Nat → Nat → Int32)) (j : Nat) (p1 : Int32) : Nat → Nat → Int32 → Int32
  | 0, i, v2 => (v2)
  | k + 1, i, v2 => if S 24 j i = p1 then (lp_X1_stepsIn_4 S j p1 k (i + 1) (v2 ||| (1 <<< ((nI i) &&& 31)))) else (lp_X1_stepsIn_4 S j p1 k (i + 1) v2)
def sp_X1_stepsIn (S : (Nat → Nat → Nat → Int32)) (j : Nat) (p1 : Int32) : Int32 := (lp_X1_stepsIn_4 S j p1 12 0 0) &&& (S 6 j 0)
set_option maxHeartbeats 4000000 in
set_option maxRecDepth 100000 in
theorem ct_X1_stepsIn {l : Launch} {D : va_G} {cI cG cJ cO : ClassId} {K0 : Nat → Nat} {A : Nat → Prop} {L : List (Nat × Nat)} {ad : Nat → Nat → Nat} {ce : Nat → Nat → va_E} (hL : ∀ f o, cid f o = true → (f, o) ∈ L) (S : (Nat → Nat → Nat → Int32)) (hI : CI S) (j : Nat) (hj : j < 8) (p1 : Int32) (sz : Nat) (hA : ∀ q, sz ≤ q → A q) : Met l yX1_stepsIn bw_X1_stepsIn rm_X1_stepsIn (kP D (ktys cI cG cJ cO) K0 A L ad (cK cI cJ ad ce S) sz [.ref (ad 6 j), .int p1]) (kQi D A (sp_X1_stepsIn S j p1) L ad (cK cI cJ ad ce S)) 0 0 A := by
  refine Met.ofW (cc := cX1_stepsIn) (maxL := 4) (ret := (some .int)) (by decide) rfl ?_
  intro p e s m args below meth c s₁ B hml hv
  obtain ⟨hav, hsz, hP, hD, hK, hO⟩ := hv
  have hx := B.exec
  have hb := B.bytes
  have hr := B.returns
  have hts : ∀ w ∈ BIG, w.before args s = true := fun w h => atoms_spec (ws := bw_X1_stepsIn) B.pre w (List.mem_cons_of_mem _ h)
  have hown : s.vm.findClass RX1 = some m.cls := findClass_of_methodNamed B.named
  have hlocks := B.notSynchronized
  subst hsz
  have hw := wk.start hP hD
  refine k_start (by rfl) hav (Nat.le_of_ble_eq_true rfl) (fun ls hl => ?_)
  have hl : lv_has ls 4 [(0, .ref (ad 6 j)), (1, .int p1)] := hl
  have hE : sp_X1_stepsIn S j p1 = sp_X1_stepsIn S j p1 := rfl
  refine lv_iconst (v := 0) hx hb dX1_stepsIn_0 (by decide) ?_
  refine lv_istore_n (lv' := [(2, .int 0), (0, .ref (ad 6 j)), (1, .int p1)]) hx hb dX1_stepsIn_1 rfl hl (by decide) rfl (fun ls hl => ?_)
  refine lv_iconst (v := 0) hx hb dX1_stepsIn_2 (by decide) ?_
  refine lv_istore_n (lv' := [(3, .int 0), (2, .int 0), (0, .ref (ad 6 j)), (1, .int p1)]) hx hb dX1_stepsIn_3 rfl hl (by decide) rfl (fun ls hl => ?_)
  have key_4 : ∀ (k i : Nat) (v2 : Int32) (H : Heap) (locs : List Loc) (ls : Array Slot), i + k = 12 → (lp_X1_stepsIn_4 S j p1 12 0 0) = lp_X1_stepsIn_4 S j p1 k i v2 → wk D A L ad (cK cI cJ ad ce S) s.heap H locs → lv_has ls 4 [(0, .ref (ad 6 j)), (1, .int p1), (2, .int v2), (3, .int (nI i))] → W p l e (headSpec bw_X1_stepsIn rm_X1_stepsIn).room s m args below meth c H locs 0 0 (MQ below (kQi D A (sp_X1_stepsIn S j p1) L ad (cK cI cJ ad ce S)) args s 0 0 A) (F0 m 4 ls []) := by
    intro k
    induction k with
    | zero =>
      intro i v2 H locs ls hk hV hw hl
      obtain rfl : v2 = (lp_X1_stepsIn_4 S j p1 12 0 0) := hV.symm
      refine lv_iload_n hx hb dX1_stepsIn_4 rfl (lv_at hl 3 rfl) ?_
      refine lv_bipush (v := 12) hx hb dX1_stepsIn_5 (by decide) ?_
      refine lv_icmp_ge (tgt := 32) hx hb dX1_stepsIn_7 (by decide) (fun _ => ?_) (fun h => absurd (lp_o rfl hk (by decide)) h)
      refine lv_iload_n hx hb dX1_stepsIn_32 rfl (lv_at hl 2 rfl) ?_
      refine lv_aload_n hx hb dX1_stepsIn_33 rfl (lv_at hl 0 rfl) ?_
      refine k_get (C := RX1) (T := TX1) (N := 8) (v := .int (S 6 j 0)) hx hb hts inB_X1 hown hK hw (hL 6 j (cidJ6 hj)) cke_6 rfl 5 (by decide) (hts _ w_f_X1_27) (fun _ h9 => h9) rfl dX1_stepsIn_34 ?_
      refine lv_iand hx hb dX1_stepsIn_37 ?_
      exact k_iret hx hb hr hlocks rfl hw hE rfl dX1_stepsIn_38
    | succ k ih =>
      intro i v2 H locs ls hk hV hw hl
      refine lv_iload_n hx hb dX1_stepsIn_4 rfl (lv_at hl 3 rfl) ?_
      refine lv_bipush (v := 12) hx hb dX1_stepsIn_5 (by decide) ?_
      refine lv_icmp_ge (tgt := 32) hx hb dX1_stepsIn_7 (by decide) (fun h => absurd h (lp_i rfl hk (by decide))) (fun _ => ?_)
      refine lv_aload_n hx hb dX1_stepsIn_10 rfl (lv_at hl 0 rfl) ?_
      refine k_get (C := RX1) (T := TX1) (N := 8) (v := .ref (ad 24 j)) hx hb hts inB_X1 hown hK hw (hL 6 j (cidJ6 hj)) cke_6 rfl 0 (by decide) (hts _ w_f_X1_9) (fun _ h9 => h9) rfl dX1_stepsIn_11 ?_
      refine lv_iload_n hx hb dX1_stepsIn_14 rfl (lv_at hl 3 rfl) ?_
      refine k_aldn hx hb hK hw (hL 24 j (cidJ24 hj)) 0 cke_24 rfl (lp_l hk) (by decide) dX1_stepsIn_15 ?_
      refine lv_iload_n hx hb dX1_stepsIn_16 rfl (lv_at hl 1 rfl) ?_
      refine lv_icmp_ne (tgt := 26) hx hb dX1_stepsIn_17 (by decide) (fun c_1 => ?_) (fun c_1 => ?_)
      · have hV := hV.trans (if_neg c_1)
        refine lv_iinc (v := (nI (i + 1))) (lv' := [(3, .int (nI (i + 1))), (0, .ref (ad 6 j)), (1, .int p1), (2, .int v2)]) hx hb dX1_stepsIn_26 hl (k := 3) rfl (nI_1 _) (by decide) rfl (fun ls hl => ?_)
        refine lv_goto (tgt := 4) hx hb dX1_stepsIn_29 (by decide) ?_
        exact ih (i + 1) v2 _ _ _ (lp_s hk) hV hw (lv_sub hl [1, 2, 3, 0] rfl)
      · have hV := hV.trans (if_pos c_1)
        refine lv_iload_n hx hb dX1_stepsIn_20 rfl (lv_at hl 2 rfl) ?_
        refine lv_iconst (v := 1) hx hb dX1_stepsIn_21 (by decide) ?_
        refine lv_iload_n hx hb dX1_stepsIn_22 rfl (lv_at hl 3 rfl) ?_
        refine lv_ishl hx hb dX1_stepsIn_23 ?_
        refine lv_ior hx hb dX1_stepsIn_24 ?_
        refine lv_istore_n (lv' := [(2, .int (v2 ||| (1 <<< ((nI i) &&& 31)))), (0, .ref (ad 6 j)), (1, .int p1), (3, .int (nI i))]) hx hb dX1_stepsIn_25 rfl hl (by decide) rfl (fun ls hl => ?_)
        refine lv_iinc (v := (nI (i + 1))) (lv' := [(3, .int (nI (i + 1))), (2, .int (v2 ||| (1 <<< ((nI i) &&& 31)))), (0, .ref (ad 6 j)), (1, .int p1)]) hx hb dX1_stepsIn_26 hl (k := 3) rfl (nI_1 _) (by decide) rfl (fun ls hl => ?_)
        refine lv_goto (tgt := 4) hx hb dX1_stepsIn_29 (by decide) ?_
        exact ih (i + 1) (v2 ||| (1 <<< ((nI i) &&& 31))) _ _ _ (lp_s hk) hV hw (lv_sub hl [2, 3, 1, 0] rfl)
  exact key_4 12 0 0 _ _ _ (Nat.zero_add _) rfl hw (lv_sub hl [2, 3, 1, 0] rfl)

abbrev bw_X1_countIn : List Cond := .code yX1_countIn cX1_countIn 2 (some .int) :: BIG
abbrev rm_X1_countIn : Room := { frames := 1, cells := 0, slots := 0, locals := 23 }
def sp_X1_countIn (S : (Nat → Nat → Nat → Int32)) (j : Nat) (p1 : Int32) : Int32 := sp_J6_bitCount_0f7a4 (sp_X1_stepsIn S j p1)
set_option maxHeartbeats 4000000 in
set_option maxRecDepth 100000 in
theorem ct_X1_countIn {l : Launch} {D : va_G} {cI cG cJ cO : ClassId} {K0 : Nat → Nat} {A : Nat → Prop} {L : List (Nat × Nat)} {ad : Nat → Nat → Nat} {ce : Nat → Nat → va_E} (hL : ∀ f o, cid f o = true → (f, o) ∈ L) (S : (Nat → Nat → Nat → Int32)) (hI : CI S) (j : Nat) (hj : j < 8) (p1 : Int32) (sz : Nat) (hA : ∀ q, sz ≤ q → A q) : Met l yX1_countIn bw_X1_countIn rm_X1_countIn (kP D (ktys cI cG cJ cO) K0 A L ad (cK cI cJ ad ce S) sz [.ref (ad 6 j), .int p1]) (kQi D A (sp_X1_countIn S j p1) L ad (cK cI cJ ad ce S)) 0 0 A := by
  refine Met.ofW (cc := cX1_countIn) (maxL := 2) (ret := (some .int)) (by decide) rfl ?_
  intro p e s m args below meth c s₁ B hml hv
  obtain ⟨hav, hsz, hP, hD, hK, hO⟩ := hv
  have hx := B.exec
  have hb := B.bytes
  have hr := B.returns
  have hts : ∀ w ∈ BIG, w.before args s = true := fun w h => atoms_spec (ws := bw_X1_countIn) B.pre w (List.mem_cons_of_mem _ h)
  have hown : s.vm.findClass RX1 = some m.cls := findClass_of_methodNamed B.named
  have hlocks := B.notSynchronized
  subst hsz
  have hw := wk.start hP hD
  refine k_start (by rfl) hav (Nat.le_of_ble_eq_true rfl) (fun ls hl => ?_)
  have hl : lv_has ls 2 [(0, .ref (ad 6 j)), (1, .int p1)] := hl
  have hE : sp_X1_countIn S j p1 = sp_X1_countIn S j p1 := rfl
  refine lv_aload_n hx hb dX1_countIn_0 rfl (lv_at hl 0 rfl) ?_
  refine lv_iload_n hx hb dX1_countIn_1 rfl (lv_at hl 1 rfl) ?_
  refine k_ci0 hw (k_rV (As := [.int p1]) (rest := []) ⟨hx, hb, hml, hown, hts⟩ hK hO hw (ct_X1_stepsIn hL S (SF.ci (SF.rf _) hI) j hj p1 _ (wk.hA hw hA)) (cwV 1 hts (gB_V w_ml_X1_35 w_im_X1_stepsIn w_se_X1_stepsIn w_in_X1 w_co_X1_stepsIn) rfl rfl rfl (by decide +kernel) ⟨by decide, by decide⟩) (hL 6 j (cidJ6 hj)) cke_6 rfl rfl hl.1 rfl (Nat.le_of_ble_eq_true rfl) dX1_countIn_2 ⟨Nat.zero_le _, Nat.zero_le _⟩) (fun H locs hw => ?_)
  refine k_ci0 hw (k_rS (As := [.int (sp_X1_stepsIn S j p1)]) (rest := []) ⟨hx, hb, hml, hown, hts⟩ hK hO hw (ct_J6_bitCount_0f7a4 (sp_X1_stepsIn S j p1) _ (wk.hA hw hA)) (va_cwS 1 hts (gB_S w_ml_X1_39 w_st_J6_bitCount_0f7a4 w_in_J6 w_co_J6_bitCount_0f7a4) rfl rfl rfl (by decide +kernel) ⟨by decide, by decide⟩) rfl hl.1 rfl (Nat.le_of_ble_eq_true rfl) dX1_countIn_5 ⟨Nat.zero_le _, Nat.zero_le _⟩) (fun H locs hw => ?_)
  exact k_iret hx hb hr hlocks rfl hw hE rfl dX1_countIn_8

abbrev bw_X1_finishSteps : List Cond := .code yX1_finishSteps cX1_finishSteps 4 (some .int) :: BIG
abbrev rm_X1_finishSteps : Room := { frames := 0, cells := 0, slots := 0, locals := 0 }
def lp_X1_finishSteps_13 (j : Nat) (p1 : Int32) : Nat → Nat → Int32 → (Nat → Nat → Nat → Int32) → Int32 × (Nat → Nat → Nat → Int32)
  | 0, i, v2, Sx => (v2, Sx)
  | k + 1, i, v2, Sx => if Sx 24 j i = 1 then (if p1 < (Sx 25 j i) + (Sx 26 j i) then (lp_X1_finishSteps_13 j p1 k (i + 1) v2 Sx) else (lp_X1_finishSteps_13 j p1 k (i + 1) (v2 + 1) (up3 Sx 24 j i 2))) else (lp_X1_finishSteps_13 j p1 k (i + 1) v2 Sx)
def sp_X1_finishSteps (S : (Nat → Nat → Nat → Int32)) (j : Nat) (p1 : Int32) : Int32 × (Nat → Nat → Nat → Int32) := if S 6 j 2 = 0 then (((lp_X1_finishSteps_13 j p1 12 0 0 S).1, (lp_X1_finishSteps_13 j p1 12 0 0 S).2)) else ((0, S))
set_option maxHeartbeats 4000000 in
set_option maxRecDepth 100000 in
theorem ct_X1_finishSteps {l : Launch} {D : va_G} {cI cG cJ cO : ClassId} {K0 : Nat → Nat} {A : Nat → Prop} {L : List (Nat × Nat)} {ad : Nat → Nat → Nat} {ce : Nat → Nat → va_E} (hL : ∀ f o, cid f o = true → (f, o) ∈ L) (S : (Nat → Nat → Nat → Int32)) (hI : CI S) (j : Nat) (hj : j < 8) (p1 : Int32) (sz : Nat) (hA : ∀ q, sz ≤ q → A q) : Met l yX1_finishSteps bw_X1_finishSteps rm_X1_finishSteps (kP D (ktys cI cG cJ cO) K0 A L ad (cK cI cJ ad ce S) sz [.ref (ad 6 j), .int p1]) (kQi D A (sp_X1_finishSteps S j p1).1 L ad (cK cI cJ ad ce (sp_X1_finishSteps S j p1).2)) 0 0 A := by
  refine Met.ofW (cc := cX1_finishSteps) (maxL := 4) (ret := (some .int)) (by decide) rfl ?_
  intro p e s m args below meth c s₁ B hml hv
  obtain ⟨hav, hsz, hP, hD, hK, hO⟩ := hv
  have hx := B.exec
  have hb := B.bytes
  have hr := B.returns
  have hts : ∀ w ∈ BIG, w.before args s = true := fun w h => atoms_spec (ws := bw_X1_finishSteps) B.pre w (List.mem_cons_of_mem _ h)
  have hown : s.vm.findClass RX1 = some m.cls := findClass_of_methodNamed B.named
  have hlocks := B.notSynchronized
  subst hsz
  have hw := wk.start hP hD
  refine k_start (by rfl) hav (Nat.le_of_ble_eq_true rfl) (fun ls hl => ?_)
  have hl : lv_has ls 4 [(0, .ref (ad 6 j)), (1, .int p1)] := hl
  have hE : sp_X1_finishSteps S j p1 = sp_X1_finishSteps S j p1 := rfl
  refine lv_aload_n hx hb dX1_finishSteps_0 rfl (lv_at hl 0 rfl) ?_
  refine k_get (C := RX1) (T := TX1) (N := 8) (v := .int (S 6 j 2)) hx hb hts inB_X1 hown hK hw (hL 6 j (cidJ6 hj)) cke_6 rfl 7 (by decide) (hts _ w_f_X1_44) (fun _ h9 => h9) rfl dX1_finishSteps_1 ?_
  refine lv_if_eq (tgt := 9) hx hb dX1_finishSteps_4 (by decide) (fun c_1 => ?_) (fun c_1 => ?_)
  · have hE := hE.trans (if_pos c_1)
    refine lv_iconst (v := 0) hx hb dX1_finishSteps_9 (by decide) ?_
    refine lv_istore_n (lv' := [(2, .int 0), (0, .ref (ad 6 j)), (1, .int p1)]) hx hb dX1_finishSteps_10 rfl hl (by decide) rfl (fun ls hl => ?_)
    refine lv_iconst (v := 0) hx hb dX1_finishSteps_11 (by decide) ?_
    refine lv_istore_n (lv' := [(3, .int 0), (2, .int 0), (0, .ref (ad 6 j)), (1, .int p1)]) hx hb dX1_finishSteps_12 rfl hl (by decide) rfl (fun ls hl => ?_)
    have key_13 : ∀ (k i : Nat) (v2 : Int32) (Sx : (Nat → Nat → Nat → Int32)) (H : Heap) (locs : List Loc) (ls : Array Slot), i + k = 12 → SF S Sx → (lp_X1_finishSteps_13 j p1 12 0 0 S) = lp_X1_finishSteps_13 j p1 k i v2 Sx → wk D A L ad (cK cI cJ ad ce Sx) s.heap H locs → lv_has ls 4 [(0, .ref (ad 6 j)), (1, .int p1), (2, .int v2), (3, .int (nI i))] → W p l e (headSpec bw_X1_finishSteps rm_X1_finishSteps).room s m args below meth c H locs 0 0 (MQ below (kQi D A (sp_X1_finishSteps S j p1).1 L ad (cK cI cJ ad ce (sp_X1_finishSteps S j p1).2)) args s 0 0 A) (F0 m 13 ls []) := by
      intro k
      induction k with
      | zero =>
        intro i v2 Sx H locs ls hk hsf hV hw hl
        obtain rfl : v2 = (lp_X1_finishSteps_13 j p1 12 0 0 S).1 := (congrArg (fun z => z.1) hV).symm
        obtain rfl : Sx = (lp_X1_finishSteps_13 j p1 12 0 0 S).2 := (congrArg (fun z => z.2) hV).symm
        refine lv_iload_n hx hb dX1_finishSteps_13 rfl (lv_at hl 3 rfl) ?_
        refine lv_bipush (v := 12) hx hb dX1_finishSteps_14 (by decide) ?_
        refine lv_icmp_ge (tgt := 62) hx hb dX1_finishSteps_16 (by decide) (fun _ => ?_) (fun h => absurd (lp_o rfl hk (by decide)) h)
        refine lv_iload_n hx hb dX1_finishSteps_62 rfl (lv_at hl 2 rfl) ?_
        exact k_iret hx hb hr hlocks rfl hw (congrArg (fun z => z.1) hE) (congrArg (fun z => cK cI cJ ad ce z.2) hE) dX1_finishSteps_63
      | succ k ih =>
        intro i v2 Sx H locs ls hk hsf hV hw hl
        refine lv_iload_n hx hb dX1_finishSteps_13 rfl (lv_at hl 3 rfl) ?_
        refine lv_bipush (v := 12) hx hb dX1_finishSteps_14 (by decide) ?_
        refine lv_icmp_ge (tgt := 62) hx hb dX1_finishSteps_16 (by decide) (fun h => absurd h (lp_i rfl hk (by decide))) (fun _ => ?_)
        refine lv_aload_n hx hb dX1_finishSteps_19 rfl (lv_at hl 0 rfl) ?_
        refine k_get (C := RX1) (T := TX1) (N := 8) (v := .ref (ad 24 j)) hx hb hts inB_X1 hown hK hw (hL 6 j (cidJ6 hj)) cke_6 rfl 0 (by decide) (hts _ w_f_X1_9) (fun _ h9 => h9) rfl dX1_finishSteps_20 ?_
        refine lv_iload_n hx hb dX1_finishSteps_23 rfl (lv_at hl 3 rfl) ?_
        refine k_aldn hx hb hK hw (hL 24 j (cidJ24 hj)) 0 cke_24 rfl (lp_l hk) (by decide) dX1_finishSteps_24 ?_
        refine lv_iconst (v := 1) hx hb dX1_finishSteps_25 (by decide) ?_
        refine lv_icmp_ne (tgt := 56) hx hb dX1_finishSteps_26 (by decide) (fun c_2 => ?_) (fun c_2 => ?_)
        · have hV := hV.trans (if_neg c_2)
          refine lv_iinc (v := (nI (i + 1))) (lv' := [(3, .int (nI (i + 1))), (0, .ref (ad 6 j)), (1, .int p1), (2, .int v2)]) hx hb dX1_finishSteps_56 hl (k := 3) rfl (nI_1 _) (by decide) rfl (fun ls hl => ?_)
          refine lv_goto (tgt := 13) hx hb dX1_finishSteps_59 (by decide) ?_
          exact ih (i + 1) v2 Sx _ _ _ (lp_s hk) hsf hV hw (lv_sub hl [1, 2, 3, 0] rfl)
        · have hV := hV.trans (if_pos c_2)
          refine lv_aload_n hx hb dX1_finishSteps_29 rfl (lv_at hl 0 rfl) ?_
          refine k_get (C := RX1) (T := TX1) (N := 8) (v := .ref (ad 25 j)) hx hb hts inB_X1 hown hK hw (hL 6 j (cidJ6 hj)) cke_6 rfl 1 (by decide) (hts _ w_f_X1_15) (fun _ h9 => h9) rfl dX1_finishSteps_30 ?_
          refine lv_iload_n hx hb dX1_finishSteps_33 rfl (lv_at hl 3 rfl) ?_
          refine k_aldn hx hb hK hw (hL 25 j (cidJ25 hj)) 0 cke_25 rfl (lp_l hk) (by decide) dX1_finishSteps_34 ?_
          refine lv_aload_n hx hb dX1_finishSteps_35 rfl (lv_at hl 0 rfl) ?_
          refine k_get (C := RX1) (T := TX1) (N := 8) (v := .ref (ad 26 j)) hx hb hts inB_X1 hown hK hw (hL 6 j (cidJ6 hj)) cke_6 rfl 2 (by decide) (hts _ w_f_X1_18) (fun _ h9 => h9) rfl dX1_finishSteps_36 ?_
          refine lv_iload_n hx hb dX1_finishSteps_39 rfl (lv_at hl 3 rfl) ?_
          refine k_aldn hx hb hK hw (hL 26 j (cidJ26 hj)) 0 cke_26 rfl (lp_l hk) (by decide) dX1_finishSteps_40 ?_
          refine lv_iadd hx hb dX1_finishSteps_41 ?_
          refine lv_iload_n hx hb dX1_finishSteps_42 rfl (lv_at hl 1 rfl) ?_
          refine lv_icmp_gt (tgt := 56) hx hb dX1_finishSteps_43 (by decide) (fun c_3 => ?_) (fun c_3 => ?_)
          · have hV := hV.trans (if_pos c_3)
            refine lv_iinc (v := (nI (i + 1))) (lv' := [(3, .int (nI (i + 1))), (0, .ref (ad 6 j)), (1, .int p1), (2, .int v2)]) hx hb dX1_finishSteps_56 hl (k := 3) rfl (nI_1 _) (by decide) rfl (fun ls hl => ?_)
            refine lv_goto (tgt := 13) hx hb dX1_finishSteps_59 (by decide) ?_
            exact ih (i + 1) v2 Sx _ _ _ (lp_s hk) hsf hV hw (lv_sub hl [1, 2, 3, 0] rfl)
          · have hV := hV.trans (if_neg c_3)
            refine lv_aload_n hx hb dX1_finishSteps_46 rfl (lv_at hl 0 rfl) ?_
            refine k_get (C := RX1) (T := TX1) (N := 8) (v := .ref (ad 24 j)) hx hb hts inB_X1 hown hK hw (hL 6 j (cidJ6 hj)) cke_6 rfl 0 (by decide) (hts _ w_f_X1_9) (fun _ h9 => h9) rfl dX1_finishSteps_47 ?_
            refine lv_iload_n hx hb dX1_finishSteps_50 rfl (lv_at hl 3 rfl) ?_
            refine lv_iconst (v := 2) hx hb dX1_finishSteps_51 (by decide) ?_
            refine k_astn hx hb hK hw (hL 24 j (cidJ24 hj)) 0 cke_24 rfl (lp_l hk) (by decide) (cK_up (i := i) (x := 2) (by decide) rfl) dX1_finishSteps_52 (fun H locs hw => ?_)
            refine lv_iinc (v := (v2 + 1)) (lv' := [(2, .int (v2 + 1)), (0, .ref (ad 6 j)), (1, .int p1), (3, .int (nI i))]) hx hb dX1_finishSteps_53 hl (k := 2) rfl rfl (by decide) rfl (fun ls hl => ?_)
            refine lv_iinc (v := (nI (i + 1))) (lv' := [(3, .int (nI (i + 1))), (2, .int (v2 + 1)), (0, .ref (ad 6 j)), (1, .int p1)]) hx hb dX1_finishSteps_56 hl (k := 3) rfl (nI_1 _) (by decide) rfl (fun ls hl => ?_)
            refine lv_goto (tgt := 13) hx hb dX1_finishSteps_59 (by decide) ?_
            exact ih (i + 1) (v2 + 1) (up3 Sx 24 j i 2) _ _ _ (lp_s hk) (SF.up (by decide) hsf) hV hw (lv_sub hl [2, 3, 1, 0] rfl)
    exact key_13 12 0 0 S _ _ _ (Nat.zero_add _) (SF.rf _) rfl hw (lv_sub hl [2, 3, 1, 0] rfl)
  · have hE := hE.trans (if_neg c_1)
    refine lv_iconst (v := 0) hx hb dX1_finishSteps_7 (by decide) ?_
    exact k_iret hx hb hr hlocks rfl hw (congrArg (fun z => z.1) hE) (congrArg (fun z => cK cI cJ ad ce z.2) hE) dX1_finishSteps_8

abbrev bw_X1_lastBegun : List Cond := .code yX1_lastBegun cX1_lastBegun 5 (some .int) :: BIG
abbrev rm_X1_lastBegun : Room := { frames := 0, cells := 0, slots := 0, locals := 0 }
def lp_X1_lastBegun_6 (S : (Nat → Nat → Nat → Int32)) (j : Nat) : Nat → Nat → Int32 → Int32 → Int32 × Int32
  | 0, i, v1, v2 => (v1, v2)
  | k + 1, i, v1, v2 => if S 24 j i = 1 then (if S 25 j i < v2 then (lp_X1_lastBegun_6 S j k (i + 1) v1 v2) else (lp_X1_lastBegun_6 S j k (i + 1) (nI i) (S 25 j i))) else (if S 24 j i = 2 then (if S 25 j i < v2 then (lp_X1_lastBegun_6 S j k (i + 1) v1 v2) else (lp_X1_lastBegun_6 S j k (i + 1) (nI i) (S 25 j i))) else (lp_X1_lastBegun_6 S j k (i + 1) v1 v2))
def sp_X1_lastBegun (S : (Nat → Nat → Nat → Int32)) (j : Nat) : Int32 := (lp_X1_lastBegun_6 S j 12 0 (-1) (-1)).1
set_option maxHeartbeats 4000000 in
set_option maxRecDepth 100000 in
theorem ct_X1_lastBegun {l : Launch} {D : va_G} {cI cG cJ cO : ClassId} {K0 : Nat → Nat} {A : Nat → Prop} {L : List (Nat × Nat)} {ad : Nat → Nat → Nat} {ce : Nat → Nat → va_E} (hL : ∀ f o, cid f o = true → (f, o) ∈ L) (S : (Nat → Nat → Nat → Int32)) (hI : CI S) (j : Nat) (hj : j < 8) (sz : Nat) (hA : ∀ q, sz ≤ q → A q) : Met l yX1_lastBegun bw_X1_lastBegun rm_X1_lastBegun (kP D (ktys cI cG cJ cO) K0 A L ad (cK cI cJ ad ce S) sz [.ref (ad 6 j)]) (kQi D A (sp_X1_lastBegun S j) L ad (cK cI cJ ad ce S)) 0 0 A := by
  refine Met.ofW (cc := cX1_lastBegun) (maxL := 5) (ret := (some .int)) (by decide) rfl ?_
  intro p e s m args below meth c s₁ B hml hv
  obtain ⟨hav, hsz, hP, hD, hK, hO⟩ := hv
  have hx := B.exec
  have hb := B.bytes
  have hr := B.returns
  have hts : ∀ w ∈ BIG, w.before args s = true := fun w h => atoms_spec (ws := bw_X1_lastBegun) B.pre w (List.mem_cons_of_mem _ h)
  have hown : s.vm.findClass RX1 = some m.cls := findClass_of_methodNamed B.named
  have hlocks := B.notSynchronized
  subst hsz
  have hw := wk.start hP hD
  refine k_start (by rfl) hav (Nat.le_of_ble_eq_true rfl) (fun ls hl => ?_)
  have hl : lv_has ls 5 [(0, .ref (ad 6 j))] := hl
  have hE : sp_X1_lastBegun S j = sp_X1_lastBegun S j := rfl
  refine lv_iconst (v := (-1)) hx hb dX1_lastBegun_0 (by decide) ?_
  refine lv_istore_n (lv' := [(1, .int (-1)), (0, .ref (ad 6 j))]) hx hb dX1_lastBegun_1 rfl hl (by decide) rfl (fun ls hl => ?_)
  refine lv_iconst (v := (-1)) hx hb dX1_lastBegun_2 (by decide) ?_
  refine lv_istore_n (lv' := [(2, .int (-1)), (1, .int (-1)), (0, .ref (ad 6 j))]) hx hb dX1_lastBegun_3 rfl hl (by decide) rfl (fun ls hl => ?_)
  refine lv_iconst (v := 0) hx hb dX1_lastBegun_4 (by decide) ?_
  refine lv_istore_n (lv' := [(3, .int 0), (2, .int (-1)), (1, .int (-1)), (0, .ref (ad 6 j))]) hx hb dX1_lastBegun_5 rfl hl (by decide) rfl (fun ls hl => ?_)
  have key_6 : ∀ (k i : Nat) (v1 : Int32) (v2 : Int32) (H : Heap) (locs : List Loc) (ls : Array Slot), i + k = 12 → (lp_X1_lastBegun_6 S j 12 0 (-1) (-1)) = lp_X1_lastBegun_6 S j k i v1 v2 → wk D A L ad (cK cI cJ ad ce S) s.heap H locs → lv_has ls 5 [(0, .ref (ad 6 j)), (1, .int v1), (2, .int v2), (3, .int (nI i))] → W p l e (headSpec bw_X1_lastBegun rm_X1_lastBegun).room s m args below meth c H locs 0 0 (MQ below (kQi D A (sp_X1_lastBegun S j) L ad (cK cI cJ ad ce S)) args s 0 0 A) (F0 m 6 ls []) := by
    intro k
    induction k with
    | zero =>
      intro i v1 v2 H locs ls hk hV hw hl
      obtain rfl : v1 = (lp_X1_lastBegun_6 S j 12 0 (-1) (-1)).1 := (congrArg (fun z => z.1) hV).symm
      obtain rfl : v2 = (lp_X1_lastBegun_6 S j 12 0 (-1) (-1)).2 := (congrArg (fun z => z.2) hV).symm
      refine lv_iload_n hx hb dX1_lastBegun_6 rfl (lv_at hl 3 rfl) ?_
      refine lv_bipush (v := 12) hx hb dX1_lastBegun_7 (by decide) ?_
      refine lv_icmp_ge (tgt := 69) hx hb dX1_lastBegun_9 (by decide) (fun _ => ?_) (fun h => absurd (lp_o rfl hk (by decide)) h)
      refine lv_iload_n hx hb dX1_lastBegun_69 rfl (lv_at hl 1 rfl) ?_
      exact k_iret hx hb hr hlocks rfl hw hE rfl dX1_lastBegun_70
    | succ k ih =>
      intro i v1 v2 H locs ls hk hV hw hl
      refine lv_iload_n hx hb dX1_lastBegun_6 rfl (lv_at hl 3 rfl) ?_
      refine lv_bipush (v := 12) hx hb dX1_lastBegun_7 (by decide) ?_
      refine lv_icmp_ge (tgt := 69) hx hb dX1_lastBegun_9 (by decide) (fun h => absurd h (lp_i rfl hk (by decide))) (fun _ => ?_)
      refine lv_aload_n hx hb dX1_lastBegun_12 rfl (lv_at hl 0 rfl) ?_
      refine k_get (C := RX1) (T := TX1) (N := 8) (v := .ref (ad 24 j)) hx hb hts inB_X1 hown hK hw (hL 6 j (cidJ6 hj)) cke_6 rfl 0 (by decide) (hts _ w_f_X1_9) (fun _ h9 => h9) rfl dX1_lastBegun_13 ?_
      refine lv_iload_n hx hb dX1_lastBegun_16 rfl (lv_at hl 3 rfl) ?_
      refine k_aldn hx hb hK hw (hL 24 j (cidJ24 hj)) 0 cke_24 rfl (lp_l hk) (by decide) dX1_lastBegun_17 ?_
      refine lv_iconst (v := 1) hx hb dX1_lastBegun_18 (by decide) ?_
      refine lv_icmp_eq (tgt := 32) hx hb dX1_lastBegun_19 (by decide) (fun c_1 => ?_) (fun c_1 => ?_)
      · have hV := hV.trans (if_pos c_1)
        refine lv_iconst (v := 1) hx hb dX1_lastBegun_32 (by decide) ?_
        refine lv_goto (tgt := 37) hx hb dX1_lastBegun_33 (by decide) ?_
        refine lv_istore (lv' := [(4, .int 1), (0, .ref (ad 6 j)), (1, .int v1), (2, .int v2), (3, .int (nI i))]) hx hb dX1_lastBegun_37 hl (by decide) rfl (fun ls hl => ?_)
        refine lv_iload hx hb dX1_lastBegun_39 (lv_at hl 0 rfl) ?_
        refine lv_if_eq (tgt := 63) hx hb dX1_lastBegun_41 (by decide) (fun h => absurd h (by decide)) (fun _ => ?_)
        refine lv_aload_n hx hb dX1_lastBegun_44 rfl (lv_at hl 1 rfl) ?_
        refine k_get (C := RX1) (T := TX1) (N := 8) (v := .ref (ad 25 j)) hx hb hts inB_X1 hown hK hw (hL 6 j (cidJ6 hj)) cke_6 rfl 1 (by decide) (hts _ w_f_X1_15) (fun _ h9 => h9) rfl dX1_lastBegun_45 ?_
        refine lv_iload_n hx hb dX1_lastBegun_48 rfl (lv_at hl 4 rfl) ?_
        refine k_aldn hx hb hK hw (hL 25 j (cidJ25 hj)) 0 cke_25 rfl (lp_l hk) (by decide) dX1_lastBegun_49 ?_
        refine lv_iload_n hx hb dX1_lastBegun_50 rfl (lv_at hl 3 rfl) ?_
        refine lv_icmp_lt (tgt := 63) hx hb dX1_lastBegun_51 (by decide) (fun c_2 => ?_) (fun c_2 => ?_)
        · have hV := hV.trans (if_pos c_2)
          refine lv_iinc (v := (nI (i + 1))) (lv' := [(3, .int (nI (i + 1))), (4, .int 1), (0, .ref (ad 6 j)), (1, .int v1), (2, .int v2)]) hx hb dX1_lastBegun_63 hl (k := 4) rfl (nI_1 _) (by decide) rfl (fun ls hl => ?_)
          refine lv_goto (tgt := 6) hx hb dX1_lastBegun_66 (by decide) ?_
          exact ih (i + 1) v1 v2 _ _ _ (lp_s hk) hV hw (lv_sub hl [2, 3, 4, 0] rfl)
        · have hV := hV.trans (if_neg c_2)
          refine lv_iload_n hx hb dX1_lastBegun_54 rfl (lv_at hl 4 rfl) ?_
          refine lv_istore_n (lv' := [(1, .int (nI i)), (4, .int 1), (0, .ref (ad 6 j)), (2, .int v2), (3, .int (nI i))]) hx hb dX1_lastBegun_55 rfl hl (by decide) rfl (fun ls hl => ?_)
          refine lv_aload_n hx hb dX1_lastBegun_56 rfl (lv_at hl 2 rfl) ?_
          refine k_get (C := RX1) (T := TX1) (N := 8) (v := .ref (ad 25 j)) hx hb hts inB_X1 hown hK hw (hL 6 j (cidJ6 hj)) cke_6 rfl 1 (by decide) (hts _ w_f_X1_15) (fun _ h9 => h9) rfl dX1_lastBegun_57 ?_
          refine lv_iload_n hx hb dX1_lastBegun_60 rfl (lv_at hl 4 rfl) ?_
          refine k_aldn hx hb hK hw (hL 25 j (cidJ25 hj)) 0 cke_25 rfl (lp_l hk) (by decide) dX1_lastBegun_61 ?_
          refine lv_istore_n (lv' := [(2, .int (S 25 j i)), (1, .int (nI i)), (4, .int 1), (0, .ref (ad 6 j)), (3, .int (nI i))]) hx hb dX1_lastBegun_62 rfl hl (by decide) rfl (fun ls hl => ?_)
          refine lv_iinc (v := (nI (i + 1))) (lv' := [(3, .int (nI (i + 1))), (2, .int (S 25 j i)), (1, .int (nI i)), (4, .int 1), (0, .ref (ad 6 j))]) hx hb dX1_lastBegun_63 hl (k := 4) rfl (nI_1 _) (by decide) rfl (fun ls hl => ?_)
          refine lv_goto (tgt := 6) hx hb dX1_lastBegun_66 (by decide) ?_
          exact ih (i + 1) (nI i) (S 25 j i) _ _ _ (lp_s hk) hV hw (lv_sub hl [4, 2, 1, 0] rfl)
      · have hV := hV.trans (if_neg c_1)
        refine lv_aload_n hx hb dX1_lastBegun_22 rfl (lv_at hl 0 rfl) ?_
        refine k_get (C := RX1) (T := TX1) (N := 8) (v := .ref (ad 24 j)) hx hb hts inB_X1 hown hK hw (hL 6 j (cidJ6 hj)) cke_6 rfl 0 (by decide) (hts _ w_f_X1_9) (fun _ h9 => h9) rfl dX1_lastBegun_23 ?_
        refine lv_iload_n hx hb dX1_lastBegun_26 rfl (lv_at hl 3 rfl) ?_
        refine k_aldn hx hb hK hw (hL 24 j (cidJ24 hj)) 0 cke_24 rfl (lp_l hk) (by decide) dX1_lastBegun_27 ?_
        refine lv_iconst (v := 2) hx hb dX1_lastBegun_28 (by decide) ?_
        refine lv_icmp_ne (tgt := 36) hx hb dX1_lastBegun_29 (by decide) (fun c_3 => ?_) (fun c_3 => ?_)
        · have hV := hV.trans (if_neg c_3)
          refine lv_iconst (v := 0) hx hb dX1_lastBegun_36 (by decide) ?_
          refine lv_istore (lv' := [(4, .int 0), (0, .ref (ad 6 j)), (1, .int v1), (2, .int v2), (3, .int (nI i))]) hx hb dX1_lastBegun_37 hl (by decide) rfl (fun ls hl => ?_)
          refine lv_iload hx hb dX1_lastBegun_39 (lv_at hl 0 rfl) ?_
          refine lv_if_eq (tgt := 63) hx hb dX1_lastBegun_41 (by decide) (fun _ => ?_) (fun h => absurd (by decide) h)
          refine lv_iinc (v := (nI (i + 1))) (lv' := [(3, .int (nI (i + 1))), (4, .int 0), (0, .ref (ad 6 j)), (1, .int v1), (2, .int v2)]) hx hb dX1_lastBegun_63 hl (k := 4) rfl (nI_1 _) (by decide) rfl (fun ls hl => ?_)
          refine lv_goto (tgt := 6) hx hb dX1_lastBegun_66 (by decide) ?_
          exact ih (i + 1) v1 v2 _ _ _ (lp_s hk) hV hw (lv_sub hl [2, 3, 4, 0] rfl)
        · have hV := hV.trans (if_pos c_3)
          refine lv_iconst (v := 1) hx hb dX1_lastBegun_32 (by decide) ?_
          refine lv_goto (tgt := 37) hx hb dX1_lastBegun_33 (by decide) ?_
          refine lv_istore (lv' := [(4, .int 1), (0, .ref (ad 6 j)), (1, .int v1), (2, .int v2), (3, .int (nI i))]) hx hb dX1_lastBegun_37 hl (by decide) rfl (fun ls hl => ?_)
          refine lv_iload hx hb dX1_lastBegun_39 (lv_at hl 0 rfl) ?_
          refine lv_if_eq (tgt := 63) hx hb dX1_lastBegun_41 (by decide) (fun h => absurd h (by decide)) (fun _ => ?_)
          refine lv_aload_n hx hb dX1_lastBegun_44 rfl (lv_at hl 1 rfl) ?_
          refine k_get (C := RX1) (T := TX1) (N := 8) (v := .ref (ad 25 j)) hx hb hts inB_X1 hown hK hw (hL 6 j (cidJ6 hj)) cke_6 rfl 1 (by decide) (hts _ w_f_X1_15) (fun _ h9 => h9) rfl dX1_lastBegun_45 ?_
          refine lv_iload_n hx hb dX1_lastBegun_48 rfl (lv_at hl 4 rfl) ?_
          refine k_aldn hx hb hK hw (hL 25 j (cidJ25 hj)) 0 cke_25 rfl (lp_l hk) (by decide) dX1_lastBegun_49 ?_
          refine lv_iload_n hx hb dX1_lastBegun_50 rfl (lv_at hl 3 rfl) ?_
          refine lv_icmp_lt (tgt := 63) hx hb dX1_lastBegun_51 (by decide) (fun c_4 => ?_) (fun c_4 => ?_)
          · have hV := hV.trans (if_pos c_4)
            refine lv_iinc (v := (nI (i + 1))) (lv' := [(3, .int (nI (i + 1))), (4, .int 1), (0, .ref (ad 6 j)), (1, .int v1), (2, .int v2)]) hx hb dX1_lastBegun_63 hl (k := 4) rfl (nI_1 _) (by decide) rfl (fun ls hl => ?_)
            refine lv_goto (tgt := 6) hx hb dX1_lastBegun_66 (by decide) ?_
            exact ih (i + 1) v1 v2 _ _ _ (lp_s hk) hV hw (lv_sub hl [2, 3, 4, 0] rfl)
          · have hV := hV.trans (if_neg c_4)
            refine lv_iload_n hx hb dX1_lastBegun_54 rfl (lv_at hl 4 rfl) ?_
            refine lv_istore_n (lv' := [(1, .int (nI i)), (4, .int 1), (0, .ref (ad 6 j)), (2, .int v2), (3, .int (nI i))]) hx hb dX1_lastBegun_55 rfl hl (by decide) rfl (fun ls hl => ?_)
            refine lv_aload_n hx hb dX1_lastBegun_56 rfl (lv_at hl 2 rfl) ?_
            refine k_get (C := RX1) (T := TX1) (N := 8) (v := .ref (ad 25 j)) hx hb hts inB_X1 hown hK hw (hL 6 j (cidJ6 hj)) cke_6 rfl 1 (by decide) (hts _ w_f_X1_15) (fun _ h9 => h9) rfl dX1_lastBegun_57 ?_
            refine lv_iload_n hx hb dX1_lastBegun_60 rfl (lv_at hl 4 rfl) ?_
            refine k_aldn hx hb hK hw (hL 25 j (cidJ25 hj)) 0 cke_25 rfl (lp_l hk) (by decide) dX1_lastBegun_61 ?_
            refine lv_istore_n (lv' := [(2, .int (S 25 j i)), (1, .int (nI i)), (4, .int 1), (0, .ref (ad 6 j)), (3, .int (nI i))]) hx hb dX1_lastBegun_62 rfl hl (by decide) rfl (fun ls hl => ?_)
            refine lv_iinc (v := (nI (i + 1))) (lv' := [(3, .int (nI (i + 1))), (2, .int (S 25 j i)), (1, .int (nI i)), (4, .int 1), (0, .ref (ad 6 j))]) hx hb dX1_lastBegun_63 hl (k := 4) rfl (nI_1 _) (by decide) rfl (fun ls hl => ?_)
            refine lv_goto (tgt := 6) hx hb dX1_lastBegun_66 (by decide) ?_
            exact ih (i + 1) (nI i) (S 25 j i) _ _ _ (lp_s hk) hV hw (lv_sub hl [4, 2, 1, 0] rfl)
  exact key_6 12 0 (-1) (-1) _ _ _ (Nat.zero_add _) rfl hw (lv_sub hl [3, 2, 1, 0] rfl)
end
section
theorem zz_dummy : (1:Nat) = 1 := rfl
end
