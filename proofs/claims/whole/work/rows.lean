section
-- ===== PART A: goes FIRST, ahead of the names: the tables' words, and 'selects' of the private methods out of them =====
/-- a private method of a class that the tables say can be made, by its rows of tables_1 -/
def lw_okq (q : MethodName × Nat) : Prop := (q.1.cls ≠ "java/lang/invoke/MethodHandle" ∧ q.1.cls ≠ "java/lang/invoke/VarHandle") ∧ Cond.instantiable q.1.cls q.2 ∈ tables_1 ∧ Cond.privateMethod q.1 ∈ tables_1 ∧ Cond.instanceMethod q.1 ∈ tables_1
theorem lw_p0 : lw_okq (⟨"HeadDots$Reader", "takeBetween", "()Z"⟩, 10) := ⟨⟨by decide +kernel, by decide +kernel⟩, List.mem_of_getElem? (i := 161) (by decide +kernel), List.mem_of_getElem? (i := 256) (by decide +kernel), List.mem_of_getElem? (i := 257) (by decide +kernel)⟩
theorem lw_p1 : lw_okq (⟨"HeadDots$Reader", "takeFirst", "(I)Z"⟩, 10) := ⟨⟨by decide +kernel, by decide +kernel⟩, List.mem_of_getElem? (i := 161) (by decide +kernel), List.mem_of_getElem? (i := 264) (by decide +kernel), List.mem_of_getElem? (i := 265) (by decide +kernel)⟩
theorem lw_p2 : lw_okq (⟨"HeadDots$Reader", "beginKind", "(ILjava/lang/String;I)Z"⟩, 10) := ⟨⟨by decide +kernel, by decide +kernel⟩, List.mem_of_getElem? (i := 161) (by decide +kernel), List.mem_of_getElem? (i := 269) (by decide +kernel), List.mem_of_getElem? (i := 270) (by decide +kernel)⟩
theorem lw_p3 : lw_okq (⟨"HeadDots$Reader", "beginWord", "(Ljava/lang/String;I)Z"⟩, 10) := ⟨⟨by decide +kernel, by decide +kernel⟩, List.mem_of_getElem? (i := 161) (by decide +kernel), List.mem_of_getElem? (i := 273) (by decide +kernel), List.mem_of_getElem? (i := 274) (by decide +kernel)⟩
theorem lw_p4 : lw_okq (⟨"HeadDots$Reader", "takeOfWord", "(I)Z"⟩, 10) := ⟨⟨by decide +kernel, by decide +kernel⟩, List.mem_of_getElem? (i := 161) (by decide +kernel), List.mem_of_getElem? (i := 280) (by decide +kernel), List.mem_of_getElem? (i := 281) (by decide +kernel)⟩
theorem lw_p5 : lw_okq (⟨"HeadDots$Reader", "takeOfDots", "(I)Z"⟩, 10) := ⟨⟨by decide +kernel, by decide +kernel⟩, List.mem_of_getElem? (i := 161) (by decide +kernel), List.mem_of_getElem? (i := 332) (by decide +kernel), List.mem_of_getElem? (i := 333) (by decide +kernel)⟩
theorem lw_p6 : lw_okq (⟨"HeadDots$Reader", "takeStar", "(I)Z"⟩, 10) := ⟨⟨by decide +kernel, by decide +kernel⟩, List.mem_of_getElem? (i := 161) (by decide +kernel), List.mem_of_getElem? (i := 336) (by decide +kernel), List.mem_of_getElem? (i := 337) (by decide +kernel)⟩
theorem lw_p7 : lw_okq (⟨"HeadDots$Reader", "takeFirstOfPaper", "(I)Z"⟩, 10) := ⟨⟨by decide +kernel, by decide +kernel⟩, List.mem_of_getElem? (i := 161) (by decide +kernel), List.mem_of_getElem? (i := 346) (by decide +kernel), List.mem_of_getElem? (i := 347) (by decide +kernel)⟩
theorem lw_p8 : lw_okq (⟨"HeadDots$Reader", "beginPaper", "(ILjava/lang/String;)Z"⟩, 10) := ⟨⟨by decide +kernel, by decide +kernel⟩, List.mem_of_getElem? (i := 161) (by decide +kernel), List.mem_of_getElem? (i := 351) (by decide +kernel), List.mem_of_getElem? (i := 352) (by decide +kernel)⟩
theorem lw_p9 : lw_okq (⟨"HeadDots$Reader", "takeDigit", "(I)Z"⟩, 10) := ⟨⟨by decide +kernel, by decide +kernel⟩, List.mem_of_getElem? (i := 161) (by decide +kernel), List.mem_of_getElem? (i := 357) (by decide +kernel), List.mem_of_getElem? (i := 358) (by decide +kernel)⟩
theorem lw_p10 : lw_okq (⟨"HeadDots", "counted", "(I)I"⟩, 8) := ⟨⟨by decide +kernel, by decide +kernel⟩, List.mem_of_getElem? (i := 24) (by decide +kernel), List.mem_of_getElem? (i := 401) (by decide +kernel), List.mem_of_getElem? (i := 402) (by decide +kernel)⟩
theorem lw_p11 : lw_okq (⟨"HeadDots", "mixedDots", "(J)J"⟩, 8) := ⟨⟨by decide +kernel, by decide +kernel⟩, List.mem_of_getElem? (i := 24) (by decide +kernel), List.mem_of_getElem? (i := 425) (by decide +kernel), List.mem_of_getElem? (i := 426) (by decide +kernel)⟩
theorem lw_p12 : lw_okq (⟨"HeadDots$State", "pulseAlone", "(II)I"⟩, 8) := ⟨⟨by decide +kernel, by decide +kernel⟩, List.mem_of_getElem? (i := 32) (by decide +kernel), List.mem_of_getElem? (i := 436) (by decide +kernel), List.mem_of_getElem? (i := 437) (by decide +kernel)⟩
theorem lw_p13 : lw_okq (⟨"HeadDots$State", "pulseIn", "(III)I"⟩, 8) := ⟨⟨by decide +kernel, by decide +kernel⟩, List.mem_of_getElem? (i := 32) (by decide +kernel), List.mem_of_getElem? (i := 440) (by decide +kernel), List.mem_of_getElem? (i := 441) (by decide +kernel)⟩
theorem lw_p14 : lw_okq (⟨"HeadDots$State", "waitFor", "(II)I"⟩, 8) := ⟨⟨by decide +kernel, by decide +kernel⟩, List.mem_of_getElem? (i := 32) (by decide +kernel), List.mem_of_getElem? (i := 446) (by decide +kernel), List.mem_of_getElem? (i := 447) (by decide +kernel)⟩
theorem lw_p15 : lw_okq (⟨"HeadDots$State", "timeDownTo", "(II)I"⟩, 8) := ⟨⟨by decide +kernel, by decide +kernel⟩, List.mem_of_getElem? (i := 32) (by decide +kernel), List.mem_of_getElem? (i := 450) (by decide +kernel), List.mem_of_getElem? (i := 451) (by decide +kernel)⟩
def lw_privs_1 : List (MethodName × Nat) := [(⟨"HeadDots$Reader", "takeBetween", "()Z"⟩, 10), (⟨"HeadDots$Reader", "takeFirst", "(I)Z"⟩, 10), (⟨"HeadDots$Reader", "beginKind", "(ILjava/lang/String;I)Z"⟩, 10), (⟨"HeadDots$Reader", "beginWord", "(Ljava/lang/String;I)Z"⟩, 10), (⟨"HeadDots$Reader", "takeOfWord", "(I)Z"⟩, 10), (⟨"HeadDots$Reader", "takeOfDots", "(I)Z"⟩, 10), (⟨"HeadDots$Reader", "takeStar", "(I)Z"⟩, 10), (⟨"HeadDots$Reader", "takeFirstOfPaper", "(I)Z"⟩, 10), (⟨"HeadDots$Reader", "beginPaper", "(ILjava/lang/String;)Z"⟩, 10), (⟨"HeadDots$Reader", "takeDigit", "(I)Z"⟩, 10), (⟨"HeadDots", "counted", "(I)I"⟩, 8), (⟨"HeadDots", "mixedDots", "(J)J"⟩, 8), (⟨"HeadDots$State", "pulseAlone", "(II)I"⟩, 8), (⟨"HeadDots$State", "pulseIn", "(III)I"⟩, 8), (⟨"HeadDots$State", "waitFor", "(II)I"⟩, 8), (⟨"HeadDots$State", "timeDownTo", "(II)I"⟩, 8)]
theorem lw_r1 : ∀ q ∈ lw_privs_1, lw_okq q := List.forall_mem_cons.mpr ⟨lw_p0, List.forall_mem_cons.mpr ⟨lw_p1, List.forall_mem_cons.mpr ⟨lw_p2, List.forall_mem_cons.mpr ⟨lw_p3, List.forall_mem_cons.mpr ⟨lw_p4, List.forall_mem_cons.mpr ⟨lw_p5, List.forall_mem_cons.mpr ⟨lw_p6, List.forall_mem_cons.mpr ⟨lw_p7, List.forall_mem_cons.mpr ⟨lw_p8, List.forall_mem_cons.mpr ⟨lw_p9, List.forall_mem_cons.mpr ⟨lw_p10, List.forall_mem_cons.mpr ⟨lw_p11, List.forall_mem_cons.mpr ⟨lw_p12, List.forall_mem_cons.mpr ⟨lw_p13, List.forall_mem_cons.mpr ⟨lw_p14, List.forall_mem_cons.mpr ⟨lw_p15, fun _ h => absurd h List.not_mem_nil⟩⟩⟩⟩⟩⟩⟩⟩⟩⟩⟩⟩⟩⟩⟩⟩
theorem lw_p16 : lw_okq (⟨"HeadDots", "mixedStrip", "(J)J"⟩, 8) := ⟨⟨by decide +kernel, by decide +kernel⟩, List.mem_of_getElem? (i := 24) (by decide +kernel), List.mem_of_getElem? (i := 458) (by decide +kernel), List.mem_of_getElem? (i := 459) (by decide +kernel)⟩
theorem lw_p17 : lw_okq (⟨"HeadDots", "mixedTrials", "(J)J"⟩, 8) := ⟨⟨by decide +kernel, by decide +kernel⟩, List.mem_of_getElem? (i := 24) (by decide +kernel), List.mem_of_getElem? (i := 478) (by decide +kernel), List.mem_of_getElem? (i := 479) (by decide +kernel)⟩
theorem lw_p18 : lw_okq (⟨"HeadDots", "tryLine", "(II)V"⟩, 8) := ⟨⟨by decide +kernel, by decide +kernel⟩, List.mem_of_getElem? (i := 24) (by decide +kernel), List.mem_of_getElem? (i := 484) (by decide +kernel), List.mem_of_getElem? (i := 485) (by decide +kernel)⟩
theorem lw_p19 : lw_okq (⟨"HeadDots$State", "dotsAtOnce", "()I"⟩, 8) := ⟨⟨by decide +kernel, by decide +kernel⟩, List.mem_of_getElem? (i := 32) (by decide +kernel), List.mem_of_getElem? (i := 499) (by decide +kernel), List.mem_of_getElem? (i := 500) (by decide +kernel)⟩
theorem lw_p20 : lw_okq (⟨"HeadDots$State", "preparePulses", "(I)V"⟩, 8) := ⟨⟨by decide +kernel, by decide +kernel⟩, List.mem_of_getElem? (i := 32) (by decide +kernel), List.mem_of_getElem? (i := 509) (by decide +kernel), List.mem_of_getElem? (i := 510) (by decide +kernel)⟩
theorem lw_p21 : lw_okq (⟨"HeadDots$State", "dotsOfPart", "(IIII)I"⟩, 8) := ⟨⟨by decide +kernel, by decide +kernel⟩, List.mem_of_getElem? (i := 32) (by decide +kernel), List.mem_of_getElem? (i := 513) (by decide +kernel), List.mem_of_getElem? (i := 514) (by decide +kernel)⟩
theorem lw_p22 : lw_okq (⟨"HeadDots$State", "waitOfPart", "(I)I"⟩, 8) := ⟨⟨by decide +kernel, by decide +kernel⟩, List.mem_of_getElem? (i := 32) (by decide +kernel), List.mem_of_getElem? (i := 517) (by decide +kernel), List.mem_of_getElem? (i := 518) (by decide +kernel)⟩
theorem lw_p23 : lw_okq (⟨"HeadDots$State", "cooledFor", "(II)I"⟩, 8) := ⟨⟨by decide +kernel, by decide +kernel⟩, List.mem_of_getElem? (i := 32) (by decide +kernel), List.mem_of_getElem? (i := 525) (by decide +kernel), List.mem_of_getElem? (i := 526) (by decide +kernel)⟩
theorem lw_p24 : lw_okq (⟨"HeadDots$State", "heatPart", "(I)I"⟩, 8) := ⟨⟨by decide +kernel, by decide +kernel⟩, List.mem_of_getElem? (i := 32) (by decide +kernel), List.mem_of_getElem? (i := 529) (by decide +kernel), List.mem_of_getElem? (i := 530) (by decide +kernel)⟩
theorem lw_p25 : lw_okq (⟨"HeadDots$State", "isDark", "(I)Z"⟩, 8) := ⟨⟨by decide +kernel, by decide +kernel⟩, List.mem_of_getElem? (i := 32) (by decide +kernel), List.mem_of_getElem? (i := 533) (by decide +kernel), List.mem_of_getElem? (i := 534) (by decide +kernel)⟩
theorem lw_p26 : lw_okq (⟨"HeadDots$State", "longestPulse", "(I)I"⟩, 8) := ⟨⟨by decide +kernel, by decide +kernel⟩, List.mem_of_getElem? (i := 32) (by decide +kernel), List.mem_of_getElem? (i := 539) (by decide +kernel), List.mem_of_getElem? (i := 540) (by decide +kernel)⟩
theorem lw_p27 : lw_okq (⟨"HeadDots", "tried", "(I)I"⟩, 8) := ⟨⟨by decide +kernel, by decide +kernel⟩, List.mem_of_getElem? (i := 24) (by decide +kernel), List.mem_of_getElem? (i := 561) (by decide +kernel), List.mem_of_getElem? (i := 562) (by decide +kernel)⟩
theorem lw_p28 : lw_okq (⟨"HeadDots", "fasterWay", "(I)I"⟩, 8) := ⟨⟨by decide +kernel, by decide +kernel⟩, List.mem_of_getElem? (i := 24) (by decide +kernel), List.mem_of_getElem? (i := 566) (by decide +kernel), List.mem_of_getElem? (i := 567) (by decide +kernel)⟩
theorem lw_p29 : lw_okq (⟨"HeadDots", "mixedBuffer", "(J)J"⟩, 8) := ⟨⟨by decide +kernel, by decide +kernel⟩, List.mem_of_getElem? (i := 24) (by decide +kernel), List.mem_of_getElem? (i := 593) (by decide +kernel), List.mem_of_getElem? (i := 594) (by decide +kernel)⟩
theorem lw_p30 : lw_okq (⟨"java/lang/Throwable", "fillInStackTrace", "(I)Ljava/lang/Throwable;"⟩, 6) := ⟨⟨by decide +kernel, by decide +kernel⟩, List.mem_of_getElem? (i := 648) (by decide +kernel), List.mem_of_getElem? (i := 646) (by decide +kernel), List.mem_of_getElem? (i := 647) (by decide +kernel)⟩
theorem lw_p31 : lw_okq (⟨"HeadDots", "saveState", "()V"⟩, 8) := ⟨⟨by decide +kernel, by decide +kernel⟩, List.mem_of_getElem? (i := 24) (by decide +kernel), List.mem_of_getElem? (i := 677) (by decide +kernel), List.mem_of_getElem? (i := 678) (by decide +kernel)⟩
def lw_privs_2 : List (MethodName × Nat) := [(⟨"HeadDots", "mixedStrip", "(J)J"⟩, 8), (⟨"HeadDots", "mixedTrials", "(J)J"⟩, 8), (⟨"HeadDots", "tryLine", "(II)V"⟩, 8), (⟨"HeadDots$State", "dotsAtOnce", "()I"⟩, 8), (⟨"HeadDots$State", "preparePulses", "(I)V"⟩, 8), (⟨"HeadDots$State", "dotsOfPart", "(IIII)I"⟩, 8), (⟨"HeadDots$State", "waitOfPart", "(I)I"⟩, 8), (⟨"HeadDots$State", "cooledFor", "(II)I"⟩, 8), (⟨"HeadDots$State", "heatPart", "(I)I"⟩, 8), (⟨"HeadDots$State", "isDark", "(I)Z"⟩, 8), (⟨"HeadDots$State", "longestPulse", "(I)I"⟩, 8), (⟨"HeadDots", "tried", "(I)I"⟩, 8), (⟨"HeadDots", "fasterWay", "(I)I"⟩, 8), (⟨"HeadDots", "mixedBuffer", "(J)J"⟩, 8), (⟨"java/lang/Throwable", "fillInStackTrace", "(I)Ljava/lang/Throwable;"⟩, 6), (⟨"HeadDots", "saveState", "()V"⟩, 8)]
theorem lw_r2 : ∀ q ∈ lw_privs_2, lw_okq q := List.forall_mem_cons.mpr ⟨lw_p16, List.forall_mem_cons.mpr ⟨lw_p17, List.forall_mem_cons.mpr ⟨lw_p18, List.forall_mem_cons.mpr ⟨lw_p19, List.forall_mem_cons.mpr ⟨lw_p20, List.forall_mem_cons.mpr ⟨lw_p21, List.forall_mem_cons.mpr ⟨lw_p22, List.forall_mem_cons.mpr ⟨lw_p23, List.forall_mem_cons.mpr ⟨lw_p24, List.forall_mem_cons.mpr ⟨lw_p25, List.forall_mem_cons.mpr ⟨lw_p26, List.forall_mem_cons.mpr ⟨lw_p27, List.forall_mem_cons.mpr ⟨lw_p28, List.forall_mem_cons.mpr ⟨lw_p29, List.forall_mem_cons.mpr ⟨lw_p30, List.forall_mem_cons.mpr ⟨lw_p31, fun _ h => absurd h List.not_mem_nil⟩⟩⟩⟩⟩⟩⟩⟩⟩⟩⟩⟩⟩⟩⟩⟩
theorem lw_p32 : lw_okq (⟨"HeadDots", "dropOldest", "()V"⟩, 8) := ⟨⟨by decide +kernel, by decide +kernel⟩, List.mem_of_getElem? (i := 24) (by decide +kernel), List.mem_of_getElem? (i := 681) (by decide +kernel), List.mem_of_getElem? (i := 682) (by decide +kernel)⟩
theorem lw_p33 : lw_okq (⟨"HeadDots", "savedAt", "(I)LHeadDots$State;"⟩, 8) := ⟨⟨by decide +kernel, by decide +kernel⟩, List.mem_of_getElem? (i := 24) (by decide +kernel), List.mem_of_getElem? (i := 685) (by decide +kernel), List.mem_of_getElem? (i := 686) (by decide +kernel)⟩
theorem lw_p34 : lw_okq (⟨"HeadDots", "printPartOfText", "()V"⟩, 8) := ⟨⟨by decide +kernel, by decide +kernel⟩, List.mem_of_getElem? (i := 24) (by decide +kernel), List.mem_of_getElem? (i := 795) (by decide +kernel), List.mem_of_getElem? (i := 796) (by decide +kernel)⟩
theorem lw_p35 : lw_okq (⟨"HeadDotsModel", "fails", "(I)I"⟩, 18) := ⟨⟨by decide +kernel, by decide +kernel⟩, List.mem_of_getElem? (i := 882) (by decide +kernel), List.mem_of_getElem? (i := 951) (by decide +kernel), List.mem_of_getElem? (i := 952) (by decide +kernel)⟩
theorem lw_p36 : lw_okq (⟨"HeadDotsModel", "save", "()V"⟩, 18) := ⟨⟨by decide +kernel, by decide +kernel⟩, List.mem_of_getElem? (i := 882) (by decide +kernel), List.mem_of_getElem? (i := 963) (by decide +kernel), List.mem_of_getElem? (i := 964) (by decide +kernel)⟩
theorem lw_p37 : lw_okq (⟨"HeadDotsModel", "printLine", "(I)I"⟩, 18) := ⟨⟨by decide +kernel, by decide +kernel⟩, List.mem_of_getElem? (i := 882) (by decide +kernel), List.mem_of_getElem? (i := 978) (by decide +kernel), List.mem_of_getElem? (i := 979) (by decide +kernel)⟩
theorem lw_p38 : lw_okq (⟨"HeadDotsModel", "partsOf", "(I)I"⟩, 18) := ⟨⟨by decide +kernel, by decide +kernel⟩, List.mem_of_getElem? (i := 882) (by decide +kernel), List.mem_of_getElem? (i := 982) (by decide +kernel), List.mem_of_getElem? (i := 983) (by decide +kernel)⟩
theorem lw_p39 : lw_okq (⟨"HeadDotsModel", "atOnce", "()I"⟩, 18) := ⟨⟨by decide +kernel, by decide +kernel⟩, List.mem_of_getElem? (i := 882) (by decide +kernel), List.mem_of_getElem? (i := 989) (by decide +kernel), List.mem_of_getElem? (i := 990) (by decide +kernel)⟩
theorem lw_p40 : lw_okq (⟨"HeadDotsModel", "dotsOfPart", "(II)I"⟩, 18) := ⟨⟨by decide +kernel, by decide +kernel⟩, List.mem_of_getElem? (i := 882) (by decide +kernel), List.mem_of_getElem? (i := 993) (by decide +kernel), List.mem_of_getElem? (i := 994) (by decide +kernel)⟩
theorem lw_p41 : lw_okq (⟨"HeadDotsModel", "isCool", "(II)Z"⟩, 18) := ⟨⟨by decide +kernel, by decide +kernel⟩, List.mem_of_getElem? (i := 882) (by decide +kernel), List.mem_of_getElem? (i := 1000) (by decide +kernel), List.mem_of_getElem? (i := 1001) (by decide +kernel)⟩
theorem lw_p42 : lw_okq (⟨"HeadDotsModel", "pulse", "(II)I"⟩, 18) := ⟨⟨by decide +kernel, by decide +kernel⟩, List.mem_of_getElem? (i := 882) (by decide +kernel), List.mem_of_getElem? (i := 1004) (by decide +kernel), List.mem_of_getElem? (i := 1005) (by decide +kernel)⟩
theorem lw_p43 : lw_okq (⟨"HeadDotsModel", "pulseBy", "(III)I"⟩, 18) := ⟨⟨by decide +kernel, by decide +kernel⟩, List.mem_of_getElem? (i := 882) (by decide +kernel), List.mem_of_getElem? (i := 1008) (by decide +kernel), List.mem_of_getElem? (i := 1009) (by decide +kernel)⟩
theorem lw_p44 : lw_okq (⟨"HeadDotsModel", "pass", "(I)V"⟩, 18) := ⟨⟨by decide +kernel, by decide +kernel⟩, List.mem_of_getElem? (i := 882) (by decide +kernel), List.mem_of_getElem? (i := 1012) (by decide +kernel), List.mem_of_getElem? (i := 1013) (by decide +kernel)⟩
theorem lw_p45 : lw_okq (⟨"HeadDotsModel", "cooled", "(I)I"⟩, 18) := ⟨⟨by decide +kernel, by decide +kernel⟩, List.mem_of_getElem? (i := 882) (by decide +kernel), List.mem_of_getElem? (i := 1016) (by decide +kernel), List.mem_of_getElem? (i := 1017) (by decide +kernel)⟩
theorem lw_p46 : lw_okq (⟨"HeadDotsModel", "printPart", "(II)I"⟩, 18) := ⟨⟨by decide +kernel, by decide +kernel⟩, List.mem_of_getElem? (i := 882) (by decide +kernel), List.mem_of_getElem? (i := 1020) (by decide +kernel), List.mem_of_getElem? (i := 1021) (by decide +kernel)⟩
theorem lw_p47 : lw_okq (⟨"HeadDotsModel", "darkHeat", "()I"⟩, 18) := ⟨⟨by decide +kernel, by decide +kernel⟩, List.mem_of_getElem? (i := 882) (by decide +kernel), List.mem_of_getElem? (i := 1024) (by decide +kernel), List.mem_of_getElem? (i := 1025) (by decide +kernel)⟩
def lw_privs_3 : List (MethodName × Nat) := [(⟨"HeadDots", "dropOldest", "()V"⟩, 8), (⟨"HeadDots", "savedAt", "(I)LHeadDots$State;"⟩, 8), (⟨"HeadDots", "printPartOfText", "()V"⟩, 8), (⟨"HeadDotsModel", "fails", "(I)I"⟩, 18), (⟨"HeadDotsModel", "save", "()V"⟩, 18), (⟨"HeadDotsModel", "printLine", "(I)I"⟩, 18), (⟨"HeadDotsModel", "partsOf", "(I)I"⟩, 18), (⟨"HeadDotsModel", "atOnce", "()I"⟩, 18), (⟨"HeadDotsModel", "dotsOfPart", "(II)I"⟩, 18), (⟨"HeadDotsModel", "isCool", "(II)Z"⟩, 18), (⟨"HeadDotsModel", "pulse", "(II)I"⟩, 18), (⟨"HeadDotsModel", "pulseBy", "(III)I"⟩, 18), (⟨"HeadDotsModel", "pass", "(I)V"⟩, 18), (⟨"HeadDotsModel", "cooled", "(I)I"⟩, 18), (⟨"HeadDotsModel", "printPart", "(II)I"⟩, 18), (⟨"HeadDotsModel", "darkHeat", "()I"⟩, 18)]
theorem lw_r3 : ∀ q ∈ lw_privs_3, lw_okq q := List.forall_mem_cons.mpr ⟨lw_p32, List.forall_mem_cons.mpr ⟨lw_p33, List.forall_mem_cons.mpr ⟨lw_p34, List.forall_mem_cons.mpr ⟨lw_p35, List.forall_mem_cons.mpr ⟨lw_p36, List.forall_mem_cons.mpr ⟨lw_p37, List.forall_mem_cons.mpr ⟨lw_p38, List.forall_mem_cons.mpr ⟨lw_p39, List.forall_mem_cons.mpr ⟨lw_p40, List.forall_mem_cons.mpr ⟨lw_p41, List.forall_mem_cons.mpr ⟨lw_p42, List.forall_mem_cons.mpr ⟨lw_p43, List.forall_mem_cons.mpr ⟨lw_p44, List.forall_mem_cons.mpr ⟨lw_p45, List.forall_mem_cons.mpr ⟨lw_p46, List.forall_mem_cons.mpr ⟨lw_p47, fun _ h => absurd h List.not_mem_nil⟩⟩⟩⟩⟩⟩⟩⟩⟩⟩⟩⟩⟩⟩⟩⟩
theorem lw_p48 : lw_okq (⟨"HeadDotsModel", "keepLine", "(II)V"⟩, 18) := ⟨⟨by decide +kernel, by decide +kernel⟩, List.mem_of_getElem? (i := 882) (by decide +kernel), List.mem_of_getElem? (i := 1028) (by decide +kernel), List.mem_of_getElem? (i := 1029) (by decide +kernel)⟩
theorem lw_p49 : lw_okq (⟨"HeadDotsModel", "printSome", "(II)I"⟩, 18) := ⟨⟨by decide +kernel, by decide +kernel⟩, List.mem_of_getElem? (i := 882) (by decide +kernel), List.mem_of_getElem? (i := 1036) (by decide +kernel), List.mem_of_getElem? (i := 1037) (by decide +kernel)⟩
theorem lw_p50 : lw_okq (⟨"HeadDotsModel", "sum", "(I)I"⟩, 18) := ⟨⟨by decide +kernel, by decide +kernel⟩, List.mem_of_getElem? (i := 882) (by decide +kernel), List.mem_of_getElem? (i := 1040) (by decide +kernel), List.mem_of_getElem? (i := 1041) (by decide +kernel)⟩
theorem lw_p51 : lw_okq (⟨"HeadDotsModel", "hottestNow", "()I"⟩, 18) := ⟨⟨by decide +kernel, by decide +kernel⟩, List.mem_of_getElem? (i := 882) (by decide +kernel), List.mem_of_getElem? (i := 1048) (by decide +kernel), List.mem_of_getElem? (i := 1049) (by decide +kernel)⟩
theorem lw_p52 : lw_okq (⟨"HeadDotsModel", "paperNow", "(I)I"⟩, 18) := ⟨⟨by decide +kernel, by decide +kernel⟩, List.mem_of_getElem? (i := 882) (by decide +kernel), List.mem_of_getElem? (i := 1056) (by decide +kernel), List.mem_of_getElem? (i := 1057) (by decide +kernel)⟩
theorem lw_p53 : lw_okq (⟨"HeadDotsModel", "arePrints", "()Z"⟩, 18) := ⟨⟨by decide +kernel, by decide +kernel⟩, List.mem_of_getElem? (i := 882) (by decide +kernel), List.mem_of_getElem? (i := 1079) (by decide +kernel), List.mem_of_getElem? (i := 1080) (by decide +kernel)⟩
theorem lw_p54 : lw_okq (⟨"HeadDotsModel", "readPart", "()Z"⟩, 18) := ⟨⟨by decide +kernel, by decide +kernel⟩, List.mem_of_getElem? (i := 882) (by decide +kernel), List.mem_of_getElem? (i := 1083) (by decide +kernel), List.mem_of_getElem? (i := 1084) (by decide +kernel)⟩
theorem lw_p55 : lw_okq (⟨"HeadDotsModel", "takes", "(I)Z"⟩, 18) := ⟨⟨by decide +kernel, by decide +kernel⟩, List.mem_of_getElem? (i := 882) (by decide +kernel), List.mem_of_getElem? (i := 1087) (by decide +kernel), List.mem_of_getElem? (i := 1088) (by decide +kernel)⟩
theorem lw_p56 : lw_okq (⟨"HeadDotsModel", "sign", "()I"⟩, 18) := ⟨⟨by decide +kernel, by decide +kernel⟩, List.mem_of_getElem? (i := 882) (by decide +kernel), List.mem_of_getElem? (i := 1091) (by decide +kernel), List.mem_of_getElem? (i := 1092) (by decide +kernel)⟩
theorem lw_p57 : lw_okq (⟨"HeadDotsModel", "takesFour", "(IIII)Z"⟩, 18) := ⟨⟨by decide +kernel, by decide +kernel⟩, List.mem_of_getElem? (i := 882) (by decide +kernel), List.mem_of_getElem? (i := 1095) (by decide +kernel), List.mem_of_getElem? (i := 1096) (by decide +kernel)⟩
theorem lw_p58 : lw_okq (⟨"HeadDotsModel", "readLine", "()Z"⟩, 18) := ⟨⟨by decide +kernel, by decide +kernel⟩, List.mem_of_getElem? (i := 882) (by decide +kernel), List.mem_of_getElem? (i := 1099) (by decide +kernel), List.mem_of_getElem? (i := 1100) (by decide +kernel)⟩
theorem lw_p59 : lw_okq (⟨"HeadDotsModel", "readNumber", "(I)I"⟩, 18) := ⟨⟨by decide +kernel, by decide +kernel⟩, List.mem_of_getElem? (i := 882) (by decide +kernel), List.mem_of_getElem? (i := 1103) (by decide +kernel), List.mem_of_getElem? (i := 1104) (by decide +kernel)⟩
theorem lw_p60 : lw_okq (⟨"HeadDotsModel", "addPart", "(III)Z"⟩, 18) := ⟨⟨by decide +kernel, by decide +kernel⟩, List.mem_of_getElem? (i := 882) (by decide +kernel), List.mem_of_getElem? (i := 1107) (by decide +kernel), List.mem_of_getElem? (i := 1108) (by decide +kernel)⟩
theorem lw_p61 : lw_okq (⟨"HeadDotsModel", "readPaper", "()Z"⟩, 18) := ⟨⟨by decide +kernel, by decide +kernel⟩, List.mem_of_getElem? (i := 882) (by decide +kernel), List.mem_of_getElem? (i := 1111) (by decide +kernel), List.mem_of_getElem? (i := 1112) (by decide +kernel)⟩
theorem lw_p62 : lw_okq (⟨"HeadDotsModel", "readRest", "()Z"⟩, 18) := ⟨⟨by decide +kernel, by decide +kernel⟩, List.mem_of_getElem? (i := 882) (by decide +kernel), List.mem_of_getElem? (i := 1115) (by decide +kernel), List.mem_of_getElem? (i := 1116) (by decide +kernel)⟩
theorem lw_p63 : lw_okq (⟨"HeadDotsModel", "toldAt", "(II)I"⟩, 18) := ⟨⟨by decide +kernel, by decide +kernel⟩, List.mem_of_getElem? (i := 882) (by decide +kernel), List.mem_of_getElem? (i := 1127) (by decide +kernel), List.mem_of_getElem? (i := 1128) (by decide +kernel)⟩
def lw_privs_4 : List (MethodName × Nat) := [(⟨"HeadDotsModel", "keepLine", "(II)V"⟩, 18), (⟨"HeadDotsModel", "printSome", "(II)I"⟩, 18), (⟨"HeadDotsModel", "sum", "(I)I"⟩, 18), (⟨"HeadDotsModel", "hottestNow", "()I"⟩, 18), (⟨"HeadDotsModel", "paperNow", "(I)I"⟩, 18), (⟨"HeadDotsModel", "arePrints", "()Z"⟩, 18), (⟨"HeadDotsModel", "readPart", "()Z"⟩, 18), (⟨"HeadDotsModel", "takes", "(I)Z"⟩, 18), (⟨"HeadDotsModel", "sign", "()I"⟩, 18), (⟨"HeadDotsModel", "takesFour", "(IIII)Z"⟩, 18), (⟨"HeadDotsModel", "readLine", "()Z"⟩, 18), (⟨"HeadDotsModel", "readNumber", "(I)I"⟩, 18), (⟨"HeadDotsModel", "addPart", "(III)Z"⟩, 18), (⟨"HeadDotsModel", "readPaper", "()Z"⟩, 18), (⟨"HeadDotsModel", "readRest", "()Z"⟩, 18), (⟨"HeadDotsModel", "toldAt", "(II)I"⟩, 18)]
theorem lw_r4 : ∀ q ∈ lw_privs_4, lw_okq q := List.forall_mem_cons.mpr ⟨lw_p48, List.forall_mem_cons.mpr ⟨lw_p49, List.forall_mem_cons.mpr ⟨lw_p50, List.forall_mem_cons.mpr ⟨lw_p51, List.forall_mem_cons.mpr ⟨lw_p52, List.forall_mem_cons.mpr ⟨lw_p53, List.forall_mem_cons.mpr ⟨lw_p54, List.forall_mem_cons.mpr ⟨lw_p55, List.forall_mem_cons.mpr ⟨lw_p56, List.forall_mem_cons.mpr ⟨lw_p57, List.forall_mem_cons.mpr ⟨lw_p58, List.forall_mem_cons.mpr ⟨lw_p59, List.forall_mem_cons.mpr ⟨lw_p60, List.forall_mem_cons.mpr ⟨lw_p61, List.forall_mem_cons.mpr ⟨lw_p62, List.forall_mem_cons.mpr ⟨lw_p63, fun _ h => absurd h List.not_mem_nil⟩⟩⟩⟩⟩⟩⟩⟩⟩⟩⟩⟩⟩⟩⟩⟩
theorem lw_p64 : lw_okq (⟨"HeadDotsModel", "ofDot", "(II)I"⟩, 18) := ⟨⟨by decide +kernel, by decide +kernel⟩, List.mem_of_getElem? (i := 882) (by decide +kernel), List.mem_of_getElem? (i := 1135) (by decide +kernel), List.mem_of_getElem? (i := 1136) (by decide +kernel)⟩
theorem lw_p65 : lw_okq (⟨"HeadDotsModel", "waitOf", "(I)I"⟩, 18) := ⟨⟨by decide +kernel, by decide +kernel⟩, List.mem_of_getElem? (i := 882) (by decide +kernel), List.mem_of_getElem? (i := 1139) (by decide +kernel), List.mem_of_getElem? (i := 1140) (by decide +kernel)⟩
theorem lw_p66 : lw_okq (⟨"HeadDotsModel", "number", "(I)I"⟩, 18) := ⟨⟨by decide +kernel, by decide +kernel⟩, List.mem_of_getElem? (i := 882) (by decide +kernel), List.mem_of_getElem? (i := 1151) (by decide +kernel), List.mem_of_getElem? (i := 1152) (by decide +kernel)⟩
theorem lw_p67 : lw_okq (⟨"HeadDotsModel", "wouldBring", "(II)I"⟩, 18) := ⟨⟨by decide +kernel, by decide +kernel⟩, List.mem_of_getElem? (i := 882) (by decide +kernel), List.mem_of_getElem? (i := 1159) (by decide +kernel), List.mem_of_getElem? (i := 1160) (by decide +kernel)⟩
theorem lw_p68 : lw_okq (⟨"HeadDotsModel", "putAside", "()V"⟩, 18) := ⟨⟨by decide +kernel, by decide +kernel⟩, List.mem_of_getElem? (i := 882) (by decide +kernel), List.mem_of_getElem? (i := 1163) (by decide +kernel), List.mem_of_getElem? (i := 1164) (by decide +kernel)⟩
theorem lw_p69 : lw_okq (⟨"HeadDotsModel", "putBack", "()V"⟩, 18) := ⟨⟨by decide +kernel, by decide +kernel⟩, List.mem_of_getElem? (i := 882) (by decide +kernel), List.mem_of_getElem? (i := 1167) (by decide +kernel), List.mem_of_getElem? (i := 1168) (by decide +kernel)⟩
theorem lw_p70 : lw_okq (⟨"HeadDotsModel", "better", "(I)I"⟩, 18) := ⟨⟨by decide +kernel, by decide +kernel⟩, List.mem_of_getElem? (i := 882) (by decide +kernel), List.mem_of_getElem? (i := 1175) (by decide +kernel), List.mem_of_getElem? (i := 1176) (by decide +kernel)⟩
theorem lw_p71 : lw_okq (⟨"HeadDotsModel", "timeToCool", "(I)I"⟩, 18) := ⟨⟨by decide +kernel, by decide +kernel⟩, List.mem_of_getElem? (i := 882) (by decide +kernel), List.mem_of_getElem? (i := 1183) (by decide +kernel), List.mem_of_getElem? (i := 1184) (by decide +kernel)⟩
theorem lw_p72 : lw_okq (⟨"HeadDotsModel", "leastDark", "(I)I"⟩, 18) := ⟨⟨by decide +kernel, by decide +kernel⟩, List.mem_of_getElem? (i := 882) (by decide +kernel), List.mem_of_getElem? (i := 1191) (by decide +kernel), List.mem_of_getElem? (i := 1192) (by decide +kernel)⟩
theorem lw_p73 : lw_okq (⟨"HeadDotsModel", "isDarkBy", "(II)Z"⟩, 18) := ⟨⟨by decide +kernel, by decide +kernel⟩, List.mem_of_getElem? (i := 882) (by decide +kernel), List.mem_of_getElem? (i := 1195) (by decide +kernel), List.mem_of_getElem? (i := 1196) (by decide +kernel)⟩
theorem lw_p74 : lw_okq (⟨"HeadDotsModel", "share", "()D"⟩, 18) := ⟨⟨by decide +kernel, by decide +kernel⟩, List.mem_of_getElem? (i := 882) (by decide +kernel), List.mem_of_getElem? (i := 1203) (by decide +kernel), List.mem_of_getElem? (i := 1204) (by decide +kernel)⟩
theorem lw_p75 : lw_okq (⟨"HeadDotsModel", "mean", "()F"⟩, 18) := ⟨⟨by decide +kernel, by decide +kernel⟩, List.mem_of_getElem? (i := 882) (by decide +kernel), List.mem_of_getElem? (i := 1211) (by decide +kernel), List.mem_of_getElem? (i := 1212) (by decide +kernel)⟩
theorem lw_p76 : lw_okq (⟨"HeadDotsModel", "mix", "(J)V"⟩, 18) := ⟨⟨by decide +kernel, by decide +kernel⟩, List.mem_of_getElem? (i := 882) (by decide +kernel), List.mem_of_getElem? (i := 1221) (by decide +kernel), List.mem_of_getElem? (i := 1222) (by decide +kernel)⟩
theorem lw_p77 : lw_okq (⟨"HeadDotsModel", "mixStrip", "()V"⟩, 18) := ⟨⟨by decide +kernel, by decide +kernel⟩, List.mem_of_getElem? (i := 882) (by decide +kernel), List.mem_of_getElem? (i := 1226) (by decide +kernel), List.mem_of_getElem? (i := 1227) (by decide +kernel)⟩
def lw_privs_5 : List (MethodName × Nat) := [(⟨"HeadDotsModel", "ofDot", "(II)I"⟩, 18), (⟨"HeadDotsModel", "waitOf", "(I)I"⟩, 18), (⟨"HeadDotsModel", "number", "(I)I"⟩, 18), (⟨"HeadDotsModel", "wouldBring", "(II)I"⟩, 18), (⟨"HeadDotsModel", "putAside", "()V"⟩, 18), (⟨"HeadDotsModel", "putBack", "()V"⟩, 18), (⟨"HeadDotsModel", "better", "(I)I"⟩, 18), (⟨"HeadDotsModel", "timeToCool", "(I)I"⟩, 18), (⟨"HeadDotsModel", "leastDark", "(I)I"⟩, 18), (⟨"HeadDotsModel", "isDarkBy", "(II)Z"⟩, 18), (⟨"HeadDotsModel", "share", "()D"⟩, 18), (⟨"HeadDotsModel", "mean", "()F"⟩, 18), (⟨"HeadDotsModel", "mix", "(J)V"⟩, 18), (⟨"HeadDotsModel", "mixStrip", "()V"⟩, 18)]
theorem lw_r5 : ∀ q ∈ lw_privs_5, lw_okq q := List.forall_mem_cons.mpr ⟨lw_p64, List.forall_mem_cons.mpr ⟨lw_p65, List.forall_mem_cons.mpr ⟨lw_p66, List.forall_mem_cons.mpr ⟨lw_p67, List.forall_mem_cons.mpr ⟨lw_p68, List.forall_mem_cons.mpr ⟨lw_p69, List.forall_mem_cons.mpr ⟨lw_p70, List.forall_mem_cons.mpr ⟨lw_p71, List.forall_mem_cons.mpr ⟨lw_p72, List.forall_mem_cons.mpr ⟨lw_p73, List.forall_mem_cons.mpr ⟨lw_p74, List.forall_mem_cons.mpr ⟨lw_p75, List.forall_mem_cons.mpr ⟨lw_p76, List.forall_mem_cons.mpr ⟨lw_p77, fun _ h => absurd h List.not_mem_nil⟩⟩⟩⟩⟩⟩⟩⟩⟩⟩⟩⟩⟩⟩
def lw_privs : List (MethodName × Nat) := lw_privs_1 ++ (lw_privs_2 ++ (lw_privs_3 ++ (lw_privs_4 ++ (lw_privs_5))))
def lw_tbl : List Cond := k2_sels lw_privs ++ tables_1
theorem lw_privs_ok : ∀ q ∈ lw_privs, lw_okq q := by
  show ∀ q ∈ lw_privs_1 ++ (lw_privs_2 ++ (lw_privs_3 ++ (lw_privs_4 ++ (lw_privs_5)))), lw_okq q
  exact List.forall_mem_append.mpr ⟨lw_r1, List.forall_mem_append.mpr ⟨lw_r2, List.forall_mem_append.mpr ⟨lw_r3, List.forall_mem_append.mpr ⟨lw_r4, lw_r5⟩⟩⟩⟩
/-- the streams that the claim lets the run draw from -/
abbrev lw_cs : List Choice := [Jvm.Choice.named "NaN.bits"]
theorem lw_bits : nanBits ∈ lw_cs := by first | decide | exact List.mem_cons_self | simp [lw_cs, nanBits]
-- ===== end of PART A; then your names; then what follows =====
/-! ===== BEGIN words of one list among another's, by their places ===== -/
theorem goodIn_r {big : List Cond} (ws : List Cond) (ps : List Nat) (hp : ws = ps.filterMap (fun i => big[i]?)) (h : ws.all goodWord = true) : GoodIn big ws := by
  intro w hw
  have h1 := List.all_eq_true.mp h w hw
  rw [hp] at hw
  obtain ⟨i, -, hi⟩ := List.mem_filterMap.mp hw
  have hm : w ∈ big := by first | exact List.mem_of_getElem? hi | exact List.getElem?_mem hi
  exact ⟨hm, good_of_word h1⟩
theorem goodIn_app {big a b : List Cond} (ha : GoodIn big a) (hb : GoodIn big b) : GoodIn big (a ++ b) := fun w h => (List.mem_append.mp h).elim (ha w) (hb w)
theorem goodIn_ca {big a b : List Cond} {c : Cond} (ha : GoodIn big (c :: a)) (hb : GoodIn big b) : GoodIn big (c :: (a ++ b)) := fun w h => (List.mem_cons.mp h).elim (fun e => ha w (List.mem_cons.mpr (Or.inl e))) (fun h => (List.mem_append.mp h).elim (fun h => ha w (List.mem_cons.mpr (Or.inr h))) (hb w))
theorem goodIn_sub {big ws : List Cond} (hm : ∀ w ∈ ws, w ∈ big) (h : ws.all goodWord = true) : GoodIn big ws := fun w hw => ⟨hm w hw, good_of_word (List.all_eq_true.mp h w hw)⟩
/-! ===== END ===== -/

/-! ===== BEGIN exceptions that leave a method, and their catching by the caller (launches without stack traces) ===== -/
section VXA
/-! The laws vx_back, vx_callV, vx_callS, vx_callSW, vx_throw0, vx_throwS follow proofs of the library, with one case more: JvmDerived/Free/Laws.lean (Back.of_free), Shelf42/LK1.lean (callV, callS), Shelf/KitTraced.lean (throwNew0V, throwNewS). -/
/-- where a method has thrown q: the class by its name, the cell, what was written, the world -/
def vx_T (XC : String → State → State → Prop) (st : State) (q : Addr) (t : State) (mc ms : Nat) (free : Addr → Prop) : Prop :=
  ∃ (E : String) (ce : Cell) (L : List Loc), XC E st t ∧ t.heap[q]? = some ce ∧ ce.vm = .none ∧ st.vm.findClass E = some ce.cls ∧ st.WarmedH t.vm ∧ st.sameButNew ({ t with vm := st.vm } : State) L mc ms ∧ ∀ z ∈ L, free z.base
def vx_Q (Qc : Array Value → State → Outcome → State → Prop) (XC : String → State → State → Prop) (mc ms : Nat) (free : Addr → Prop) : Array Value → State → Outcome → State → Prop := fun a st o t =>
  (Qc a st o t ∧ ∃ L, FrameEnd st o t L mc ms ∧ ∀ q ∈ L, free q.base) ∨ ∃ q, o = .threw q ∧ vx_T XC st q t mc ms free
/-- a callee that returns or throws -/
def vx_Met (l : Launch) (y : MethodName) (ws : List Cond) (rm : Room) (Pc : Array Value → State → Prop) (Qc : Array Value → State → Outcome → State → Prop) (XC : String → State → State → Prop) (mc ms : Nat) (free : Addr → Prop) : Prop :=
  MetFree l y (headSpec ws rm) Pc (fun _ _ _ _ _ => True) (vx_Q Qc XC mc ms free)
def vx_Post (XC : String → State → State → Prop) (mc ms : Nat) (free : Addr → Prop) : Pt → Array Value → Addr → Pt → Prop := fun A a q B =>
  ∃ (g : JFrame) (mk : MethodId) (t : State) (L : List Loc) (E : String) (ce : Cell), B.U.heap = t.heap ∧ B.U.vm = t.vm ∧ XC E (A.U.calling g mk a) t ∧ t.heap[q]? = some ce ∧ ce.vm = .none ∧ A.U.vm.findClass E = some ce.cls ∧ B.locs = A.locs ++ L ∧ (∀ z ∈ L, free z.base) ∧ B.cells = A.cells + mc ∧ B.slots = A.slots + ms
def vx_Back (l : Launch) (R : Room) (p : Program) (e : Env) (below : List Frame) (s : State) (sargs : Array Value) (y : MethodName) (len W9 : Nat)
    (Pre : Pt → Array Value → Prop) (Post : Pt → Array Value → Option Value → Pt → Prop) (PostX : Pt → Array Value → Addr → Pt → Prop) : Prop :=
  ∀ (m : MethodId) (meth : Method) (c : Code) (A : Pt) (g : JFrame) (ig : Instr) (mk : MethodId) (a : Array Value),
    Stand p l e R s m sargs below meth c A.U A.locs A.cells A.slots → g.method = m → g.locals.size = c.maxLocals → decode c.code g.pc = .ok (ig, len) →
    2 * g.monitorRoom + (g.stack.map fun v => v.category).sum ≤ W9 → A.U.methodNamed? y = some mk → Pre A a →
    (∃ (v : Option Value) (B : Pt), Stand p l e R s m sargs below meth c B.U B.locs B.cells B.slots ∧ Post A a v B ∧
      Steps p.tables e below (doInvoke e (A.U.setTop g) [] mk a).1 (B.U.setTop { g with pc := g.pc + len, stack := v.toList ++ g.stack })) ∨
    (∃ (q : Addr) (B : Pt), Stand p l e R s m sargs below meth c B.U B.locs B.cells B.slots ∧ PostX A a q B ∧
      Steps p.tables e below (doInvoke e (A.U.setTop g) [] mk a).1 ((B.U.setTop g).pushFrame (.throwing q)))
section Payer
variable {l : Launch} {R : Room} {p : Program} {e : Env} {below : List Frame} {s : State} {sargs : Array Value} {y : MethodName} {len W9 : Nat}
theorem vx_back {ws : List Cond} {rm : Room} {Pc : Array Value → State → Prop} {Qc : Array Value → State → Outcome → State → Prop} {XC : String → State → State → Prop} {mc ms : Nat} {free : Addr → Prop} {bytes : ByteArray} {maxL : Nat} {ret : Option FieldType}
    (hM : vx_Met l y ws rm Pc Qc XC mc ms free) (hblind : FrameBlind Pc) (hrc : rm.cells = mc) (hrs : rm.slots = ms)
    (hframes : rm.frames + 1 ≤ R.frames) (hlocals : W9 + (maxL + 11) + rm.locals ≤ R.locals)
    (hws : ∀ w ∈ ws, ∀ a' U, s.WarmedH U.vm → w.before a' U = true) (hcode : Cond.code y bytes maxL ret ∈ ws) (hinit : ∀ a' U, s.WarmedH U.vm → (Cond.initialized y.cls).before a' U = true) :
    vx_Back l R p e below s sargs y len W9 (PreOf R mc ms Pc) (PostOf Qc mc ms free) (vx_Post XC mc ms free) := by
  intro m meth c A g ig mk a X hg hsize hdg hW hn hp
  have h1 : (headSpec ws rm).pre.before a A.U = true := atoms_intro fun w hw => hws w hw _ _ X.warmed
  have h2 : (Cond.code y bytes maxL ret).before a A.U = true := hws _ hcode _ _ X.warmed
  have h3 : (Cond.initialized y.cls).before a A.U = true := hinit _ _ X.warmed
  have h4 : A.cells + (headSpec ws rm).room.cells ≤ R.cells := by rw [show (headSpec ws rm).room.cells = mc from hrc]; exact hp.1
  have h5 : A.slots + (headSpec ws rm).room.slots ≤ R.slots := by rw [show (headSpec ws rm).room.slots = ms from hrs]; exact hp.2.1
  have hPc : Pc a (A.U.calling g mk a) := hblind _ _ _ _ hp.2.2
  obtain ⟨U, Ls, c0, s0⟩ := A
  dsimp only [Pt.U, Pt.locs, Pt.cells, Pt.slots] at h1 h2 h3 h4 h5 X hn hPc ⊢
  obtain ⟨methY, cY, hmY, hcY, -, hlY, -, -, -, -⟩ := Cond.code_spec hn h2
  obtain ⟨kY, hkY, -⟩ := className_of_methodNamed hn
  have hinitY : kY.init = .initialized := Cond.initialized_spec (findClass_of_methodNamed hn) hkY h3
  have h : At U g.method c below := by rw [hg]; exact X.here
  have hlocals9 : W9 + (maxL + 11) + (headSpec ws rm).room.locals ≤ R.locals := hlocals
  have happ : (headSpec ws rm).appliesLoose y e.platform (U.calling g mk a) = true :=
    Spec.appliesLoose_calling (g := g) h hdg hn hkY hinitY
      (X.room_calling (g := g) (R' := (headSpec ws rm).room) hsize hmY hcY hframes (by rw [hlY]; omega) h4 h5) h1
  obtain ⟨mid, hmid⟩ := h.above
  have hfr : (U.setTop g).frames = (.java g :: mid) ++ below := by rw [State.frames_setTop' g h.top, hmid]; rfl
  obtain ⟨o, s₂, hsteps, -, hend, hq⟩ := Steps.callFree hM p X.admits X.cas X.clock (acts := []) hfr happ hPc trivial
  have hq' : vx_Q Qc XC mc ms free a (U.calling g mk a) o s₂ := hq
  rw [State.frames_setTop' g h.top] at hend
  obtain ⟨g₀, hg0⟩ := Option.isSome_iff_exists.mp h.top
  obtain ⟨r, hr⟩ := State.topJava?_eq_some.mp hg0
  have hr' : (({ U with heap := s₂.heap, slotsUsed := s₂.slotsUsed } : State).setVm s₂.vm).frames = .java g₀ :: r := hr
  rcases hq' with ⟨hqc, L, hfe, hL⟩ | ⟨q, rfl, E, ce, L, hx, hce, hcv, hcl, hW₂, hsm, hL⟩
  · obtain ⟨⟨v, rfl⟩, hW₂, e2, q2, q3, q4, q5, q6⟩ := id hfe
    have e3 : s₂ = ({ (U.calling g mk a).setFrames s₂.frames with heap := s₂.heap, slotsUsed := s₂.slotsUsed } : State).setVm s₂.vm := by
      have : s₂ = ({ s₂ with vm := (U.calling g mk a).vm } : State).setVm s₂.vm := rfl
      rw [e2] at this
      exact this
    obtain ⟨c₂, i₂, len₂, hc₂, hd₂, hf₂⟩ := hend
    have hW' : U.WarmedH s₂.vm := hW₂
    have hcc : c₂ = c := by
      have h1 : s₂.code? g.method = U.code? g.method := by
        rw [State.code?_eq, State.code?_eq, hW'.alike.method?]
      exact Option.some.inj (hc₂.symm.trans (h1.trans h.code))
    subst hcc
    have hlen : len₂ = len := by rw [hdg] at hd₂; cases hd₂; rfl
    subst hlen
    have hs₂ : s₂ = (({ U with heap := s₂.heap, slotsUsed := s₂.slotsUsed } : State).setVm s₂.vm).setTop { g with pc := g.pc + len₂, stack := v.toList ++ g.stack } := by
      refine e3.trans ?_
      rw [hf₂, State.calling_eq h.top, State.setFrames_setFrames, State.setTop_of_frames _ hr', hr]
      rfl
    have hsame : U.sameButNew ({ U with heap := s₂.heap, slotsUsed := s₂.slotsUsed } : State) L mc ms := by
      refine ⟨?_, q2, q3, q4, q5, q6⟩
      obtain ⟨t, ht, -⟩ := State.frames_cons hr
      show ({ U with heap := s₂.heap, slotsUsed := s₂.slotsUsed } : State) = { U.setFrames U.frames with heap := s₂.heap, slotsUsed := s₂.slotsUsed }
      rw [State.setFrames_self ht]
    subst hg
    refine Or.inl ⟨v, ⟨(({ U with heap := s₂.heap, slotsUsed := s₂.slotsUsed } : State).setVm s₂.vm), Ls ++ L, c0 + mc, s0 + ms⟩,
      ⟨X.admits, X.cas, X.clock, X.frames, X.room, X.hears, X.method, X.code, (X.here.setHeapUsed s₂.heap s₂.slotsUsed).setVm hW'.alike, X.tail, State.WarmedH.trans X.warmed hW', X.limits, X.bytes, X.same.trans (hsame.setVm s.vm)⟩,
      ⟨g, mk, s₂, L, rfl, rfl, hqc, rfl, hL, rfl, rfl⟩, ?_⟩
    show Steps p.tables e below _ ((({ U with heap := s₂.heap, slotsUsed := s₂.slotsUsed } : State).setVm s₂.vm).setTop { g with pc := g.pc + len₂, stack := v.toList ++ g.stack })
    rw [← hs₂]
    exact hsteps
  · obtain ⟨e2, q2, q3, q4, q5, q6⟩ := id hsm
    have e3 : s₂ = ({ (U.calling g mk a).setFrames s₂.frames with heap := s₂.heap, slotsUsed := s₂.slotsUsed } : State).setVm s₂.vm := by
      have : s₂ = ({ s₂ with vm := (U.calling g mk a).vm } : State).setVm s₂.vm := rfl
      rw [e2] at this
      exact this
    have hf₂ : s₂.frames = .throwing q :: .java g :: U.frames.tail := hend
    have hW' : U.WarmedH s₂.vm := hW₂
    have hs₂ : s₂ = ((({ U with heap := s₂.heap, slotsUsed := s₂.slotsUsed } : State).setVm s₂.vm).setTop g).pushFrame (.throwing q) := by
      refine e3.trans ?_
      rw [hf₂, State.calling_eq h.top, State.setFrames_setFrames, State.pushFrame, State.frames_setTop _ hr', State.setTop_of_frames _ hr', State.setFrames_setFrames, hr]
      rfl
    have hsame : U.sameButNew ({ U with heap := s₂.heap, slotsUsed := s₂.slotsUsed } : State) L mc ms := by
      refine ⟨?_, q2, q3, q4, q5, q6⟩
      obtain ⟨t, ht, -⟩ := State.frames_cons hr
      show ({ U with heap := s₂.heap, slotsUsed := s₂.slotsUsed } : State) = { U.setFrames U.frames with heap := s₂.heap, slotsUsed := s₂.slotsUsed }
      rw [State.setFrames_self ht]
    subst hg
    refine Or.inr ⟨q, ⟨(({ U with heap := s₂.heap, slotsUsed := s₂.slotsUsed } : State).setVm s₂.vm), Ls ++ L, c0 + mc, s0 + ms⟩,
      ⟨X.admits, X.cas, X.clock, X.frames, X.room, X.hears, X.method, X.code, (X.here.setHeapUsed s₂.heap s₂.slotsUsed).setVm hW'.alike, X.tail, State.WarmedH.trans X.warmed hW', X.limits, X.bytes, X.same.trans (hsame.setVm s.vm)⟩,
      ⟨g, mk, s₂, L, E, ce, rfl, rfl, hx, hce, hcv, hcl, rfl, hL, rfl, rfl⟩, ?_⟩
    show Steps p.tables e below _ (((({ U with heap := s₂.heap, slotsUsed := s₂.slotsUsed } : State).setVm s₂.vm).setTop g).pushFrame (.throwing q))
    rw [← hs₂]
    exact hsteps
end Payer
section Calls
variable {p : Program} {l : Launch} {e : Env} {R : Room} {s : State} {m : MethodId} {args : Array Value} {below : List Frame} {meth : Method} {c : Code} {T : State} {locs : List Loc} {cells slots : Nat}
theorem vx_callV (X : Stand p l e R s m args below meth c T locs cells slots) (hexec : p.tables.exec = Jvm.exec) {own C : String} {index : Nat} {y : MethodName} {bytes : ByteArray} {maxL : Nat} {ret : Option FieldType}
    (hown : s.vm.findClass own = some m.cls) (hlink : (Cond.methodLink own index y).before args s = true) (hinst : (Cond.instanceMethod y).before args s = true) (hsel : (Cond.selects C y y).before args s = true)
    (hcode : (Cond.code y bytes maxL ret).before args s = true) (hy : y.cls ≠ "java/lang/invoke/MethodHandle" ∧ y.cls ≠ "java/lang/invoke/VarHandle")
    {W9 : Nat} {Pre : Pt → Array Value → Prop} {Post : Pt → Array Value → Option Value → Pt → Prop} {PostX : Pt → Array Value → Addr → Pt → Prop} (hK : vx_Back l R p e below s args y 3 W9 Pre Post PostX)
    {b : Addr} {cellB : Cell} (hcell : T.heap[b]? = some cellB) (hobj : cellB.vm.isStatics = false) (hcls : s.vm.findClass C = some cellB.cls)
    {g : JFrame} (hg : g.method = m) (hsize : g.locals.size = c.maxLocals) {argsL rest : List Value} (hlen : ∀ sig, parseMethodDescriptor y.desc = some sig → argsL.length = sig.parameters.length)
    (hstack : g.stack = argsL.reverse ++ .ref b :: rest) (hW : 2 * g.monitorRoom + (rest.map fun v => v.category).sum ≤ W9) (hdg : decode c.code g.pc = .ok (.invokevirtual index, 3))
    (hpre : ∀ vm₁, s.WarmedH vm₁ → Pre ⟨T.setVm vm₁, locs, cells, slots⟩ (Value.ref b :: argsL).toArray) :
    (∃ (v : Option Value) (vm₁ : Vm) (B : Pt), s.WarmedH vm₁ ∧ Stand p l e R s m args below meth c B.U B.locs B.cells B.slots ∧ Post ⟨T.setVm vm₁, locs, cells, slots⟩ (Value.ref b :: argsL).toArray v B ∧
      ∀ target, Steps p.tables e below (B.U.setTop { g with pc := g.pc + 3, stack := v.toList ++ rest }) target → Steps p.tables e below (T.setTop g) target) ∨
    (∃ (q : Addr) (vm₁ : Vm) (B : Pt), s.WarmedH vm₁ ∧ Stand p l e R s m args below meth c B.U B.locs B.cells B.slots ∧ PostX ⟨T.setVm vm₁, locs, cells, slots⟩ (Value.ref b :: argsL).toArray q B ∧
      Steps p.tables e below (T.setTop g) ((B.U.setTop { g with stack := rest }).pushFrame (.throwing q))) := by
  obtain ⟨mk, methM, hnamed, hmethM, hstM, habM⟩ := Cond.instanceMethod_spec hinst
  obtain ⟨methM', cM, hmethM', -, -, -, -, -, -, hsigM⟩ := Cond.code_spec hnamed hcode
  cases hmethM.symm.trans hmethM'
  obtain ⟨c2, r2, m2, q1, q2, q3, q4, kP, hkP, hkPi⟩ := Cond.selects_spec hsel
  cases hcls.symm.trans q1
  cases (State.methodFound?_of_named hnamed hy).symm.trans q2
  cases hnamed.symm.trans q3
  have hselP : selectMethod e.platform s.vm cellB.cls mk = .method mk := by rw [Launch.admits_selectMethod X.admits]; exact q4
  obtain ⟨vm₁, X₁, hstep₁⟩ := X.invokevirtual hexec hown hlink hnamed hmethM hstM hkP hkPi hy (a := b) (cell := cellB) hcell
    (fun z h => by rw [h] at hobj; cases hobj) hselP hmethM habM hkP hkPi (g := g) hg (argsL := argsL) (rest := rest) (hlen _ hsigM) hstack hdg
  rcases hK m meth c ⟨T.setVm vm₁, locs, cells, slots⟩ { g with stack := rest } (.invokevirtual index) mk (Value.ref b :: argsL).toArray X₁ hg hsize hdg hW (X₁.named hnamed) (hpre vm₁ X₁.warmed) with ⟨v, B, X', hpost, hsteps⟩ | ⟨q, B, X', hpost, hsteps⟩
  · exact Or.inl ⟨v, vm₁, B, X₁.warmed, X', hpost, fun target h => hstep₁ _ fun acts => by rw [doInvoke_state]; exact hsteps.trans h⟩
  · exact Or.inr ⟨q, vm₁, B, X₁.warmed, X', hpost, hstep₁ _ fun acts => by rw [doInvoke_state]; exact hsteps⟩
theorem vx_callS (X : Stand p l e R s m args below meth c T locs cells slots) (hexec : p.tables.exec = Jvm.exec) {own : String} {index : Nat} {y : MethodName} {bytes : ByteArray} {maxL : Nat} {ret : Option FieldType}
    (hown : s.vm.findClass own = some m.cls) (hlink : (Cond.methodLink own index y).before args s = true) (hstat : (Cond.static y).before args s = true) (hinit : (Cond.initialized y.cls).before args s = true)
    (hcode : (Cond.code y bytes maxL ret).before args s = true) (hy : y.cls ≠ "java/lang/invoke/MethodHandle" ∧ y.cls ≠ "java/lang/invoke/VarHandle")
    {W9 : Nat} {Pre : Pt → Array Value → Prop} {Post : Pt → Array Value → Option Value → Pt → Prop} {PostX : Pt → Array Value → Addr → Pt → Prop} (hK : vx_Back l R p e below s args y 3 W9 Pre Post PostX)
    {g : JFrame} (hg : g.method = m) (hsize : g.locals.size = c.maxLocals) {argsL rest : List Value} (hlen : ∀ sig, parseMethodDescriptor y.desc = some sig → argsL.length = sig.parameters.length)
    (hstack : g.stack = argsL.reverse ++ rest) (hW : 2 * g.monitorRoom + (rest.map fun v => v.category).sum ≤ W9) (hdg : decode c.code g.pc = .ok (.invokestatic index, 3))
    (hpre : ∀ vm₁, s.WarmedH vm₁ → Pre ⟨T.setVm vm₁, locs, cells, slots⟩ argsL.toArray) :
    (∃ (v : Option Value) (vm₁ : Vm) (B : Pt), s.WarmedH vm₁ ∧ Stand p l e R s m args below meth c B.U B.locs B.cells B.slots ∧ Post ⟨T.setVm vm₁, locs, cells, slots⟩ argsL.toArray v B ∧
      ∀ target, Steps p.tables e below (B.U.setTop { g with pc := g.pc + 3, stack := v.toList ++ rest }) target → Steps p.tables e below (T.setTop g) target) ∨
    (∃ (q : Addr) (vm₁ : Vm) (B : Pt), s.WarmedH vm₁ ∧ Stand p l e R s m args below meth c B.U B.locs B.cells B.slots ∧ PostX ⟨T.setVm vm₁, locs, cells, slots⟩ argsL.toArray q B ∧
      Steps p.tables e below (T.setTop g) ((B.U.setTop { g with stack := rest }).pushFrame (.throwing q))) := by
  obtain ⟨mk, hnamed⟩ := Cond.code_named hcode
  obtain ⟨methM, cM, hmethM, -, -, -, -, -, -, hsigM⟩ := Cond.code_spec hnamed hcode
  have hstatic : methM.isStatic = true := Cond.static_spec hnamed hmethM hstat
  obtain ⟨kP, hkP, -⟩ := className_of_methodNamed hnamed
  have hinitP : kP.init = .initialized := Cond.initialized_spec (findClass_of_methodNamed hnamed) hkP hinit
  obtain ⟨vm₁, X₁, hstep₁⟩ := X.invokestatic hexec hown hlink hnamed hmethM hstatic hkP hinitP hy (g := g) hg (argsL := argsL) (rest := rest) (hlen _ hsigM) hstack hdg
  rcases hK m meth c ⟨T.setVm vm₁, locs, cells, slots⟩ { g with stack := rest } (.invokestatic index) mk argsL.toArray X₁ hg hsize hdg hW (X₁.named hnamed) (hpre vm₁ X₁.warmed) with ⟨v, B, X', hpost, hsteps⟩ | ⟨q, B, X', hpost, hsteps⟩
  · exact Or.inl ⟨v, vm₁, B, X₁.warmed, X', hpost, fun target h => hstep₁ _ fun acts => by rw [doInvoke_state]; exact hsteps.trans h⟩
  · exact Or.inr ⟨q, vm₁, B, X₁.warmed, X', hpost, hstep₁ _ fun acts => by rw [doInvoke_state]; exact hsteps⟩
end Calls
theorem vx_cls {s : State} {T : State} {vm₁ : Vm} {E : String} {k : ClassId} (hW : s.WarmedH vm₁) (h : (T.setVm vm₁).vm.findClass E = some k) : s.vm.findClass E = some k := by
  have h1 : vm₁.findClass E = some k := h
  rw [hW.alike.findClass] at h1
  exact h1
/-- the method's frame g, with q thrown over it -/
def vx_W (p : Program) (l : Launch) (e : Env) (R : Room) (s : State) (m : MethodId) (args : Array Value) (below : List Frame) (meth : Method) (c : Code) (H : Heap) (locs : List Loc) (cells slots : Nat) (Q : State → Prop) (g : JFrame) (q : Addr) : Prop :=
  ∀ T : State, T.heap = H → Stand p l e R s m args below meth c T locs cells slots → ∃ t, Steps p.tables e below ((T.setTop g).pushFrame (.throwing q)) t ∧ Q t
def vx_Run (p : Program) (l : Launch) (e : Env) (R : Room) (s : State) (m : MethodId) (args : Array Value) (below : List Frame) (meth : Method) (c : Code) (H : Heap) (locs : List Loc) (cells slots mc ms : Nat) (g : JFrame) (rest : List Value) (Qa : State → Outcome → State → Prop) (XC : String → State → State → Prop) (free : Addr → Prop) : Prop :=
  ∀ T : State, T.heap = H → Stand p l e R s m args below meth c T locs cells slots →
    (∃ (v : Option Value) (st₀ t T' : State) (L : List Loc), st₀.heap = H ∧ Stand p l e R s m args below meth c T' (locs ++ L) (cells + mc) (slots + ms) ∧ (∀ q ∈ L, free q.base) ∧ T'.heap = t.heap ∧ T'.vm = t.vm ∧ Qa st₀ (.returned v) t ∧
      Goes p e below T g T' { g with pc := g.pc + 3, stack := v.toList ++ rest }) ∨
    (∃ (q : Addr) (st₀ t T' : State) (L : List Loc) (E : String) (ce : Cell), st₀.heap = H ∧ Stand p l e R s m args below meth c T' (locs ++ L) (cells + mc) (slots + ms) ∧ (∀ z ∈ L, free z.base) ∧ T'.heap = t.heap ∧ T'.vm = t.vm ∧ XC E st₀ t ∧ t.heap[q]? = some ce ∧ ce.vm = .none ∧ s.vm.findClass E = some ce.cls ∧
      Steps p.tables e below (T.setTop g) ((T'.setTop { g with stack := rest }).pushFrame (.throwing q)))
def vx_X {S : Type} (px : S → Prop) (B : String → S → State → Prop) (A : Nat → Prop) : String → State → State → Prop := fun E st t => ∃ u : S, px u ∧ B E u t ∧ va_F A st t
section Runs
variable {p : Program} {l : Launch} {e : Env} {R : Room} {s : State} {m : MethodId} {args : Array Value} {below : List Frame} {meth : Method} {c : Code} {H : Heap} {locs : List Loc} {cells slots : Nat}
variable {y : MethodName} {bytes cc : ByteArray} {maxL nL mc ms n index : Nat} {ret : Option FieldType} {ws : List Cond} {rm : Room} {Pc : Array Value → State → Prop} {Qc : Array Value → State → Outcome → State → Prop} {XC : String → State → State → Prop} {free : Addr → Prop} {Ts : List Cond} {own C : String} {b : Addr} {As rest : List Value} {g : JFrame}
theorem vx_callBack (cb : CallB R s args own index y bytes maxL ret ws rm mc ms n) (hM : vx_Met l y ws rm Pc Qc XC mc ms free) (hbl : FrameBlind Pc) : vx_Back l R p e below s args y 3 8 (PreOf R mc ms Pc) (PostOf Qc mc ms free) (vx_Post XC mc ms free) := by
  obtain ⟨hrc, hrs, hfr, hlo, hws, hcw, -, hini, -⟩ := cb
  exact vx_back (bytes := bytes) (maxL := maxL) (ret := ret) hM hbl hrc hrs hfr hlo hws hcw (fun a' U hW => word_at hW (Or.inl (by first | rfl | simp [Cond.onTables, Cond.keeps, Cond.steady])) hini)
theorem vx_runV (S : CallFix p m c cc nL s args Ts own) (hM : vx_Met l y ws rm Pc Qc XC mc ms free) (cw : CallW R s args own C index y bytes maxL ret ws rm mc ms n) (hp : PreV s H C b Pc As)
    (hg : g.method = m) (hn : As.length = n) (hsize : g.locals.size = nL) (hstack : g.stack = As.reverse ++ .ref b :: rest) (hW : 2 * g.monitorRoom + (rest.map fun v => v.category).sum ≤ 8) (hdg : decode cc g.pc = .ok (.invokevirtual index, 3)) (hf : cells + mc ≤ R.cells ∧ slots + ms ≤ R.slots) :
    vx_Run p l e R s m args below meth c H locs cells slots mc ms g rest (Qc (Value.ref b :: As).toArray) XC free := by
  have hK : vx_Back l R p e below s args y 3 8 (PreOf R mc ms Pc) (PostOf Qc mc ms free) (vx_Post XC mc ms free) := vx_callBack cw.1 hM hp.1
  obtain ⟨⟨-, -, -, -, -, -, hcode, -, hy, hlen, hl⟩, hin, hse⟩ := cw
  obtain ⟨hx, hb, hml, ho, -⟩ := S
  obtain ⟨-, ⟨cellB, hcB, hoB, hclB⟩, hPc⟩ := hp
  intro T hT X
  rcases vx_callV X hx (C := C) (bytes := bytes) (maxL := maxL) (ret := ret) ho hl hin hse hcode hy hK (by rw [hT]; exact hcB) hoB hclB hg (hsize.trans hml.symm) (argsL := As) (rest := rest) (fun sig h => hn.trans (hlen sig h)) hstack hW (by rw [hb]; exact hdg)
    (fun vm₁ hW₁ => ⟨hf.1, hf.2, hPc (T.setVm vm₁) hT hW₁⟩) with ⟨v, vm₁, ⟨U', l2, c2, s2⟩, hW₁, X', ⟨g', mk, t, L, e1, e2, hq, h1, hL, h2, h3⟩, st⟩ | ⟨q, vm₁, ⟨U', l2, c2, s2⟩, hW₁, X', ⟨g', mk, t, L, E, ce, e1, e2, hq, hce, hcv, hcl, h1, hL, h2, h3⟩, st⟩
  · dsimp only [Pt.U, Pt.locs, Pt.cells, Pt.slots] at X' e1 e2 h1 h2 h3 st
    subst h1; subst h2; subst h3
    exact Or.inl ⟨v, (T.setVm vm₁).calling g' mk (Value.ref b :: As).toArray, t, U', L, hT, X', hL, e1, e2, hq, st⟩
  · dsimp only [Pt.U, Pt.locs, Pt.cells, Pt.slots] at X' e1 e2 h1 h2 h3 st hcl
    subst h1; subst h2; subst h3
    exact Or.inr ⟨q, (T.setVm vm₁).calling g' mk (Value.ref b :: As).toArray, t, U', L, E, ce, hT, X', hL, e1, e2, hq, hce, hcv, vx_cls hW₁ hcl, st⟩
theorem vx_runS (S : CallFix p m c cc nL s args Ts own) (hM : vx_Met l y ws rm Pc Qc XC mc ms free) (cw : CallB R s args own index y bytes maxL ret ws rm mc ms n ∧ (Cond.static y).before args s = true) (hp : PreS s H Pc As)
    (hg : g.method = m) (hn : As.length = n) (hsize : g.locals.size = nL) (hstack : g.stack = As.reverse ++ rest) (hW : 2 * g.monitorRoom + (rest.map fun v => v.category).sum ≤ 8) (hdg : decode cc g.pc = .ok (.invokestatic index, 3)) (hf : cells + mc ≤ R.cells ∧ slots + ms ≤ R.slots) :
    vx_Run p l e R s m args below meth c H locs cells slots mc ms g rest (Qc As.toArray) XC free := by
  have hK : vx_Back l R p e below s args y 3 8 (PreOf R mc ms Pc) (PostOf Qc mc ms free) (vx_Post XC mc ms free) := vx_callBack cw.1 hM hp.1
  obtain ⟨⟨-, -, -, -, -, -, hcode, hini, hy, hlen, hl⟩, hstt⟩ := cw
  obtain ⟨hx, hb, hml, ho, -⟩ := S
  intro T hT X
  rcases vx_callS X hx (bytes := bytes) (maxL := maxL) (ret := ret) ho hl hstt hini hcode hy hK hg (hsize.trans hml.symm) (argsL := As) (rest := rest) (fun sig h => hn.trans (hlen sig h)) hstack hW (by rw [hb]; exact hdg)
    (fun vm₁ hW₁ => ⟨hf.1, hf.2, hp.2 (T.setVm vm₁) hT hW₁⟩) with ⟨v, vm₁, ⟨U', l2, c2, s2⟩, hW₁, X', ⟨g', mk, t, L, e1, e2, hq, h1, hL, h2, h3⟩, st⟩ | ⟨q, vm₁, ⟨U', l2, c2, s2⟩, hW₁, X', ⟨g', mk, t, L, E, ce, e1, e2, hq, hce, hcv, hcl, h1, hL, h2, h3⟩, st⟩
  · dsimp only [Pt.U, Pt.locs, Pt.cells, Pt.slots] at X' e1 e2 h1 h2 h3 st
    subst h1; subst h2; subst h3
    exact Or.inl ⟨v, (T.setVm vm₁).calling g' mk As.toArray, t, U', L, hT, X', hL, e1, e2, hq, st⟩
  · dsimp only [Pt.U, Pt.locs, Pt.cells, Pt.slots] at X' e1 e2 h1 h2 h3 st hcl
    subst h1; subst h2; subst h3
    exact Or.inr ⟨q, (T.setVm vm₁).calling g' mk As.toArray, t, U', L, E, ce, hT, X', hL, e1, e2, hq, hce, hcv, vx_cls hW₁ hcl, st⟩
end Runs
section Rows
variable {p : Program} {l : Launch} {e : Env} {R : Room} {s : State} {m : MethodId} {args : Array Value} {below : List Frame} {meth : Method} {c : Code} {H : Heap} {locs : List Loc} {cells slots : Nat} {Q : State → Prop}
variable {mc ms : Nat} {free : Addr → Prop} {A0 A1 : Nat → Prop} {H0 : Heap} {a : Array Value} {pc : Nat} {ls : Array Slot} {st0 rest : List Value}
theorem vx_keep {st₀ t T' : State} {L : List Loc} (h0 : st₀.heap = H) (e1 : T'.heap = t.heap) (hS : va_S A0 H0 H locs) (hA : ∀ q, q < H.size → A1 q → A0 q) (hf : ∀ q, free q → A0 q) (hL : ∀ q ∈ L, free q.base) (hF : va_F A1 st₀ t) :
    H.size ≤ T'.heap.size ∧ (∀ q : Nat, q < H.size → ¬ A1 q → T'.heap[q]? = H[q]?) ∧ va_S A0 H0 T'.heap (locs ++ L) := by
  obtain ⟨hz, hk⟩ := hF
  rw [h0] at hz hk
  exact ⟨by rw [e1]; exact hz, fun q h1 h2 => by rw [e1]; exact hk q h1 h2,
    ⟨Nat.le_trans hS.1 (by rw [e1]; exact hz), fun q h1 h2 => by rw [e1, hk q (Nat.lt_of_lt_of_le h1 hS.1) (fun z => h2 (hA q (Nat.lt_of_lt_of_le h1 hS.1) z))]; exact hS.2.1 q h1 h2, fun q hq => by
      rcases List.mem_append.mp hq with h | h
      · exact hS.2.2 q h
      · exact hf _ (hL q h)⟩⟩
theorem vx_calli {S SX : Type} {post : Int32 → S → Prop} {px : SX → Prop} {B : S → State → Prop} {BX : String → SX → State → Prop} {AX : Nat → Prop} (hr : vx_Run p l e R s m args below meth c H locs cells slots mc ms (F0 m pc ls st0) rest (va_Qi post B A1 a) (vx_X px BX AX) free) (hS : va_S A0 H0 H locs) (hA : ∀ q, q < H.size → A1 q → A0 q) (hf : ∀ q, free q → A0 q) (hAX : ∀ q, q < H.size → AX q → A0 q)
    (kx : ∀ (E : String) (ce : Cell) (q9 : Addr) (u : SX) (t : State) (H1 : Heap) (locs1 : List Loc), t.heap = H1 → s.vm.Alike t.vm → px u → BX E u t → H.size ≤ H1.size → (∀ q : Nat, q < H.size → ¬ AX q → H1[q]? = H[q]?) → va_S A0 H0 H1 locs1 → H1[q9]? = some ce → ce.vm = .none → s.vm.findClass E = some ce.cls → vx_W p l e R s m args below meth c H1 locs1 (cells + mc) (slots + ms) Q (F0 m pc ls rest) q9)
    (kk : ∀ (r : Int32) (u : S) (t : State) (H1 : Heap) (locs1 : List Loc), t.heap = H1 → s.vm.Alike t.vm → post r u → B u t → H.size ≤ H1.size → (∀ q : Nat, q < H.size → ¬ A1 q → H1[q]? = H[q]?) → va_S A0 H0 H1 locs1 → W p l e R s m args below meth c H1 locs1 (cells + mc) (slots + ms) Q (F0 m (pc + 3) ls (.int r :: rest))) : W p l e R s m args below meth c H locs cells slots Q (F0 m pc ls st0) := by
  intro T hT X
  rcases hr T hT X with ⟨v, st₀, t, T', L, h0, X', hL, e1, e2, ⟨⟨r, u, hv, hp, hb⟩, hF⟩, st⟩ | ⟨q, st₀, t, T', L, E, ce, h0, X', hL, e1, e2, ⟨u, hp, hb, hF⟩, hce, hcv, hcl, st⟩
  · cases hv
    obtain ⟨k1, k2, k3⟩ := vx_keep h0 e1 hS hA hf hL hF
    obtain ⟨t2, a1, b1⟩ := kk r u t T'.heap (locs ++ L) e1.symm (by rw [← e2]; exact X'.warmed.alike) hp hb k1 k2 k3 T' rfl X'
    exact ⟨t2, st t2 a1, b1⟩
  · obtain ⟨k1, k2, k3⟩ := vx_keep h0 e1 hS hAX hf hL hF
    obtain ⟨t2, a1, b1⟩ := kx E ce q u t T'.heap (locs ++ L) e1.symm (by rw [← e2]; exact X'.warmed.alike) hp hb k1 k2 k3 (by rw [e1]; exact hce) hcv hcl T' rfl X'
    exact ⟨t2, st.trans a1, b1⟩
theorem vx_calll {S SX : Type} {post : Int64 → S → Prop} {px : SX → Prop} {B : S → State → Prop} {BX : String → SX → State → Prop} {AX : Nat → Prop} (hr : vx_Run p l e R s m args below meth c H locs cells slots mc ms (F0 m pc ls st0) rest (va_Ql post B A1 a) (vx_X px BX AX) free) (hS : va_S A0 H0 H locs) (hA : ∀ q, q < H.size → A1 q → A0 q) (hf : ∀ q, free q → A0 q) (hAX : ∀ q, q < H.size → AX q → A0 q)
    (kx : ∀ (E : String) (ce : Cell) (q9 : Addr) (u : SX) (t : State) (H1 : Heap) (locs1 : List Loc), t.heap = H1 → s.vm.Alike t.vm → px u → BX E u t → H.size ≤ H1.size → (∀ q : Nat, q < H.size → ¬ AX q → H1[q]? = H[q]?) → va_S A0 H0 H1 locs1 → H1[q9]? = some ce → ce.vm = .none → s.vm.findClass E = some ce.cls → vx_W p l e R s m args below meth c H1 locs1 (cells + mc) (slots + ms) Q (F0 m pc ls rest) q9)
    (kk : ∀ (r : Int64) (u : S) (t : State) (H1 : Heap) (locs1 : List Loc), t.heap = H1 → s.vm.Alike t.vm → post r u → B u t → H.size ≤ H1.size → (∀ q : Nat, q < H.size → ¬ A1 q → H1[q]? = H[q]?) → va_S A0 H0 H1 locs1 → W p l e R s m args below meth c H1 locs1 (cells + mc) (slots + ms) Q (F0 m (pc + 3) ls (.long r :: rest))) : W p l e R s m args below meth c H locs cells slots Q (F0 m pc ls st0) := by
  intro T hT X
  rcases hr T hT X with ⟨v, st₀, t, T', L, h0, X', hL, e1, e2, ⟨⟨r, u, hv, hp, hb⟩, hF⟩, st⟩ | ⟨q, st₀, t, T', L, E, ce, h0, X', hL, e1, e2, ⟨u, hp, hb, hF⟩, hce, hcv, hcl, st⟩
  · cases hv
    obtain ⟨k1, k2, k3⟩ := vx_keep h0 e1 hS hA hf hL hF
    obtain ⟨t2, a1, b1⟩ := kk r u t T'.heap (locs ++ L) e1.symm (by rw [← e2]; exact X'.warmed.alike) hp hb k1 k2 k3 T' rfl X'
    exact ⟨t2, st t2 a1, b1⟩
  · obtain ⟨k1, k2, k3⟩ := vx_keep h0 e1 hS hAX hf hL hF
    obtain ⟨t2, a1, b1⟩ := kx E ce q u t T'.heap (locs ++ L) e1.symm (by rw [← e2]; exact X'.warmed.alike) hp hb k1 k2 k3 (by rw [e1]; exact hce) hcv hcl T' rfl X'
    exact ⟨t2, st.trans a1, b1⟩
theorem vx_callf {S SX : Type} {post : UInt32 → S → Prop} {px : SX → Prop} {B : S → State → Prop} {BX : String → SX → State → Prop} {AX : Nat → Prop} (hr : vx_Run p l e R s m args below meth c H locs cells slots mc ms (F0 m pc ls st0) rest (va_Qf post B A1 a) (vx_X px BX AX) free) (hS : va_S A0 H0 H locs) (hA : ∀ q, q < H.size → A1 q → A0 q) (hf : ∀ q, free q → A0 q) (hAX : ∀ q, q < H.size → AX q → A0 q)
    (kx : ∀ (E : String) (ce : Cell) (q9 : Addr) (u : SX) (t : State) (H1 : Heap) (locs1 : List Loc), t.heap = H1 → s.vm.Alike t.vm → px u → BX E u t → H.size ≤ H1.size → (∀ q : Nat, q < H.size → ¬ AX q → H1[q]? = H[q]?) → va_S A0 H0 H1 locs1 → H1[q9]? = some ce → ce.vm = .none → s.vm.findClass E = some ce.cls → vx_W p l e R s m args below meth c H1 locs1 (cells + mc) (slots + ms) Q (F0 m pc ls rest) q9)
    (kk : ∀ (r : UInt32) (u : S) (t : State) (H1 : Heap) (locs1 : List Loc), t.heap = H1 → s.vm.Alike t.vm → post r u → B u t → H.size ≤ H1.size → (∀ q : Nat, q < H.size → ¬ A1 q → H1[q]? = H[q]?) → va_S A0 H0 H1 locs1 → W p l e R s m args below meth c H1 locs1 (cells + mc) (slots + ms) Q (F0 m (pc + 3) ls (.float r :: rest))) : W p l e R s m args below meth c H locs cells slots Q (F0 m pc ls st0) := by
  intro T hT X
  rcases hr T hT X with ⟨v, st₀, t, T', L, h0, X', hL, e1, e2, ⟨⟨r, u, hv, hp, hb⟩, hF⟩, st⟩ | ⟨q, st₀, t, T', L, E, ce, h0, X', hL, e1, e2, ⟨u, hp, hb, hF⟩, hce, hcv, hcl, st⟩
  · cases hv
    obtain ⟨k1, k2, k3⟩ := vx_keep h0 e1 hS hA hf hL hF
    obtain ⟨t2, a1, b1⟩ := kk r u t T'.heap (locs ++ L) e1.symm (by rw [← e2]; exact X'.warmed.alike) hp hb k1 k2 k3 T' rfl X'
    exact ⟨t2, st t2 a1, b1⟩
  · obtain ⟨k1, k2, k3⟩ := vx_keep h0 e1 hS hAX hf hL hF
    obtain ⟨t2, a1, b1⟩ := kx E ce q u t T'.heap (locs ++ L) e1.symm (by rw [← e2]; exact X'.warmed.alike) hp hb k1 k2 k3 (by rw [e1]; exact hce) hcv hcl T' rfl X'
    exact ⟨t2, st.trans a1, b1⟩
theorem vx_calld {S SX : Type} {post : UInt64 → S → Prop} {px : SX → Prop} {B : S → State → Prop} {BX : String → SX → State → Prop} {AX : Nat → Prop} (hr : vx_Run p l e R s m args below meth c H locs cells slots mc ms (F0 m pc ls st0) rest (va_Qd post B A1 a) (vx_X px BX AX) free) (hS : va_S A0 H0 H locs) (hA : ∀ q, q < H.size → A1 q → A0 q) (hf : ∀ q, free q → A0 q) (hAX : ∀ q, q < H.size → AX q → A0 q)
    (kx : ∀ (E : String) (ce : Cell) (q9 : Addr) (u : SX) (t : State) (H1 : Heap) (locs1 : List Loc), t.heap = H1 → s.vm.Alike t.vm → px u → BX E u t → H.size ≤ H1.size → (∀ q : Nat, q < H.size → ¬ AX q → H1[q]? = H[q]?) → va_S A0 H0 H1 locs1 → H1[q9]? = some ce → ce.vm = .none → s.vm.findClass E = some ce.cls → vx_W p l e R s m args below meth c H1 locs1 (cells + mc) (slots + ms) Q (F0 m pc ls rest) q9)
    (kk : ∀ (r : UInt64) (u : S) (t : State) (H1 : Heap) (locs1 : List Loc), t.heap = H1 → s.vm.Alike t.vm → post r u → B u t → H.size ≤ H1.size → (∀ q : Nat, q < H.size → ¬ A1 q → H1[q]? = H[q]?) → va_S A0 H0 H1 locs1 → W p l e R s m args below meth c H1 locs1 (cells + mc) (slots + ms) Q (F0 m (pc + 3) ls (.double r :: rest))) : W p l e R s m args below meth c H locs cells slots Q (F0 m pc ls st0) := by
  intro T hT X
  rcases hr T hT X with ⟨v, st₀, t, T', L, h0, X', hL, e1, e2, ⟨⟨r, u, hv, hp, hb⟩, hF⟩, st⟩ | ⟨q, st₀, t, T', L, E, ce, h0, X', hL, e1, e2, ⟨u, hp, hb, hF⟩, hce, hcv, hcl, st⟩
  · cases hv
    obtain ⟨k1, k2, k3⟩ := vx_keep h0 e1 hS hA hf hL hF
    obtain ⟨t2, a1, b1⟩ := kk r u t T'.heap (locs ++ L) e1.symm (by rw [← e2]; exact X'.warmed.alike) hp hb k1 k2 k3 T' rfl X'
    exact ⟨t2, st t2 a1, b1⟩
  · obtain ⟨k1, k2, k3⟩ := vx_keep h0 e1 hS hAX hf hL hF
    obtain ⟨t2, a1, b1⟩ := kx E ce q u t T'.heap (locs ++ L) e1.symm (by rw [← e2]; exact X'.warmed.alike) hp hb k1 k2 k3 (by rw [e1]; exact hce) hcv hcl T' rfl X'
    exact ⟨t2, st.trans a1, b1⟩
theorem vx_callv {S SX : Type} {post : S → Prop} {px : SX → Prop} {B : S → State → Prop} {BX : String → SX → State → Prop} {AX : Nat → Prop} (hr : vx_Run p l e R s m args below meth c H locs cells slots mc ms (F0 m pc ls st0) rest (va_Qv post B A1 a) (vx_X px BX AX) free) (hS : va_S A0 H0 H locs) (hA : ∀ q, q < H.size → A1 q → A0 q) (hf : ∀ q, free q → A0 q) (hAX : ∀ q, q < H.size → AX q → A0 q)
    (kx : ∀ (E : String) (ce : Cell) (q9 : Addr) (u : SX) (t : State) (H1 : Heap) (locs1 : List Loc), t.heap = H1 → s.vm.Alike t.vm → px u → BX E u t → H.size ≤ H1.size → (∀ q : Nat, q < H.size → ¬ AX q → H1[q]? = H[q]?) → va_S A0 H0 H1 locs1 → H1[q9]? = some ce → ce.vm = .none → s.vm.findClass E = some ce.cls → vx_W p l e R s m args below meth c H1 locs1 (cells + mc) (slots + ms) Q (F0 m pc ls rest) q9)
    (kk : ∀ (u : S) (t : State) (H1 : Heap) (locs1 : List Loc), t.heap = H1 → s.vm.Alike t.vm → post u → B u t → H.size ≤ H1.size → (∀ q : Nat, q < H.size → ¬ A1 q → H1[q]? = H[q]?) → va_S A0 H0 H1 locs1 → W p l e R s m args below meth c H1 locs1 (cells + mc) (slots + ms) Q (F0 m (pc + 3) ls (rest))) : W p l e R s m args below meth c H locs cells slots Q (F0 m pc ls st0) := by
  intro T hT X
  rcases hr T hT X with ⟨v, st₀, t, T', L, h0, X', hL, e1, e2, ⟨⟨u, hv, hp, hb⟩, hF⟩, st⟩ | ⟨q, st₀, t, T', L, E, ce, h0, X', hL, e1, e2, ⟨u, hp, hb, hF⟩, hce, hcv, hcl, st⟩
  · cases hv
    obtain ⟨k1, k2, k3⟩ := vx_keep h0 e1 hS hA hf hL hF
    obtain ⟨t2, a1, b1⟩ := kk u t T'.heap (locs ++ L) e1.symm (by rw [← e2]; exact X'.warmed.alike) hp hb k1 k2 k3 T' rfl X'
    exact ⟨t2, st t2 a1, b1⟩
  · obtain ⟨k1, k2, k3⟩ := vx_keep h0 e1 hS hAX hf hL hF
    obtain ⟨t2, a1, b1⟩ := kx E ce q u t T'.heap (locs ++ L) e1.symm (by rw [← e2]; exact X'.warmed.alike) hp hb k1 k2 k3 (by rw [e1]; exact hce) hcv hcl T' rfl X'
    exact ⟨t2, st.trans a1, b1⟩
/-- caught by the row x of this method's table; the rows ahead don't take it -/
theorem vx_catch {own name : String} {E : String} {ce : Cell} {q : Addr} (hown : s.vm.findClass own = some m.cls) (pre : List ExceptionTableEntry) (x : ExceptionTableEntry) (suf : List ExceptionTableEntry) (hsplit : c.exceptionTable.toList = pre ++ x :: suf)
    (hpass : ∀ z ∈ pre, covers z pc = false ∨ (z.catchType ≠ 0 ∧ ∃ nm : String, (Cond.classLink own z.catchType nm).before args s = true ∧ va_Nc E nm s)) (hx : covers x pc = true) (h0 : x.catchType ≠ 0)
    (hlink : (Cond.classLink own x.catchType name).before args s = true) (hcast : (Cond.castable E name).before args s = true) (hcell : H[q]? = some ce) (hv : ce.vm = .none) (hcl : s.vm.findClass E = some ce.cls)
    (kk : W p l e R s m args below meth c H locs cells slots Q (F0 m x.handlerPc ls [.ref q])) : vx_W p l e R s m args below meth c H locs cells slots Q (F0 m pc ls rest) q := by
  intro T hT X
  have hpl : e.platform.magicAccessors = ({} : Platform).magicAccessors := by rw [X.admits.platform]
  obtain ⟨c3, c4, hc3, hc4, hasg⟩ := Cond.castable_spec hcast
  cases Option.some.inj (hc3.symm.trans hcl)
  obtain ⟨c5, hc5, hcl5⟩ := Cond.classLink_spec hown hlink e.platform hpl
  cases Option.some.inj (hc4.symm.trans hc5)
  obtain ⟨vm', X', st⟩ := X.thenCaughtThrough q (g := F0 m pc ls rest) rfl (Steps.refl _) (by rw [hT]; exact hcell) (by rw [hv]; rfl) (by obtain ⟨k9, h9, -⟩ := Vm.findClass_spec hcl; exact ⟨k9, h9⟩) pre x suf hsplit
    (fun z hz => by
      rcases hpass z hz with h | ⟨hz0, nm, hl1, hn1⟩
      · exact Or.inl h
      · obtain ⟨c6, hc6, hcl6⟩ := Cond.classLink_spec hown hl1 e.platform hpl
        obtain ⟨a8, b8, h1, h2, h3⟩ := hn1
        cases Option.some.inj (h1.symm.trans hcl)
        cases Option.some.inj (h2.symm.trans hc6)
        exact Or.inr ⟨hz0, _, hcl6, h3⟩) hx (Or.inr ⟨h0, c4, hcl5, hasg⟩)
  obtain ⟨t, a1, b1⟩ := kk (T.setVm vm') hT X'
  exact ⟨t, st.trans a1, b1⟩
end Rows
section Ends
variable {p : Program} {l : Launch} {e : Env} {R : Room} {s : State} {m : MethodId} {args : Array Value} {below : List Frame} {meth : Method} {c : Code} {H : Heap} {locs : List Loc} {cells slots : Nat} {Q : State → Prop}
variable {mc ms : Nat} {free : Addr → Prop} {A0 A1 : Nat → Prop} {H0 : Heap} {a : Array Value} {ls : Array Slot} {st0 rest : List Value}
variable {Qc : Array Value → State → Outcome → State → Prop} {XC : String → State → State → Prop}
/-- what a body that may throw owes at its end -/
def vx_MQ (below : List Frame) (Qc : Array Value → State → Outcome → State → Prop) (XC : String → State → State → Prop) (a : Array Value) (s : State) (mc ms : Nat) (free : Addr → Prop) : State → Prop := fun t =>
  ∃ o, t.status = .running ∧ Ended t below o ∧ vx_Q Qc XC mc ms free a s o t
theorem vx_ret {g : JFrame} {mc ms : Nat} (k : W p l e R s m args below meth c H locs cells slots (MQ below Qc args s mc ms free) g) : W p l e R s m args below meth c H locs cells slots (vx_MQ below Qc XC args s mc ms free) g := by
  intro T hT X
  obtain ⟨t, a1, o, b1, b2, b3, b4⟩ := k T hT X
  exact ⟨t, a1, o, b1, b2, Or.inl ⟨b3, b4⟩⟩
/-- not caught here: it goes on to the caller -/
theorem vx_widen {g : JFrame} {q : Addr} {k n : Nat} (h1 : cells ≤ k) (h2 : slots ≤ n) (kk : vx_W p l e R s m args below meth c H locs k n Q g q) : vx_W p l e R s m args below meth c H locs cells slots Q g q := fun T hT X => kk T hT (stand_widen X h1 h2)
theorem vx_out {pc : Nat} {E : String} {ce : Cell} {q : Addr} {mc ms : Nat} (hout : ∀ x ∈ c.exceptionTable.toList, covers x pc = false) (hlocks : meth.locks = false) (hcell : H[q]? = some ce) (hv : ce.vm = .none) (hcl : s.vm.findClass E = some ce.cls)
    (hx : ∀ t : State, t.heap = H → s.vm.Alike t.vm → XC E s t) (hf : ∀ z ∈ locs, free z.base) (hc : cells ≤ mc) (hs : slots ≤ ms) :
    vx_W p l e R s m args below meth c H locs cells slots (vx_MQ below Qc XC args s mc ms free) (F0 m pc ls rest) q := by
  intro T hT X
  obtain ⟨st1, hrun, hend, hW, hsm⟩ := X.leaveThrown q (g := F0 m pc ls rest) rfl rfl rfl hout hlocks
  have hcell9 : (T.setFrames (.throwing q :: below)).heap[q]? = some ce := by
    show T.heap[q]? = some ce
    rw [hT]; exact hcell
  exact ⟨_, st1, .threw q, hrun, hend, Or.inr ⟨q, rfl, E, ce, locs, hx _ hT hW.alike, hcell9, hv, hcl, hW, hsm.mono hc hs, hf⟩⟩
theorem vx_frame {U : State} {k n : Nat} (h : s.sameButNew ({ U with vm := s.vm } : State) locs k n) : s.heap.size ≤ U.heap.size ∧ ∀ q : Nat, q < s.heap.size → (∀ z ∈ locs, z.base ≠ q) → U.heap[q]? = s.heap[q]? := by
  obtain ⟨-, h2, -, -, -, h6⟩ := h
  refine ⟨h2, fun q hq hz => ?_⟩
  obtain ⟨c9, e1, e2, e3, e4⟩ := h6 q _ (Array.getElem?_eq_getElem hq)
  have hs : c9.slots = (s.heap[q]).slots := Array.ext_getElem? fun i => e4 i fun hm => hz _ hm rfl
  have h9 : c9 = s.heap[q] := by
    rw [hs] at e2
    exact e2
  have e5 : U.heap[q]? = some c9 := e1
  rw [e5, h9, Array.getElem?_eq_getElem hq]
/-- the words of a throw but the four that speak of the heap -/
def vx_no (w : Cond) : Bool := decide (w ≠ .isRef (.static Bundle.tN "UNASSIGNED_STACK" Bundle.steD)) && decide (w ≠ .isRef (.static Bundle.tN "SUPPRESSED_SENTINEL" Bundle.listD)) && decide (w ≠ .laysStatic Bundle.tN "UNASSIGNED_STACK" Bundle.steD) && decide (w ≠ .laysStatic Bundle.tN "SUPPRESSED_SENTINEL" Bundle.listD)
def vx_at0 (own : String) (ic : Nat) (X : String) (names : List String) : List Cond := (Bundle.ownAtoms0 own ic X names).filter vx_no
def vx_atS (own : String) (ic : Nat) (X : String) (names : List String) : List Cond := (Bundle.ownAtoms own ic X names).filter vx_no
/-- a word that the tables alone decide, or a good one -/
def vx_ot (w : Cond) : Bool := w.onTables || goodWord w
theorem vx_ot_at {args a' : Array Value} {s U : State} {w : Cond} (hW : s.WarmedH U.vm) (hvm : s.vm = U.vm) (hg : vx_ot w = true) (h : w.before args s = true) : w.before a' U = true := by
  simp only [vx_ot, Bool.or_eq_true] at hg
  rcases hg with hg | hg
  · exact va_tabs hg hvm h
  · exact word_at hW (good_of_word hg) h
/-- a list's words: the good ones out of the method's own list, the others by premises of their own -/
theorem vx_hat {args : Array Value} {s : State} {L B : List Cond} (h1 : ∀ w ∈ L.filter goodWord, w.before args s = true) (h2 : ∀ w ∈ L.filter (fun w => !goodWord w), w ∈ B) (h3 : ∀ w ∈ B, w.before args s = true) : ∀ w ∈ L, w.before args s = true := by
  intro w hw
  by_cases g : goodWord w = true
  · exact h1 w (List.mem_filter.mpr ⟨hw, g⟩)
  · refine h3 w (h2 w (List.mem_filter.mpr ⟨hw, ?_⟩))
    show (!goodWord w) = true
    cases hgw : goodWord w
    · rfl
    · exact absurd hgw g
theorem vx_c {args : Array Value} {s : State} {w : Cond} {B : List Cond} (h : w.before args s = true) (t : ∀ w ∈ B, w.before args s = true) : ∀ w' ∈ w :: B, w'.before args s = true := fun w' h' => (List.mem_cons.mp h').elim (fun e => by rw [e]; exact h) (t w')
theorem vx_n {args : Array Value} {s : State} : ∀ w ∈ ([] : List Cond), w.before args s = true := fun _ h => nomatch h
theorem vx_own {args : Array Value} {s : State} {L : List Cond} (h1 : ∀ w ∈ L.filter vx_no, w.before args s = true)
    (hU : (Cond.isRef (.static Bundle.tN "UNASSIGNED_STACK" Bundle.steD)).before args s = true) (hN : (Cond.isRef (.static Bundle.tN "SUPPRESSED_SENTINEL" Bundle.listD)).before args s = true)
    (lU : (Cond.laysStatic Bundle.tN "UNASSIGNED_STACK" Bundle.steD).before args s = true) (lN : (Cond.laysStatic Bundle.tN "SUPPRESSED_SENTINEL" Bundle.listD).before args s = true) : ∀ w ∈ L, w.before args s = true := by
  intro w hw
  by_cases e1 : w = .isRef (.static Bundle.tN "UNASSIGNED_STACK" Bundle.steD)
  · rw [e1]; exact hU
  · by_cases e2 : w = .isRef (.static Bundle.tN "SUPPRESSED_SENTINEL" Bundle.listD)
    · rw [e2]; exact hN
    · by_cases e3 : w = .laysStatic Bundle.tN "UNASSIGNED_STACK" Bundle.steD
      · rw [e3]; exact lU
      · by_cases e4 : w = .laysStatic Bundle.tN "SUPPRESSED_SENTINEL" Bundle.listD
        · rw [e4]; exact lN
        · exact h1 w (List.mem_filter.mpr ⟨hw, by unfold vx_no; rw [decide_eq_true e1, decide_eq_true e2, decide_eq_true e3, decide_eq_true e4]; rfl⟩)
/-- where a static field lies, its class's statics cell in H -/
def vx_L (C n d : String) (A : Nat → Prop) (U : State) (H : Heap) : Prop := ∃ (c : ClassId) (k : Class) (i : Nat) (f : Field) (a : Nat) (cell : Cell), U.vm.findClass C = some c ∧ U.fieldFound? C n d = some (c, k, i, f) ∧ f.isStatic = true ∧ k.statics = some a ∧ H[a]? = some cell ∧ cell.vm.isStatics = true ∧ cell.cls = c ∧ f.slot < cell.slots.size ∧ k.staticTypes[f.slot]? = some f.type ∧ ¬ A a
theorem vx_L.moved {C n d : String} {A : Nat → Prop} {u U : State} {H : Heap} (hvm : u.vm.Alike U.vm) (h : vx_L C n d A u H) : vx_L C n d A U H := by
  obtain ⟨c, k, i, f, a, cell, h1, h2, h3, h4, h5, h6, h7, h8, h9, h10⟩ := h
  obtain ⟨k', hi', he⟩ := State.fieldFound?_setVm hvm h2
  exact ⟨c, k', i, f, a, cell, by rw [hvm.findClass]; exact h1, hi', h3, by rw [he]; exact h4, h5, h6, h7, h8, by rw [he]; exact h9, h10⟩
theorem vx_L.kept {C n d : String} {A : Nat → Prop} {U : State} {H H1 : Heap} (h : vx_L C n d A U H) (hq : ∀ a : Nat, a < H.size → ¬ A a → H1[a]? = H[a]?) : vx_L C n d A U H1 := by
  obtain ⟨c, k, i, f, a, cell, h1, h2, h3, h4, h5, h6, h7, h8, h9, h10⟩ := h
  exact ⟨c, k, i, f, a, cell, h1, h2, h3, h4, by rw [hq a (Array.getElem?_eq_some_iff.mp h5).1 h10]; exact h5, h6, h7, h8, h9, h10⟩
theorem vx_L.narrow {C n d : String} {A B : Nat → Prop} {U : State} {H : Heap} (h : vx_L C n d A U H) (hAB : ∀ q, B q → A q) : vx_L C n d B U H := by
  obtain ⟨c, k, i, f, a, cell, h1, h2, h3, h4, h5, h6, h7, h8, h9, h10⟩ := h
  exact ⟨c, k, i, f, a, cell, h1, h2, h3, h4, h5, h6, h7, h8, h9, fun z => h10 (hAB _ z)⟩
theorem vx_L.word {C n d : String} {A : Nat → Prop} {s : State} {args : Array Value} (h : vx_L C n d A s s.heap) : (Cond.laysStatic C n d).before args s = true := by
  obtain ⟨c, k, i, f, a, cell, h1, h2, h3, h4, h5, h6, h7, h8, h9, -⟩ := h
  show (Cond.laysStatic C n d).holds args s none s [] = true
  exact Cond.laysStatic_of h1 h2 h3 h4 h5 h6 h7 h8 h9
/-- .. and what it holds: null or some reference -/
def vx_Zq (C n d : String) (A : Nat → Prop) (U : State) (H : Heap) : Prop := va_Zq C n d A U H ∧ vx_L C n d A U H
theorem vx_Zq.moved {C n d : String} {A : Nat → Prop} {u U : State} {H : Heap} (hvm : u.vm.Alike U.vm) (h : vx_Zq C n d A u H) : vx_Zq C n d A U H := ⟨va_Zq.moved hvm h.1, vx_L.moved hvm h.2⟩
theorem vx_Zq.kept {C n d : String} {A : Nat → Prop} {U : State} {H H1 : Heap} (h : vx_Zq C n d A U H) (hq : ∀ a : Nat, a < H.size → ¬ A a → H1[a]? = H[a]?) : vx_Zq C n d A U H1 := ⟨va_Zq.kept h.1 hq, vx_L.kept h.2 hq⟩
theorem vx_Zq.narrow {C n d : String} {A B : Nat → Prop} {U : State} {H : Heap} (h : vx_Zq C n d A U H) (hAB : ∀ q, B q → A q) : vx_Zq C n d B U H := ⟨va_Zq.narrow h.1 hAB, vx_L.narrow h.2 hAB⟩
theorem vx_Zqof {args : Array Value} {s : State} {C n d : String} {A : Nat → Prop} (hl : (Cond.laysStatic C n d).before args s = true) (hini : (Cond.initialized C).before args s = true) (h : (Cond.isRef (.static C n d)).before args s = true) (hA : ∀ a : Nat, a < s.heap.size → ¬ A a) : vx_Zq C n d A s s.heap := by
  refine ⟨va_Zqof hl hini h hA, ?_⟩
  obtain ⟨c, k, i, f, a, cell, h1, h2, h3, h4, h5, h6, h7, h8, h9⟩ := Cond.laysStatic_spec hl
  exact ⟨c, k, i, f, a, cell, h1, h2, h3, h4, h5, h6, h7, h8, h9, hA a (Array.getElem?_eq_some_iff.mp h5).1⟩
theorem vx_isRef {C n d : String} {v : Value} {A : Nat → Prop} {s : State} {args : Array Value} (h : va_Z C n d v A s s.heap) (hv : v.isRef = true) : (Cond.isRef (.static C n d)).before args s = true := by
  obtain ⟨cf, kf, fi, f, a, cell, h1, h2, h3, h4, h5, h6, h7, -⟩ := h
  have he : (Term.static C n d).eval args s none [] s = some v := by
    simp [Term.eval, State.fieldNamed?, h1, h2, h4, h5, h6, h7]
  simp only [Cond.before, Cond.holds, Cond.value, he]
  cases v <;> simp_all [Value.isRef]
theorem vx_isRefq {C n d : String} {A : Nat → Prop} {s : State} {args : Array Value} (h : va_Zq C n d A s s.heap) : (Cond.isRef (.static C n d)).before args s = true := by
  rcases h with h | ⟨t, h⟩
  · exact vx_isRef h rfl
  · exact vx_isRef h rfl
/-- the same frame, seen from here: as if the method were called anew in this heap -/
theorem vx_rebase {T : State} (X : Stand p l e R s m args below meth c T locs cells slots) {R' : Room} (hf : R'.frames ≤ R.frames) (hl : R'.locals ≤ R.locals) (hc : cells + R'.cells ≤ R.cells) (hs : slots + R'.slots ≤ R.slots) :
    Stand p l e R' ((T.setVm s.vm).setFrames (.invoking m args :: below)) m args below meth c T [] 0 0 := by
  have htop : (T.setVm s.vm).topJava?.isSome := X.here.top
  have hF : ((T.setVm s.vm).setFrames (.invoking m args :: below)).frames = .invoking m args :: below := State.frames_setFrames _ (State.cur_lt_of_top htop)
  obtain ⟨g₀, hg0⟩ := Option.isSome_iff_exists.mp htop
  obtain ⟨r, hr⟩ := State.topJava?_eq_some.mp hg0
  have hl9 : e.platform.stackLimits (T.setVm s.vm).me = e.platform.stackLimits s.me := X.limits
  have hb9 : (T.setVm s.vm).me.stackBytes = s.me.stackBytes := X.bytes
  refine ⟨X.admits, X.cas, X.clock, hF, ?_, X.hears, X.method, X.code, X.here, X.tail, X.warmed, ?_, ?_, ?_⟩
  · have h := X.room
    have hU : ((T.setVm s.vm).setFrames (.invoking m args :: below)).localsInUse = s.localsInUse := by
      rw [State.localsInUse_invoking hF (meth := meth) (c := c) X.method X.code, State.localsInUse_invoking X.frames X.method X.code]
    simp only [State.hasRoom, Bool.and_eq_true, decide_eq_true_eq] at h ⊢
    obtain ⟨⟨⟨⟨h1, h2, h3, h4, h5, h6⟩, h7⟩, h8⟩, h9⟩ := h
    rw [X.frames, List.length_cons] at h2 h3
    have q1 := X.heapSize
    have q2 := X.used
    simp only [hF, hU, List.length_cons, State.stackLimits_setFrames, State.stackBytes_setFrames, hl9, hb9]
    refine ⟨⟨⟨⟨by omega, by omega, by omega, by omega, by omega, h6⟩, ?_⟩, ?_⟩, X.book⟩
    · show T.heap.size + R'.cells ≤ e.platform.maxCells
      omega
    · show T.slotsUsed + R'.slots ≤ e.platform.maxSlots
      omega
  · rw [State.stackLimits_setFrames]; rfl
  · rw [State.stackBytes_setFrames]; rfl
  · refine ⟨?_, Nat.le_refl _, Nat.le_refl _, ?_, ?_, fun a c9 h9 => ⟨c9, h9, rfl, rfl, fun _ _ => rfl⟩⟩
    · obtain ⟨t, ht, -⟩ := State.frames_cons hr
      show T.setVm s.vm = { ((T.setVm s.vm).setFrames (.invoking m args :: below)).setFrames (T.setVm s.vm).frames with heap := T.heap, slotsUsed := T.slotsUsed }
      rw [State.setFrames_setFrames, State.setFrames_self ht]
      rfl
    · show T.slotsUsed = T.slotsUsed + ((T.heap.toList.drop T.heap.size).map (·.slots.size)).sum
      rw [List.drop_eq_nil_of_le (Nat.le_of_eq Array.length_toList)]
      rfl
    · show ((T.heap.toList.drop T.heap.size).map (·.slots.size)).sum ≤ 0
      rw [List.drop_eq_nil_of_le (Nat.le_of_eq Array.length_toList)]
      exact Nat.le_refl _
/-- 'throw new E()': new; dup; invokespecial; athrow -/
theorem vx_throw0 {cc : ByteArray} {pc : Nat} (hexec : p.tables.exec = Jvm.exec) (hb : c.code = cc) (hl : l.stackTraces = false) {own cls : String} {names : List String} {ik ic mc ms : Nat} {A : Nat → Prop}
    (hown : s.vm.findClass own = some m.cls) (hcls : Bundle.fit cls = true) (hnames : ∀ n ∈ names, Bundle.fit n = true)
    (hk : (Cond.classLink own ik cls).before args s = true) (hini : (Cond.initialized cls).before args s = true) (hat : ∀ w ∈ vx_at0 own ic cls names, w.before args s = true)
    (hgood : ∀ w ∈ Cond.classLink own ik cls :: Cond.initialized cls :: vx_at0 own ic cls names, vx_ot w = true)
    (hU : vx_Zq Bundle.tN "UNASSIGNED_STACK" Bundle.steD A s s.heap) (hN : vx_Zq Bundle.tN "SUPPRESSED_SENTINEL" Bundle.listD A s s.heap) (hS : va_S A s.heap H locs) (hsize : ls.size = c.maxLocals)
    (d0 : decode cc pc = .ok (.new ik, 3)) (d3 : decode cc (pc + 3) = .ok (.dup, 1)) (d4 : decode cc (pc + 4) = .ok (.invokespecial ic, 3)) (d7 : decode cc (pc + 7) = .ok (.athrow, 1))
    (hout : ∀ x ∈ c.exceptionTable.toList, covers x (pc + 7) = false)
    (hRframes : names.length + 3 < R.frames) (hRlocals : (rest.map fun v => v.category).sum + (13 * (names.length + 1) + 42) ≤ R.locals) (hRcells : cells + 1 ≤ R.cells) (hRslots : slots + 6 ≤ R.slots) (hlocks : meth.locks = false)
    (hx : ∀ t : State, s.vm.Alike t.vm → H.size ≤ t.heap.size → (∀ q : Nat, q < H.size → t.heap[q]? = H[q]?) → XC cls s t)
    (hf : ∀ z ∈ locs, free z.base) (hc : cells + 1 ≤ mc) (hs : slots + 6 ≤ ms) :
    W p l e R s m args below meth c H locs cells slots (vx_MQ below Qc XC args s mc ms free) (F0 m pc ls rest) := by
  intro T hT X
  have htr : e.platform.stackTraces = false := (show e.platform.stackTraces = l.stackTraces by rw [X.admits.platform]).trans hl
  have Y := vx_rebase X (R' := { frames := R.frames, locals := R.locals, cells := 1, slots := 6 }) (Nat.le_refl _) (Nat.le_refl _) hRcells hRslots
  obtain ⟨s', hA⟩ : ∃ z, z = (T.setVm s.vm).setFrames (.invoking m args :: below) := ⟨_, rfl⟩
  rw [← hA] at Y
  have hvm : s'.vm = s.vm := by rw [hA]; rfl
  have hhp : s'.heap = H := by rw [hA]; exact hT
  have hW0 : s.WarmedH s'.vm := by rw [hvm]; exact State.WarmedH.refl s
  have hat' : ∀ w ∈ vx_at0 own ic cls names, w.before args s' = true := fun w hw => vx_ot_at hW0 hvm.symm (hgood w (List.mem_cons_of_mem _ (List.mem_cons_of_mem _ hw))) (hat w hw)
  have hk' : (Cond.classLink own ik cls).before args s' = true := vx_ot_at hW0 hvm.symm (hgood _ List.mem_cons_self) hk
  have hini' : (Cond.initialized cls).before args s' = true := vx_ot_at hW0 hvm.symm (hgood _ (List.mem_cons_of_mem _ List.mem_cons_self)) hini
  have hU' : vx_Zq Bundle.tN "UNASSIGNED_STACK" Bundle.steD A s' s'.heap := by rw [hhp]; exact vx_Zq.moved hW0.alike (hU.kept hS.2.1)
  have hN' : vx_Zq Bundle.tN "SUPPRESSED_SENTINEL" Bundle.listD A s' s'.heap := by rw [hhp]; exact vx_Zq.moved hW0.alike (hN.kept hS.2.1)
  have h : ∀ w ∈ Bundle.ownAtoms0 own ic cls names, w.before args s' = true := vx_own hat' (vx_isRefq hU'.1) (vx_isRefq hN'.1) hU'.2.word hN'.2.word
  have hown' : s'.vm.findClass own = some m.cls := by rw [hvm]; exact hown
  have hins : (Cond.instantiable cls 6).before args s' = true := h _ (by simp [Bundle.ownAtoms0])
  obtain ⟨vm₁, cX, kX, hfX, hkX, -, -, X₁, st1⟩ := Y.newCold hexec (own := own) (C := cls) (index := ik) (n := 6) hown' hk' hins hini'
    (g := F0 m pc ls rest) rfl (by rw [hb]; exact d0) (Nat.le_refl _) (Nat.le_refl _)
  generalize hT1 : (T.setVm vm₁).pushCell { cls := cX, slots := kX.instanceTypes.map defaultValue, vm := .none } = T1 at X₁ st1
  have hcat : (Value.ref T.heap.size).category = 1 := rfl
  have hcellA : T1.heap[T.heap.size]? = some (freshCell cX kX) := by rw [← hT1]; exact State.heap_pushCell_size _ _
  have d3' : decode c.code (pc + 3) = .ok (.dup, 1) := by rw [hb]; exact d3
  obtain ⟨U, hsteps, hrun, hend, hW, hsame, ce, hce, hO⟩ := X₁.ctorThrow0 hexec htr (own := own) (cls := cls) (names := names) (ic := ic) hown' hcls hnames h (fun x hx => nomatch hx) hfX hkX hcellA (by rw [hhp, hT]; exact Nat.le_refl _)
    (g := { method := m, pc := pc + 4, locals := ls, stack := .ref T.heap.size :: .ref T.heap.size :: rest, locked := none }) rfl hsize rfl rfl (rest := rest) rfl
    (by rw [hb]; exact d4) (by rw [hb]; exact d7) hout hRframes (by simp only [List.map_cons, List.sum_cons, hcat]; omega) hlocks
  obtain ⟨f1, f2⟩ := vx_frame hsame
  rw [hhp] at f1 f2
  have hWs : s.WarmedH U.vm := State.WarmedH.trans hW0 hW
  have hcl : s.vm.findClass cls = some ce.cls := by
    have h9 := hO.cls
    rw [hvm] at h9
    exact h9
  have hall : s.sameButNew ({ U with vm := s.vm } : State) locs mc ms := by
    subst hA
    obtain ⟨e1, e2⟩ := hsame
    rw [State.setFrames_setFrames] at e1
    have h2 : (T.setVm s.vm).sameButNew ({ U with vm := s.vm } : State) [] (0 + 1) (0 + 6) := ⟨e1, e2⟩
    have h3 := X.same.trans h2
    rw [List.append_nil] at h3
    exact h3.mono hc hs
  refine ⟨U, ?_, .threw T.heap.size, hrun, hend, Or.inr ⟨T.heap.size, rfl, cls, ce, locs, hx U hWs.alike f1 (fun q hq => f2 q hq (fun z hz => nomatch hz)), hce, hO.vm, hcl, hWs, hall, hf⟩⟩
  refine st1 _ ?_
  show Steps p.tables e below (T1.setTop { method := m, pc := pc + 3, locals := ls, stack := .ref T.heap.size :: rest, locked := none }) _
  jvm_step X₁.here [X₁.here.top, hexec, d3', Value.category]
  exact hsteps
/-- 'throw new E("text")': new; dup; ldc; invokespecial; athrow -/
theorem vx_throwS {cc : ByteArray} {pc : Nat} (hexec : p.tables.exec = Jvm.exec) (hb : c.code = cc) (hl : l.stackTraces = false) {own cls text : String} {names : List String} {ik is ic mc ms sa : Nat} {A : Nat → Prop}
    (hown : s.vm.findClass own = some m.cls) (hcls : Bundle.fit cls = true) (hnames : ∀ n ∈ names, Bundle.fit n = true)
    (hk : (Cond.classLink own ik cls).before args s = true) (hini : (Cond.initialized cls).before args s = true) (hstr : vk_R own is text sa s) (hat : ∀ w ∈ vx_atS own ic cls names, w.before args s = true)
    (hgood : ∀ w ∈ Cond.classLink own ik cls :: Cond.initialized cls :: vx_atS own ic cls names, vx_ot w = true)
    (hU : vx_Zq Bundle.tN "UNASSIGNED_STACK" Bundle.steD A s s.heap) (hN : vx_Zq Bundle.tN "SUPPRESSED_SENTINEL" Bundle.listD A s s.heap) (hS : va_S A s.heap H locs) (hsize : ls.size = c.maxLocals)
    (d0 : decode cc pc = .ok (.new ik, 3)) (d3 : decode cc (pc + 3) = .ok (.dup, 1)) (d4 : decode cc (pc + 4) = .ok (.ldc is, 2)) (d6 : decode cc (pc + 6) = .ok (.invokespecial ic, 3)) (d9 : decode cc (pc + 9) = .ok (.athrow, 1))
    (hout : ∀ x ∈ c.exceptionTable.toList, covers x (pc + 9) = false)
    (hRframes : names.length + 3 < R.frames) (hRlocals : (rest.map fun v => v.category).sum + (13 * (names.length + 1) + 43) ≤ R.locals) (hRcells : cells + 1 ≤ R.cells) (hRslots : slots + 6 ≤ R.slots) (hlocks : meth.locks = false)
    (hx : ∀ t : State, s.vm.Alike t.vm → H.size ≤ t.heap.size → (∀ q : Nat, q < H.size → t.heap[q]? = H[q]?) → XC cls s t)
    (hf : ∀ z ∈ locs, free z.base) (hc : cells + 1 ≤ mc) (hs : slots + 6 ≤ ms) :
    W p l e R s m args below meth c H locs cells slots (vx_MQ below Qc XC args s mc ms free) (F0 m pc ls rest) := by
  intro T hT X
  have htr : e.platform.stackTraces = false := (show e.platform.stackTraces = l.stackTraces by rw [X.admits.platform]).trans hl
  have Y := vx_rebase X (R' := { frames := R.frames, locals := R.locals, cells := 1, slots := 6 }) (Nat.le_refl _) (Nat.le_refl _) hRcells hRslots
  obtain ⟨s', hA⟩ : ∃ z, z = (T.setVm s.vm).setFrames (.invoking m args :: below) := ⟨_, rfl⟩
  rw [← hA] at Y
  have hvm : s'.vm = s.vm := by rw [hA]; rfl
  have hhp : s'.heap = H := by rw [hA]; exact hT
  have hW0 : s.WarmedH s'.vm := by rw [hvm]; exact State.WarmedH.refl s
  have hat' : ∀ w ∈ vx_atS own ic cls names, w.before args s' = true := fun w hw => vx_ot_at hW0 hvm.symm (hgood w (List.mem_cons_of_mem _ (List.mem_cons_of_mem _ hw))) (hat w hw)
  have hk' : (Cond.classLink own ik cls).before args s' = true := vx_ot_at hW0 hvm.symm (hgood _ List.mem_cons_self) hk
  have hini' : (Cond.initialized cls).before args s' = true := vx_ot_at hW0 hvm.symm (hgood _ (List.mem_cons_of_mem _ List.mem_cons_self)) hini
  have hU' : vx_Zq Bundle.tN "UNASSIGNED_STACK" Bundle.steD A s' s'.heap := by rw [hhp]; exact vx_Zq.moved hW0.alike (hU.kept hS.2.1)
  have hN' : vx_Zq Bundle.tN "SUPPRESSED_SENTINEL" Bundle.listD A s' s'.heap := by rw [hhp]; exact vx_Zq.moved hW0.alike (hN.kept hS.2.1)
  have h : ∀ w ∈ Bundle.ownAtoms own ic cls names, w.before args s' = true := vx_own hat' (vx_isRefq hU'.1) (vx_isRefq hN'.1) hU'.2.word hN'.2.word
  have hown' : s'.vm.findClass own = some m.cls := by rw [hvm]; exact hown
  have hins : (Cond.instantiable cls 6).before args s' = true := h _ (by simp [Bundle.ownAtoms])
  obtain ⟨vm₁, cX, kX, hfX, hkX, -, -, X₁, st1⟩ := Y.newCold hexec (own := own) (C := cls) (index := ik) (n := 6) hown' hk' hins hini'
    (g := F0 m pc ls rest) rfl (by rw [hb]; exact d0) (Nat.le_refl _) (Nat.le_refl _)
  generalize hT1 : (T.setVm vm₁).pushCell { cls := cX, slots := kX.instanceTypes.map defaultValue, vm := .none } = T1 at X₁ st1
  have hcat : (Value.ref T.heap.size).category = 1 := rfl
  have hcellA : T1.heap[T.heap.size]? = some (freshCell cX kX) := by rw [← hT1]; exact State.heap_pushCell_size _ _
  have d3' : decode c.code (pc + 3) = .ok (.dup, 1) := by rw [hb]; exact d3
  have d4' : decode c.code (pc + 4) = .ok (.ldc is, 2) := by rw [hb]; exact d4
  have hstr' : vk_R own is text sa s' := vk_R.warm hW0 hstr
  obtain ⟨U, hsteps, hrun, hend, hW, hsame, ce, hce, hO⟩ := X₁.ctorThrowS hexec htr (own := own) (cls := cls) (names := names) (ic := ic) hown' hcls hnames h (fun x hx => nomatch hx) hfX hkX hcellA (by rw [hhp, hT]; exact Nat.le_refl _) (msg := .ref sa) rfl
    (g := { method := m, pc := pc + 6, locals := ls, stack := .ref sa :: .ref T.heap.size :: .ref T.heap.size :: rest, locked := none }) rfl hsize rfl rfl (rest := rest) rfl
    (by rw [hb]; exact d6) (by rw [hb]; exact d9) hout hRframes (by simp only [List.map_cons, List.sum_cons, hcat]; omega) hlocks
  obtain ⟨f1, f2⟩ := vx_frame hsame
  rw [hhp] at f1 f2
  have hWs : s.WarmedH U.vm := State.WarmedH.trans hW0 hW
  have hcl : s.vm.findClass cls = some ce.cls := by
    have h9 := hO.cls
    rw [hvm] at h9
    exact h9
  have hall : s.sameButNew ({ U with vm := s.vm } : State) locs mc ms := by
    subst hA
    obtain ⟨e1, e2⟩ := hsame
    rw [State.setFrames_setFrames] at e1
    have h2 : (T.setVm s.vm).sameButNew ({ U with vm := s.vm } : State) [] (0 + 1) (0 + 6) := ⟨e1, e2⟩
    have h3 := X.same.trans h2
    rw [List.append_nil] at h3
    exact h3.mono hc hs
  refine ⟨U, ?_, .threw T.heap.size, hrun, hend, Or.inr ⟨T.heap.size, rfl, cls, ce, locs, hx U hWs.alike f1 (fun q hq => f2 q hq (fun z hz => nomatch hz)), hce, hO.vm, hcl, hWs, hall, hf⟩⟩
  refine st1 _ ?_
  show Steps p.tables e below (T1.setTop { method := m, pc := pc + 3, locals := ls, stack := .ref T.heap.size :: rest, locked := none }) _
  jvm_step X₁.here [X₁.here.top, hexec, d3', Value.category]
  exact X₁.ldcString hexec (own := own) (text := text) (index := is) (a := sa) hown' hstr'.1 hstr'.2
    (g := { method := m, pc := pc + 4, locals := ls, stack := .ref T.heap.size :: .ref T.heap.size :: rest, locked := none }) rfl d4' _ hsteps
/-- 'throw new E("text")', the text by a wide index -/
theorem vx_throwSW {cc : ByteArray} {pc : Nat} (hexec : p.tables.exec = Jvm.exec) (hb : c.code = cc) (hl : l.stackTraces = false) {own cls text : String} {names : List String} {ik is ic mc ms sa : Nat} {A : Nat → Prop}
    (hown : s.vm.findClass own = some m.cls) (hcls : Bundle.fit cls = true) (hnames : ∀ n ∈ names, Bundle.fit n = true)
    (hk : (Cond.classLink own ik cls).before args s = true) (hini : (Cond.initialized cls).before args s = true) (hstr : vk_R own is text sa s) (hat : ∀ w ∈ vx_atS own ic cls names, w.before args s = true)
    (hgood : ∀ w ∈ Cond.classLink own ik cls :: Cond.initialized cls :: vx_atS own ic cls names, vx_ot w = true)
    (hU : vx_Zq Bundle.tN "UNASSIGNED_STACK" Bundle.steD A s s.heap) (hN : vx_Zq Bundle.tN "SUPPRESSED_SENTINEL" Bundle.listD A s s.heap) (hS : va_S A s.heap H locs) (hsize : ls.size = c.maxLocals)
    (d0 : decode cc pc = .ok (.new ik, 3)) (d3 : decode cc (pc + 3) = .ok (.dup, 1)) (d4 : decode cc (pc + 4) = .ok (.ldc_w is, 3)) (d7 : decode cc (pc + 7) = .ok (.invokespecial ic, 3)) (d10 : decode cc (pc + 10) = .ok (.athrow, 1))
    (hout : ∀ x ∈ c.exceptionTable.toList, covers x (pc + 10) = false)
    (hRframes : names.length + 3 < R.frames) (hRlocals : (rest.map fun v => v.category).sum + (13 * (names.length + 1) + 43) ≤ R.locals) (hRcells : cells + 1 ≤ R.cells) (hRslots : slots + 6 ≤ R.slots) (hlocks : meth.locks = false)
    (hx : ∀ t : State, s.vm.Alike t.vm → H.size ≤ t.heap.size → (∀ q : Nat, q < H.size → t.heap[q]? = H[q]?) → XC cls s t)
    (hf : ∀ z ∈ locs, free z.base) (hc : cells + 1 ≤ mc) (hs : slots + 6 ≤ ms) :
    W p l e R s m args below meth c H locs cells slots (vx_MQ below Qc XC args s mc ms free) (F0 m pc ls rest) := by
  intro T hT X
  have htr : e.platform.stackTraces = false := (show e.platform.stackTraces = l.stackTraces by rw [X.admits.platform]).trans hl
  have Y := vx_rebase X (R' := { frames := R.frames, locals := R.locals, cells := 1, slots := 6 }) (Nat.le_refl _) (Nat.le_refl _) hRcells hRslots
  obtain ⟨s', hA⟩ : ∃ z, z = (T.setVm s.vm).setFrames (.invoking m args :: below) := ⟨_, rfl⟩
  rw [← hA] at Y
  have hvm : s'.vm = s.vm := by rw [hA]; rfl
  have hhp : s'.heap = H := by rw [hA]; exact hT
  have hW0 : s.WarmedH s'.vm := by rw [hvm]; exact State.WarmedH.refl s
  have hat' : ∀ w ∈ vx_atS own ic cls names, w.before args s' = true := fun w hw => vx_ot_at hW0 hvm.symm (hgood w (List.mem_cons_of_mem _ (List.mem_cons_of_mem _ hw))) (hat w hw)
  have hk' : (Cond.classLink own ik cls).before args s' = true := vx_ot_at hW0 hvm.symm (hgood _ List.mem_cons_self) hk
  have hini' : (Cond.initialized cls).before args s' = true := vx_ot_at hW0 hvm.symm (hgood _ (List.mem_cons_of_mem _ List.mem_cons_self)) hini
  have hU' : vx_Zq Bundle.tN "UNASSIGNED_STACK" Bundle.steD A s' s'.heap := by rw [hhp]; exact vx_Zq.moved hW0.alike (hU.kept hS.2.1)
  have hN' : vx_Zq Bundle.tN "SUPPRESSED_SENTINEL" Bundle.listD A s' s'.heap := by rw [hhp]; exact vx_Zq.moved hW0.alike (hN.kept hS.2.1)
  have h : ∀ w ∈ Bundle.ownAtoms own ic cls names, w.before args s' = true := vx_own hat' (vx_isRefq hU'.1) (vx_isRefq hN'.1) hU'.2.word hN'.2.word
  have hown' : s'.vm.findClass own = some m.cls := by rw [hvm]; exact hown
  have hins : (Cond.instantiable cls 6).before args s' = true := h _ (by simp [Bundle.ownAtoms])
  obtain ⟨vm₁, cX, kX, hfX, hkX, -, -, X₁, st1⟩ := Y.newCold hexec (own := own) (C := cls) (index := ik) (n := 6) hown' hk' hins hini'
    (g := F0 m pc ls rest) rfl (by rw [hb]; exact d0) (Nat.le_refl _) (Nat.le_refl _)
  generalize hT1 : (T.setVm vm₁).pushCell { cls := cX, slots := kX.instanceTypes.map defaultValue, vm := .none } = T1 at X₁ st1
  have hcat : (Value.ref T.heap.size).category = 1 := rfl
  have hcellA : T1.heap[T.heap.size]? = some (freshCell cX kX) := by rw [← hT1]; exact State.heap_pushCell_size _ _
  have d3' : decode c.code (pc + 3) = .ok (.dup, 1) := by rw [hb]; exact d3
  have d4' : decode c.code (pc + 4) = .ok (.ldc_w is, 3) := by rw [hb]; exact d4
  have hstr' : vk_R own is text sa s' := vk_R.warm hW0 hstr
  obtain ⟨U, hsteps, hrun, hend, hW, hsame, ce, hce, hO⟩ := X₁.ctorThrowS hexec htr (own := own) (cls := cls) (names := names) (ic := ic) hown' hcls hnames h (fun x hx => nomatch hx) hfX hkX hcellA (by rw [hhp, hT]; exact Nat.le_refl _) (msg := .ref sa) rfl
    (g := { method := m, pc := pc + 7, locals := ls, stack := .ref sa :: .ref T.heap.size :: .ref T.heap.size :: rest, locked := none }) rfl hsize rfl rfl (rest := rest) rfl
    (by rw [hb]; exact d7) (by rw [hb]; exact d10) hout hRframes (by simp only [List.map_cons, List.sum_cons, hcat]; omega) hlocks
  obtain ⟨f1, f2⟩ := vx_frame hsame
  rw [hhp] at f1 f2
  have hWs : s.WarmedH U.vm := State.WarmedH.trans hW0 hW
  have hcl : s.vm.findClass cls = some ce.cls := by
    have h9 := hO.cls
    rw [hvm] at h9
    exact h9
  have hall : s.sameButNew ({ U with vm := s.vm } : State) locs mc ms := by
    subst hA
    obtain ⟨e1, e2⟩ := hsame
    rw [State.setFrames_setFrames] at e1
    have h2 : (T.setVm s.vm).sameButNew ({ U with vm := s.vm } : State) [] (0 + 1) (0 + 6) := ⟨e1, e2⟩
    have h3 := X.same.trans h2
    rw [List.append_nil] at h3
    exact h3.mono hc hs
  refine ⟨U, ?_, .threw T.heap.size, hrun, hend, Or.inr ⟨T.heap.size, rfl, cls, ce, locs, hx U hWs.alike f1 (fun q hq => f2 q hq (fun z hz => nomatch hz)), hce, hO.vm, hcl, hWs, hall, hf⟩⟩
  refine st1 _ ?_
  show Steps p.tables e below (T1.setTop { method := m, pc := pc + 3, locals := ls, stack := .ref T.heap.size :: rest, locked := none }) _
  jvm_step X₁.here [X₁.here.top, hexec, d3', Value.category]
  exact X₁.ldcStringW hexec (own := own) (text := text) (index := is) (a := sa) hown' hstr'.1 hstr'.2
    (g := { method := m, pc := pc + 4, locals := ls, stack := .ref T.heap.size :: .ref T.heap.size :: rest, locked := none }) rfl d4' _ hsteps
end Ends
section Bodies
variable {l : Launch}
theorem vx_ofW {y : MethodName} {ws ws' : List Cond} {rm : Room} {Pc : Array Value → State → Prop} {Qc : Array Value → State → Outcome → State → Prop} {XC : String → State → State → Prop} {mc ms : Nat} {free : Addr → Prop} {cc : ByteArray} {maxL : Nat} {ret : Option FieldType}
    (hy : plainName y.cls = true) (hw : ws = Cond.code y cc maxL ret :: ws')
    (body : ∀ p e s m args below meth c s₁, BodyLoose p l y (headSpec ws rm) cc maxL ret e s m args below meth c s₁ → c.maxLocals = maxL → (∀ x ∈ c.exceptionTable.toList, False) → Pc args s →
      W p l e (headSpec ws rm).room s m args below meth c s.heap [] 0 0 (vx_MQ below Qc XC args s mc ms free) (entryFrame m args maxL)) : vx_Met l y ws rm Pc Qc XC mc ms free := by
  refine MetFree.of_bodyS (code := cc) (maxLocals := maxL) (ret := ret) hy ?_ ?_
  · intro args s m h hn
    obtain ⟨meth, c, h1, h2, h3, h4, h5, h6, -, -⟩ := Cond.code_spec hn (atoms_spec (ws := ws) h _ (by rw [hw]; exact List.mem_cons_self))
    exact ⟨meth, c, h1, h2, h3, h4, h5, h6⟩
  · intro p e s m args below meth c s₁ B hml hP _
    have hh0 : s₁.heap = s.heap := by rw [B.state]; rfl
    have ht : ∀ x ∈ c.exceptionTable.toList, False := by
      obtain ⟨meth9, c9, h1, h2, -, -, -, -, h7, -⟩ := Cond.code_spec B.named (atoms_spec (ws := ws) B.pre _ (by rw [hw]; exact List.mem_cons_self))
      cases Option.some.inj (h1.symm.trans B.method)
      cases Option.some.inj (h2.symm.trans (Stand.of_body B).code)
      intro x hx
      rw [Array.isEmpty_iff.mp h7] at hx
      cases hx
    obtain ⟨t, a1, o, b1, b2, b3⟩ := body p e s m args below meth c s₁ B hml ht hP s₁ hh0 (Stand.of_body B)
    exact ⟨t, o, a1, b1, b2, b3⟩
/-- the table of a body with handlers -/
theorem vx_table {p : Program} {x y : MethodName} {S : Spec} {cc bytes : ByteArray} {maxL maxL' : Nat} {ret ret' : Option FieldType} {e : Env} {s s₁ : State} {m : MethodId} {args : Array Value} {below : List Frame} {meth : Method} {c : Code} {hh : List (Nat × Nat × Nat × Nat)}
    (B : BodyLoose p l y S cc maxL ret e s m args below meth c s₁) (h : (Cond.codeWith y bytes maxL' ret' hh).before args s = true) : c.exceptionTable.toList = tableOf hh := by
  obtain ⟨m9, meth9, c9, hn9, h1, h2, -, -, h6, -⟩ := Cond.codeWith_spec h
  cases Option.some.inj (hn9.symm.trans B.named)
  cases Option.some.inj (h1.symm.trans B.method)
  cases Option.some.inj (h2.symm.trans (Stand.of_body B).code)
  rw [← h6, table_eq]
end Bodies
end VXA
/-! ===== END ===== -/
/-! ===== BEGIN a static call of a method with an exception table ===== -/
section VXS
variable {p : Program} {l : Launch} {e : Env} {R : Room} {s : State} {m : MethodId} {args : Array Value} {below : List Frame} {meth : Method} {c : Code} {T : State} {H : Heap} {locs : List Loc} {cells slots : Nat}
abbrev vx_CSW (R : Room) (s : State) (args : Array Value) (own : String) (index : Nat) (y : MethodName) (bytes : ByteArray) (maxL : Nat) (ret : Option FieldType) (hh : List (Nat × Nat × Nat × Nat)) (ws : List Cond) (rm : Room) (mc ms n : Nat) : Prop :=
  (rm.cells = mc ∧ rm.slots = ms ∧ rm.frames + 1 ≤ R.frames ∧ 8 + (maxL + 11) + rm.locals ≤ R.locals ∧ (∀ w ∈ ws, ∀ (a' : Array Value) (U : State), s.WarmedH U.vm → w.before a' U = true) ∧ Cond.codeWith y bytes maxL ret hh ∈ ws) ∧
  (Cond.codeWith y bytes maxL ret hh).before args s = true ∧ (Cond.initialized y.cls).before args s = true ∧ (y.cls ≠ "java/lang/invoke/MethodHandle" ∧ y.cls ≠ "java/lang/invoke/VarHandle") ∧
  (∀ sig, parseMethodDescriptor y.desc = some sig → n = sig.parameters.length) ∧ (Cond.methodLink own index y).before args s = true ∧ (Cond.static y).before args s = true
theorem vx_cwSW {own : String} {index maxL mc ms : Nat} {y : MethodName} {bytes : ByteArray} {ret : Option FieldType} {hh : List (Nat × Nat × Nat × Nat)} {Ts ws ws' : List Cond} {rm : Room} (n : Nat) (ht : ∀ w ∈ Ts, w.before args s = true) (hT : GoodIn Ts (va_wsS own index y ws)) (hw : ws = Cond.codeWith y bytes maxL ret hh :: ws') (hrc : rm.cells = mc) (hrs : rm.slots = ms)
    (hd : y.cls ≠ "java/lang/invoke/MethodHandle" ∧ y.cls ≠ "java/lang/invoke/VarHandle" ∧ (parseMethodDescriptor y.desc).map (fun d => d.parameters.length) = some n) (hR : rm.frames + 1 ≤ R.frames ∧ 8 + (maxL + 11) + rm.locals ≤ R.locals) :
    vx_CSW R s args own index y bytes maxL ret hh ws rm mc ms n := by
  have ok : ∀ w ∈ va_wsS own index y ws, w.before args s = true := fun w h => ht w (hT w h).1
  have hG : GoodIn Ts ws := fun w h => hT w (by unfold va_wsS; exact List.mem_append_right _ h)
  have hc : Cond.codeWith y bytes maxL ret hh ∈ ws := by rw [hw]; exact List.mem_cons_self
  refine ⟨⟨hrc, hrs, hR.1, hR.2, pay_in ht hG, hc⟩, ht _ (hG _ hc).1, ok _ (by simp [va_wsS]), ⟨hd.1, hd.2.1⟩, fun sig h => ?_, ok _ (by simp [va_wsS]), ok _ (by simp [va_wsS])⟩
  have h2 := hd.2.2
  rw [h] at h2
  exact (Option.some.inj h2).symm
theorem vx_callSW (X : Stand p l e R s m args below meth c T locs cells slots) (hexec : p.tables.exec = Jvm.exec) {own : String} {index : Nat} {y : MethodName} {bytes : ByteArray} {maxL : Nat} {ret : Option FieldType} {hh : List (Nat × Nat × Nat × Nat)}
    (hown : s.vm.findClass own = some m.cls) (hlink : (Cond.methodLink own index y).before args s = true) (hstat : (Cond.static y).before args s = true) (hinit : (Cond.initialized y.cls).before args s = true)
    (hcode : (Cond.codeWith y bytes maxL ret hh).before args s = true) (hy : y.cls ≠ "java/lang/invoke/MethodHandle" ∧ y.cls ≠ "java/lang/invoke/VarHandle")
    {W9 : Nat} {Pre : Pt → Array Value → Prop} {Post : Pt → Array Value → Option Value → Pt → Prop} (hK : Back l R p e below s args y 3 W9 Pre Post)
    {g : JFrame} (hg : g.method = m) (hsize : g.locals.size = c.maxLocals) {argsL rest : List Value} (hlen : ∀ sig, parseMethodDescriptor y.desc = some sig → argsL.length = sig.parameters.length)
    (hstack : g.stack = argsL.reverse ++ rest) (hW : 2 * g.monitorRoom + (rest.map fun v => v.category).sum ≤ W9) (hdg : decode c.code g.pc = .ok (.invokestatic index, 3))
    (hpre : ∀ vm₁, s.WarmedH vm₁ → Pre ⟨T.setVm vm₁, locs, cells, slots⟩ argsL.toArray) :
    ∃ (v : Option Value) (vm₁ : Vm) (B : Pt), s.WarmedH vm₁ ∧ Stand p l e R s m args below meth c B.U B.locs B.cells B.slots ∧ Post ⟨T.setVm vm₁, locs, cells, slots⟩ argsL.toArray v B ∧
      ∀ target, Steps p.tables e below (B.U.setTop { g with pc := g.pc + 3, stack := v.toList ++ rest }) target → Steps p.tables e below (T.setTop g) target := by
  obtain ⟨mk, methM, cM, hnamed, hmethM, -, -, -, -, -, -, hsigM⟩ := Cond.codeWith_spec hcode
  have hstatic : methM.isStatic = true := Cond.static_spec hnamed hmethM hstat
  obtain ⟨kP, hkP, -⟩ := className_of_methodNamed hnamed
  have hinitP : kP.init = .initialized := Cond.initialized_spec (findClass_of_methodNamed hnamed) hkP hinit
  obtain ⟨vm₁, X₁, hstep₁⟩ := X.invokestatic hexec hown hlink hnamed hmethM hstatic hkP hinitP hy (g := g) hg (argsL := argsL) (rest := rest) (hlen _ hsigM) hstack hdg
  obtain ⟨v, B, X', hpost, hsteps⟩ := hK m meth c ⟨T.setVm vm₁, locs, cells, slots⟩ { g with stack := rest } (.invokestatic index) mk argsL.toArray X₁ hg hsize hdg hW (X₁.named hnamed) (hpre vm₁ X₁.warmed)
  exact ⟨v, vm₁, B, X₁.warmed, X', hpost, fun target h => hstep₁ _ fun acts => by rw [doInvoke_state]; exact hsteps.trans h⟩
theorem vx_runSW {y : MethodName} {bytes cc : ByteArray} {maxL nL mc ms n index : Nat} {ret : Option FieldType} {hh : List (Nat × Nat × Nat × Nat)} {ws : List Cond} {rm : Room} {Pc : Array Value → State → Prop} {Qc : Array Value → State → Outcome → State → Prop} {free : Addr → Prop} {Ts : List Cond} {own : String} {As rest : List Value} {g : JFrame}
    (S : CallFix p m c cc nL s args Ts own) (hM : Met l y ws rm Pc Qc mc ms free) (cw : vx_CSW R s args own index y bytes maxL ret hh ws rm mc ms n) (hp : PreS s H Pc As)
    (hg : g.method = m) (hn : As.length = n) (hsize : g.locals.size = nL) (hstack : g.stack = As.reverse ++ rest) (hW : 2 * g.monitorRoom + (rest.map fun v => v.category).sum ≤ 8) (hdg : decode cc g.pc = .ok (.invokestatic index, 3)) (hf : cells + mc ≤ R.cells ∧ slots + ms ≤ R.slots) :
    va_Run p l e R s m args below meth c H locs cells slots mc ms g rest (Qc As.toArray) (free) := by
  obtain ⟨⟨hrc, hrs, hfr, hlo, hws, hcw⟩, hcode, hini, hy, hlen, hl, hstt⟩ := cw
  have hK : Back l R p e below s args y 3 8 (PreOf R mc ms Pc) (PostOf Qc mc ms free) := va_backW (hh := hh) (bytes := bytes) (maxL := maxL) (ret := ret) hM hp.1 hrc hrs hfr hlo hws hcw (fun a' U hW => word_at hW (Or.inl (by first | rfl | simp [Cond.onTables, Cond.keeps, Cond.steady])) hini)
  obtain ⟨hx, hb, hml, ho, -⟩ := S
  intro T hT X
  obtain ⟨v, vm₁, ⟨U', l2, c2, s2⟩, hW₁, X', ⟨g', mk, t, L, e1, e2, hq, h1, hL, h2, h3⟩, st⟩ := vx_callSW X hx (hh := hh) (bytes := bytes) (maxL := maxL) (ret := ret) ho hl hstt hini hcode hy hK hg (hsize.trans hml.symm) (argsL := As) (rest := rest) (fun sig h => hn.trans (hlen sig h)) hstack hW (by rw [hb]; exact hdg)
    (fun vm₁ hW₁ => ⟨hf.1, hf.2, hp.2 (T.setVm vm₁) hT hW₁⟩)
  dsimp only [Pt.U, Pt.locs, Pt.cells, Pt.slots] at X' e1 e2 h1 h2 h3 st
  subst h1; subst h2; subst h3
  exact ⟨v, (T.setVm vm₁).calling g' mk As.toArray, t, U', L, hT, X', hL, e1, e2, hq, st⟩
/-- not caught here, past rows that name other classes: it goes on to the caller -/
theorem vx_outP {p : Program} {l : Launch} {e : Env} {R : Room} {s : State} {m : MethodId} {args : Array Value} {below : List Frame} {meth : Method} {c : Code} {H : Heap} {locs : List Loc} {cells slots : Nat} {free : Addr → Prop} {ls : Array Slot} {rest : List Value} {Qc : Array Value → State → Outcome → State → Prop} {XC : String → State → State → Prop}
    {pc : Nat} {own E : String} {ce : Cell} {q : Addr} {mc ms : Nat} (hown : s.vm.findClass own = some m.cls) (hlocks : meth.locks = false)
    (hpass : ∀ z ∈ c.exceptionTable.toList, covers z pc = false ∨ (z.catchType ≠ 0 ∧ ∃ nm : String, (Cond.classLink own z.catchType nm).before args s = true ∧ va_Nc E nm s)) (hcell : H[q]? = some ce) (hv : ce.vm = .none) (hcl : s.vm.findClass E = some ce.cls)
    (hx : ∀ t : State, t.heap = H → s.vm.Alike t.vm → XC E s t) (hf : ∀ z ∈ locs, free z.base) (hc : cells ≤ mc) (hs : slots ≤ ms) :
    vx_W p l e R s m args below meth c H locs cells slots (vx_MQ below Qc XC args s mc ms free) (F0 m pc ls rest) q := by
  intro T hT X
  have hpl : e.platform.magicAccessors = ({} : Platform).magicAccessors := by rw [X.admits.platform]
  obtain ⟨vm', hW', X', st⟩ := X.outThrough hlocks q (g := F0 m pc ls rest) rfl rfl rfl (cell := ce) (by rw [hT]; exact hcell) (by rw [hv]; rfl)
    (by obtain ⟨k9, h9, -⟩ := Vm.findClass_spec hcl; exact ⟨k9, h9⟩) (fun z hz => by
      rcases hpass z hz with h | ⟨hz0, nm, hl1, hn1⟩
      · exact Or.inl h
      · obtain ⟨c6, hc6, hcl6⟩ := Cond.classLink_spec hown hl1 e.platform hpl
        obtain ⟨a8, b8, h1, h2, h3⟩ := hn1
        cases Option.some.inj (h1.symm.trans hcl)
        cases Option.some.inj (h2.symm.trans hc6)
        exact Or.inr ⟨hz0, _, hcl6, h3⟩)
  obtain ⟨g₀, hfr⟩ := X'.frames_eq
  have hcell9 : ((T.setVm vm').setFrames (.throwing q :: below)).heap[q]? = some ce := by
    show T.heap[q]? = some ce
    rw [hT]; exact hcell
  have hend : Ended ((T.setVm vm').setFrames (.throwing q :: below)) below (.threw q) := State.frames_setFrames _ (State.cur_lt_of_frames hfr)
  refine ⟨(T.setVm vm').setFrames (.throwing q :: below), ?_, .threw q, X'.here.running, hend, Or.inr ⟨q, rfl, E, ce, locs, hx _ hT (X'.ends _).1.alike, hcell9, hv, hcl, (X'.ends _).1, (X'.ends _).2.mono hc hs, hf⟩⟩
  rw [X.pushThrowing_eq]
  exact st
/-- a thing of a world lies in the heap -/
theorem vx_lt {D : va_G} {cl : List vw_C} {ws : va_W} {H1 : Heap} (h : va_P D cl ws H1) {k : Nat} {q : Nat × va_E} (hk : ws[k]? = some q) : q.1 < H1.size := (h k q hk).lt
end VXS
/-! ===== END ===== -/
/-! ===== BEGIN methods with a table of their own: called by a name, returning or throwing ===== -/
section VXH
/-! vx_backW, vx_callVX, vx_callSX, vx_callVW, vx_runVW, vx_runVX, vx_runSX, vx_ofWH follow the same proofs as their sisters above (Free/Laws.lean, Shelf42/LK1.lean); vx_outP calls Shelf42/NT130.lean (outThrough). -/
section
variable {l : Launch} {R : Room} {p : Program} {e : Env} {below : List Frame} {s : State} {sargs : Array Value} {y : MethodName} {len W9 : Nat}
theorem vx_backW {ws : List Cond} {rm : Room} {Pc : Array Value → State → Prop} {Qc : Array Value → State → Outcome → State → Prop} {XC : String → State → State → Prop} {mc ms : Nat} {free : Addr → Prop} {bytes : ByteArray} {maxL : Nat} {ret : Option FieldType} {hh : List (Nat × Nat × Nat × Nat)}
    (hM : vx_Met l y ws rm Pc Qc XC mc ms free) (hblind : FrameBlind Pc) (hrc : rm.cells = mc) (hrs : rm.slots = ms)
    (hframes : rm.frames + 1 ≤ R.frames) (hlocals : W9 + (maxL + 11) + rm.locals ≤ R.locals)
    (hws : ∀ w ∈ ws, ∀ a' U, s.WarmedH U.vm → w.before a' U = true) (hcode : Cond.codeWith y bytes maxL ret hh ∈ ws) (hinit : ∀ a' U, s.WarmedH U.vm → (Cond.initialized y.cls).before a' U = true) :
    vx_Back l R p e below s sargs y len W9 (PreOf R mc ms Pc) (PostOf Qc mc ms free) (vx_Post XC mc ms free) := by
  intro m meth c A g ig mk a X hg hsize hdg hW hn hp
  have h1 : (headSpec ws rm).pre.before a A.U = true := atoms_intro fun w hw => hws w hw _ _ X.warmed
  have h2 : (Cond.codeWith y bytes maxL ret hh).before a A.U = true := hws _ hcode _ _ X.warmed
  have h3 : (Cond.initialized y.cls).before a A.U = true := hinit _ _ X.warmed
  have h4 : A.cells + (headSpec ws rm).room.cells ≤ R.cells := by rw [show (headSpec ws rm).room.cells = mc from hrc]; exact hp.1
  have h5 : A.slots + (headSpec ws rm).room.slots ≤ R.slots := by rw [show (headSpec ws rm).room.slots = ms from hrs]; exact hp.2.1
  have hPc : Pc a (A.U.calling g mk a) := hblind _ _ _ _ hp.2.2
  obtain ⟨U, Ls, c0, s0⟩ := A
  dsimp only [Pt.U, Pt.locs, Pt.cells, Pt.slots] at h1 h2 h3 h4 h5 X hn hPc ⊢
  obtain ⟨m9, methY, cY, hn9, hmY, hcY, -, hlY, -⟩ := Cond.codeWith_spec h2
  cases Option.some.inj (hn9.symm.trans hn)
  obtain ⟨kY, hkY, -⟩ := className_of_methodNamed hn
  have hinitY : kY.init = .initialized := Cond.initialized_spec (findClass_of_methodNamed hn) hkY h3
  have h : At U g.method c below := by rw [hg]; exact X.here
  have hlocals9 : W9 + (maxL + 11) + (headSpec ws rm).room.locals ≤ R.locals := hlocals
  have happ : (headSpec ws rm).appliesLoose y e.platform (U.calling g mk a) = true :=
    Spec.appliesLoose_calling (g := g) h hdg hn hkY hinitY
      (X.room_calling (g := g) (R' := (headSpec ws rm).room) hsize hmY hcY hframes (by rw [hlY]; omega) h4 h5) h1
  obtain ⟨mid, hmid⟩ := h.above
  have hfr : (U.setTop g).frames = (.java g :: mid) ++ below := by rw [State.frames_setTop' g h.top, hmid]; rfl
  obtain ⟨o, s₂, hsteps, -, hend, hq⟩ := Steps.callFree hM p X.admits X.cas X.clock (acts := []) hfr happ hPc trivial
  have hq' : vx_Q Qc XC mc ms free a (U.calling g mk a) o s₂ := hq
  rw [State.frames_setTop' g h.top] at hend
  obtain ⟨g₀, hg0⟩ := Option.isSome_iff_exists.mp h.top
  obtain ⟨r, hr⟩ := State.topJava?_eq_some.mp hg0
  have hr' : (({ U with heap := s₂.heap, slotsUsed := s₂.slotsUsed } : State).setVm s₂.vm).frames = .java g₀ :: r := hr
  rcases hq' with ⟨hqc, L, hfe, hL⟩ | ⟨q, rfl, E, ce, L, hx, hce, hcv, hcl, hW₂, hsm, hL⟩
  · obtain ⟨⟨v, rfl⟩, hW₂, e2, q2, q3, q4, q5, q6⟩ := id hfe
    have e3 : s₂ = ({ (U.calling g mk a).setFrames s₂.frames with heap := s₂.heap, slotsUsed := s₂.slotsUsed } : State).setVm s₂.vm := by
      have : s₂ = ({ s₂ with vm := (U.calling g mk a).vm } : State).setVm s₂.vm := rfl
      rw [e2] at this
      exact this
    obtain ⟨c₂, i₂, len₂, hc₂, hd₂, hf₂⟩ := hend
    have hW' : U.WarmedH s₂.vm := hW₂
    have hcc : c₂ = c := by
      have h1 : s₂.code? g.method = U.code? g.method := by
        rw [State.code?_eq, State.code?_eq, hW'.alike.method?]
      exact Option.some.inj (hc₂.symm.trans (h1.trans h.code))
    subst hcc
    have hlen : len₂ = len := by rw [hdg] at hd₂; cases hd₂; rfl
    subst hlen
    have hs₂ : s₂ = (({ U with heap := s₂.heap, slotsUsed := s₂.slotsUsed } : State).setVm s₂.vm).setTop { g with pc := g.pc + len₂, stack := v.toList ++ g.stack } := by
      refine e3.trans ?_
      rw [hf₂, State.calling_eq h.top, State.setFrames_setFrames, State.setTop_of_frames _ hr', hr]
      rfl
    have hsame : U.sameButNew ({ U with heap := s₂.heap, slotsUsed := s₂.slotsUsed } : State) L mc ms := by
      refine ⟨?_, q2, q3, q4, q5, q6⟩
      obtain ⟨t, ht, -⟩ := State.frames_cons hr
      show ({ U with heap := s₂.heap, slotsUsed := s₂.slotsUsed } : State) = { U.setFrames U.frames with heap := s₂.heap, slotsUsed := s₂.slotsUsed }
      rw [State.setFrames_self ht]
    subst hg
    refine Or.inl ⟨v, ⟨(({ U with heap := s₂.heap, slotsUsed := s₂.slotsUsed } : State).setVm s₂.vm), Ls ++ L, c0 + mc, s0 + ms⟩,
      ⟨X.admits, X.cas, X.clock, X.frames, X.room, X.hears, X.method, X.code, (X.here.setHeapUsed s₂.heap s₂.slotsUsed).setVm hW'.alike, X.tail, State.WarmedH.trans X.warmed hW', X.limits, X.bytes, X.same.trans (hsame.setVm s.vm)⟩,
      ⟨g, mk, s₂, L, rfl, rfl, hqc, rfl, hL, rfl, rfl⟩, ?_⟩
    show Steps p.tables e below _ ((({ U with heap := s₂.heap, slotsUsed := s₂.slotsUsed } : State).setVm s₂.vm).setTop { g with pc := g.pc + len₂, stack := v.toList ++ g.stack })
    rw [← hs₂]
    exact hsteps
  · obtain ⟨e2, q2, q3, q4, q5, q6⟩ := id hsm
    have e3 : s₂ = ({ (U.calling g mk a).setFrames s₂.frames with heap := s₂.heap, slotsUsed := s₂.slotsUsed } : State).setVm s₂.vm := by
      have : s₂ = ({ s₂ with vm := (U.calling g mk a).vm } : State).setVm s₂.vm := rfl
      rw [e2] at this
      exact this
    have hf₂ : s₂.frames = .throwing q :: .java g :: U.frames.tail := hend
    have hW' : U.WarmedH s₂.vm := hW₂
    have hs₂ : s₂ = ((({ U with heap := s₂.heap, slotsUsed := s₂.slotsUsed } : State).setVm s₂.vm).setTop g).pushFrame (.throwing q) := by
      refine e3.trans ?_
      rw [hf₂, State.calling_eq h.top, State.setFrames_setFrames, State.pushFrame, State.frames_setTop _ hr', State.setTop_of_frames _ hr', State.setFrames_setFrames, hr]
      rfl
    have hsame : U.sameButNew ({ U with heap := s₂.heap, slotsUsed := s₂.slotsUsed } : State) L mc ms := by
      refine ⟨?_, q2, q3, q4, q5, q6⟩
      obtain ⟨t, ht, -⟩ := State.frames_cons hr
      show ({ U with heap := s₂.heap, slotsUsed := s₂.slotsUsed } : State) = { U.setFrames U.frames with heap := s₂.heap, slotsUsed := s₂.slotsUsed }
      rw [State.setFrames_self ht]
    subst hg
    refine Or.inr ⟨q, ⟨(({ U with heap := s₂.heap, slotsUsed := s₂.slotsUsed } : State).setVm s₂.vm), Ls ++ L, c0 + mc, s0 + ms⟩,
      ⟨X.admits, X.cas, X.clock, X.frames, X.room, X.hears, X.method, X.code, (X.here.setHeapUsed s₂.heap s₂.slotsUsed).setVm hW'.alike, X.tail, State.WarmedH.trans X.warmed hW', X.limits, X.bytes, X.same.trans (hsame.setVm s.vm)⟩,
      ⟨g, mk, s₂, L, E, ce, rfl, rfl, hx, hce, hcv, hcl, rfl, hL, rfl, rfl⟩, ?_⟩
    show Steps p.tables e below _ (((({ U with heap := s₂.heap, slotsUsed := s₂.slotsUsed } : State).setVm s₂.vm).setTop g).pushFrame (.throwing q))
    rw [← hs₂]
    exact hsteps
end
variable {p : Program} {l : Launch} {e : Env} {R : Room} {s : State} {m : MethodId} {args : Array Value} {below : List Frame} {meth : Method} {c : Code} {T : State} {H : Heap} {locs : List Loc} {cells slots : Nat}
theorem vx_callVX (X : Stand p l e R s m args below meth c T locs cells slots) (hexec : p.tables.exec = Jvm.exec) {own C : String} {index : Nat} {y : MethodName} {bytes : ByteArray} {maxL : Nat} {ret : Option FieldType} {hh : List (Nat × Nat × Nat × Nat)}
    (hown : s.vm.findClass own = some m.cls) (hlink : (Cond.methodLink own index y).before args s = true) (hinst : (Cond.instanceMethod y).before args s = true) (hsel : (Cond.selects C y y).before args s = true)
    (hcode : (Cond.codeWith y bytes maxL ret hh).before args s = true) (hy : y.cls ≠ "java/lang/invoke/MethodHandle" ∧ y.cls ≠ "java/lang/invoke/VarHandle")
    {W9 : Nat} {Pre : Pt → Array Value → Prop} {Post : Pt → Array Value → Option Value → Pt → Prop} {PostX : Pt → Array Value → Addr → Pt → Prop} (hK : vx_Back l R p e below s args y 3 W9 Pre Post PostX)
    {b : Addr} {cellB : Cell} (hcell : T.heap[b]? = some cellB) (hobj : cellB.vm.isStatics = false) (hcls : s.vm.findClass C = some cellB.cls)
    {g : JFrame} (hg : g.method = m) (hsize : g.locals.size = c.maxLocals) {argsL rest : List Value} (hlen : ∀ sig, parseMethodDescriptor y.desc = some sig → argsL.length = sig.parameters.length)
    (hstack : g.stack = argsL.reverse ++ .ref b :: rest) (hW : 2 * g.monitorRoom + (rest.map fun v => v.category).sum ≤ W9) (hdg : decode c.code g.pc = .ok (.invokevirtual index, 3))
    (hpre : ∀ vm₁, s.WarmedH vm₁ → Pre ⟨T.setVm vm₁, locs, cells, slots⟩ (Value.ref b :: argsL).toArray) :
    (∃ (v : Option Value) (vm₁ : Vm) (B : Pt), s.WarmedH vm₁ ∧ Stand p l e R s m args below meth c B.U B.locs B.cells B.slots ∧ Post ⟨T.setVm vm₁, locs, cells, slots⟩ (Value.ref b :: argsL).toArray v B ∧
      ∀ target, Steps p.tables e below (B.U.setTop { g with pc := g.pc + 3, stack := v.toList ++ rest }) target → Steps p.tables e below (T.setTop g) target) ∨
    (∃ (q : Addr) (vm₁ : Vm) (B : Pt), s.WarmedH vm₁ ∧ Stand p l e R s m args below meth c B.U B.locs B.cells B.slots ∧ PostX ⟨T.setVm vm₁, locs, cells, slots⟩ (Value.ref b :: argsL).toArray q B ∧
      Steps p.tables e below (T.setTop g) ((B.U.setTop { g with stack := rest }).pushFrame (.throwing q))) := by
  obtain ⟨mk, methM, hnamed, hmethM, hstM, habM⟩ := Cond.instanceMethod_spec hinst
  obtain ⟨m8, methM', cM, hn8, hmethM', -, -, -, -, -, -, hsigM⟩ := Cond.codeWith_spec hcode
  cases Option.some.inj (hn8.symm.trans hnamed)
  cases hmethM.symm.trans hmethM'
  obtain ⟨c2, r2, m2, q1, q2, q3, q4, kP, hkP, hkPi⟩ := Cond.selects_spec hsel
  cases hcls.symm.trans q1
  cases (State.methodFound?_of_named hnamed hy).symm.trans q2
  cases hnamed.symm.trans q3
  have hselP : selectMethod e.platform s.vm cellB.cls mk = .method mk := by rw [Launch.admits_selectMethod X.admits]; exact q4
  obtain ⟨vm₁, X₁, hstep₁⟩ := X.invokevirtual hexec hown hlink hnamed hmethM hstM hkP hkPi hy (a := b) (cell := cellB) hcell
    (fun z h => by rw [h] at hobj; cases hobj) hselP hmethM habM hkP hkPi (g := g) hg (argsL := argsL) (rest := rest) (hlen _ hsigM) hstack hdg
  rcases hK m meth c ⟨T.setVm vm₁, locs, cells, slots⟩ { g with stack := rest } (.invokevirtual index) mk (Value.ref b :: argsL).toArray X₁ hg hsize hdg hW (X₁.named hnamed) (hpre vm₁ X₁.warmed) with ⟨v, B, X', hpost, hsteps⟩ | ⟨q, B, X', hpost, hsteps⟩
  · exact Or.inl ⟨v, vm₁, B, X₁.warmed, X', hpost, fun target h => hstep₁ _ fun acts => by rw [doInvoke_state]; exact hsteps.trans h⟩
  · exact Or.inr ⟨q, vm₁, B, X₁.warmed, X', hpost, hstep₁ _ fun acts => by rw [doInvoke_state]; exact hsteps⟩
theorem vx_callSX (X : Stand p l e R s m args below meth c T locs cells slots) (hexec : p.tables.exec = Jvm.exec) {own : String} {index : Nat} {y : MethodName} {bytes : ByteArray} {maxL : Nat} {ret : Option FieldType} {hh : List (Nat × Nat × Nat × Nat)}
    (hown : s.vm.findClass own = some m.cls) (hlink : (Cond.methodLink own index y).before args s = true) (hstat : (Cond.static y).before args s = true) (hinit : (Cond.initialized y.cls).before args s = true)
    (hcode : (Cond.codeWith y bytes maxL ret hh).before args s = true) (hy : y.cls ≠ "java/lang/invoke/MethodHandle" ∧ y.cls ≠ "java/lang/invoke/VarHandle")
    {W9 : Nat} {Pre : Pt → Array Value → Prop} {Post : Pt → Array Value → Option Value → Pt → Prop} {PostX : Pt → Array Value → Addr → Pt → Prop} (hK : vx_Back l R p e below s args y 3 W9 Pre Post PostX)
    {g : JFrame} (hg : g.method = m) (hsize : g.locals.size = c.maxLocals) {argsL rest : List Value} (hlen : ∀ sig, parseMethodDescriptor y.desc = some sig → argsL.length = sig.parameters.length)
    (hstack : g.stack = argsL.reverse ++ rest) (hW : 2 * g.monitorRoom + (rest.map fun v => v.category).sum ≤ W9) (hdg : decode c.code g.pc = .ok (.invokestatic index, 3))
    (hpre : ∀ vm₁, s.WarmedH vm₁ → Pre ⟨T.setVm vm₁, locs, cells, slots⟩ argsL.toArray) :
    (∃ (v : Option Value) (vm₁ : Vm) (B : Pt), s.WarmedH vm₁ ∧ Stand p l e R s m args below meth c B.U B.locs B.cells B.slots ∧ Post ⟨T.setVm vm₁, locs, cells, slots⟩ argsL.toArray v B ∧
      ∀ target, Steps p.tables e below (B.U.setTop { g with pc := g.pc + 3, stack := v.toList ++ rest }) target → Steps p.tables e below (T.setTop g) target) ∨
    (∃ (q : Addr) (vm₁ : Vm) (B : Pt), s.WarmedH vm₁ ∧ Stand p l e R s m args below meth c B.U B.locs B.cells B.slots ∧ PostX ⟨T.setVm vm₁, locs, cells, slots⟩ argsL.toArray q B ∧
      Steps p.tables e below (T.setTop g) ((B.U.setTop { g with stack := rest }).pushFrame (.throwing q))) := by
  obtain ⟨mk, methM, cM, hnamed, hmethM, -, -, -, -, -, -, hsigM⟩ := Cond.codeWith_spec hcode
  have hstatic : methM.isStatic = true := Cond.static_spec hnamed hmethM hstat
  obtain ⟨kP, hkP, -⟩ := className_of_methodNamed hnamed
  have hinitP : kP.init = .initialized := Cond.initialized_spec (findClass_of_methodNamed hnamed) hkP hinit
  obtain ⟨vm₁, X₁, hstep₁⟩ := X.invokestatic hexec hown hlink hnamed hmethM hstatic hkP hinitP hy (g := g) hg (argsL := argsL) (rest := rest) (hlen _ hsigM) hstack hdg
  rcases hK m meth c ⟨T.setVm vm₁, locs, cells, slots⟩ { g with stack := rest } (.invokestatic index) mk argsL.toArray X₁ hg hsize hdg hW (X₁.named hnamed) (hpre vm₁ X₁.warmed) with ⟨v, B, X', hpost, hsteps⟩ | ⟨q, B, X', hpost, hsteps⟩
  · exact Or.inl ⟨v, vm₁, B, X₁.warmed, X', hpost, fun target h => hstep₁ _ fun acts => by rw [doInvoke_state]; exact hsteps.trans h⟩
  · exact Or.inr ⟨q, vm₁, B, X₁.warmed, X', hpost, hstep₁ _ fun acts => by rw [doInvoke_state]; exact hsteps⟩
theorem vx_callVW (X : Stand p l e R s m args below meth c T locs cells slots) (hexec : p.tables.exec = Jvm.exec) {own C : String} {index : Nat} {y : MethodName} {bytes : ByteArray} {maxL : Nat} {ret : Option FieldType} {hh : List (Nat × Nat × Nat × Nat)}
    (hown : s.vm.findClass own = some m.cls) (hlink : (Cond.methodLink own index y).before args s = true) (hinst : (Cond.instanceMethod y).before args s = true) (hsel : (Cond.selects C y y).before args s = true)
    (hcode : (Cond.codeWith y bytes maxL ret hh).before args s = true) (hy : y.cls ≠ "java/lang/invoke/MethodHandle" ∧ y.cls ≠ "java/lang/invoke/VarHandle")
    {W9 : Nat} {Pre : Pt → Array Value → Prop} {Post : Pt → Array Value → Option Value → Pt → Prop} (hK : Back l R p e below s args y 3 W9 Pre Post)
    {b : Addr} {cellB : Cell} (hcell : T.heap[b]? = some cellB) (hobj : cellB.vm.isStatics = false) (hcls : s.vm.findClass C = some cellB.cls)
    {g : JFrame} (hg : g.method = m) (hsize : g.locals.size = c.maxLocals) {argsL rest : List Value} (hlen : ∀ sig, parseMethodDescriptor y.desc = some sig → argsL.length = sig.parameters.length)
    (hstack : g.stack = argsL.reverse ++ .ref b :: rest) (hW : 2 * g.monitorRoom + (rest.map fun v => v.category).sum ≤ W9) (hdg : decode c.code g.pc = .ok (.invokevirtual index, 3))
    (hpre : ∀ vm₁, s.WarmedH vm₁ → Pre ⟨T.setVm vm₁, locs, cells, slots⟩ (Value.ref b :: argsL).toArray) :
    ∃ (v : Option Value) (vm₁ : Vm) (B : Pt), s.WarmedH vm₁ ∧ Stand p l e R s m args below meth c B.U B.locs B.cells B.slots ∧ Post ⟨T.setVm vm₁, locs, cells, slots⟩ (Value.ref b :: argsL).toArray v B ∧
      ∀ target, Steps p.tables e below (B.U.setTop { g with pc := g.pc + 3, stack := v.toList ++ rest }) target → Steps p.tables e below (T.setTop g) target := by
  obtain ⟨mk, methM, hnamed, hmethM, hstM, habM⟩ := Cond.instanceMethod_spec hinst
  obtain ⟨m8, methM', cM, hn8, hmethM', -, -, -, -, -, -, hsigM⟩ := Cond.codeWith_spec hcode
  cases Option.some.inj (hn8.symm.trans hnamed)
  cases hmethM.symm.trans hmethM'
  obtain ⟨c2, r2, m2, q1, q2, q3, q4, kP, hkP, hkPi⟩ := Cond.selects_spec hsel
  cases hcls.symm.trans q1
  cases (State.methodFound?_of_named hnamed hy).symm.trans q2
  cases hnamed.symm.trans q3
  have hselP : selectMethod e.platform s.vm cellB.cls mk = .method mk := by rw [Launch.admits_selectMethod X.admits]; exact q4
  obtain ⟨vm₁, X₁, hstep₁⟩ := X.invokevirtual hexec hown hlink hnamed hmethM hstM hkP hkPi hy (a := b) (cell := cellB) hcell
    (fun z h => by rw [h] at hobj; cases hobj) hselP hmethM habM hkP hkPi (g := g) hg (argsL := argsL) (rest := rest) (hlen _ hsigM) hstack hdg
  obtain ⟨v, B, X', hpost, hsteps⟩ := hK m meth c ⟨T.setVm vm₁, locs, cells, slots⟩ { g with stack := rest } (.invokevirtual index) mk (Value.ref b :: argsL).toArray X₁ hg hsize hdg hW (X₁.named hnamed) (hpre vm₁ X₁.warmed)
  exact ⟨v, vm₁, B, X₁.warmed, X', hpost, fun target h => hstep₁ _ fun acts => by rw [doInvoke_state]; exact hsteps.trans h⟩
abbrev vx_CVW (R : Room) (s : State) (args : Array Value) (own C : String) (index : Nat) (y : MethodName) (bytes : ByteArray) (maxL : Nat) (ret : Option FieldType) (hh : List (Nat × Nat × Nat × Nat)) (ws : List Cond) (rm : Room) (mc ms n : Nat) : Prop :=
  (rm.cells = mc ∧ rm.slots = ms ∧ rm.frames + 1 ≤ R.frames ∧ 8 + (maxL + 11) + rm.locals ≤ R.locals ∧ (∀ w ∈ ws, ∀ (a' : Array Value) (U : State), s.WarmedH U.vm → w.before a' U = true) ∧ Cond.codeWith y bytes maxL ret hh ∈ ws) ∧
  (Cond.codeWith y bytes maxL ret hh).before args s = true ∧ (Cond.initialized y.cls).before args s = true ∧ (y.cls ≠ "java/lang/invoke/MethodHandle" ∧ y.cls ≠ "java/lang/invoke/VarHandle") ∧
  (∀ sig, parseMethodDescriptor y.desc = some sig → n = sig.parameters.length) ∧ (Cond.methodLink own index y).before args s = true ∧ (Cond.instanceMethod y).before args s = true ∧ (Cond.selects C y y).before args s = true
theorem vx_cwVW {own C : String} {index maxL mc ms : Nat} {y : MethodName} {bytes : ByteArray} {ret : Option FieldType} {hh : List (Nat × Nat × Nat × Nat)} {Ts ws ws' : List Cond} {rm : Room} (n : Nat) (ht : ∀ w ∈ Ts, w.before args s = true) (hT : GoodIn Ts (wsV own index C y ws)) (hw : ws = Cond.codeWith y bytes maxL ret hh :: ws') (hrc : rm.cells = mc) (hrs : rm.slots = ms)
    (hd : y.cls = C ∧ y.cls ≠ "java/lang/invoke/MethodHandle" ∧ y.cls ≠ "java/lang/invoke/VarHandle" ∧ (parseMethodDescriptor y.desc).map (fun d => d.parameters.length) = some n) (hR : rm.frames + 1 ≤ R.frames ∧ 8 + (maxL + 11) + rm.locals ≤ R.locals) :
    vx_CVW R s args own C index y bytes maxL ret hh ws rm mc ms n := by
  obtain ⟨hC, hd⟩ := hd
  subst hC
  have ok : ∀ w ∈ wsV own index y.cls y ws, w.before args s = true := fun w h => ht w (hT w h).1
  have hG : GoodIn Ts ws := fun w h => hT w (by unfold wsV; exact List.mem_append_right _ h)
  have hc : Cond.codeWith y bytes maxL ret hh ∈ ws := by rw [hw]; exact List.mem_cons_self
  refine ⟨⟨hrc, hrs, hR.1, hR.2, pay_in ht hG, hc⟩, ht _ (hG _ hc).1, ok _ (by simp [wsV]), ⟨hd.1, hd.2.1⟩, fun sig h => ?_, ok _ (by simp [wsV]), ok _ (by simp [wsV]), ok _ (by simp [wsV])⟩
  have h2 := hd.2.2
  rw [h] at h2
  exact (Option.some.inj h2).symm
theorem vx_runVW {y : MethodName} {bytes cc : ByteArray} {maxL nL mc ms n index : Nat} {ret : Option FieldType} {hh : List (Nat × Nat × Nat × Nat)} {ws : List Cond} {rm : Room} {Pc : Array Value → State → Prop} {Qc : Array Value → State → Outcome → State → Prop} {free : Addr → Prop} {Ts : List Cond} {own C : String} {b : Addr} {As rest : List Value} {g : JFrame}
    (S : CallFix p m c cc nL s args Ts own) (hM : Met l y ws rm Pc Qc mc ms free) (cw : vx_CVW R s args own C index y bytes maxL ret hh ws rm mc ms n) (hp : PreV s H C b Pc As)
    (hg : g.method = m) (hn : As.length = n) (hsize : g.locals.size = nL) (hstack : g.stack = As.reverse ++ .ref b :: rest) (hW : 2 * g.monitorRoom + (rest.map fun v => v.category).sum ≤ 8) (hdg : decode cc g.pc = .ok (.invokevirtual index, 3)) (hf : cells + mc ≤ R.cells ∧ slots + ms ≤ R.slots) :
    va_Run p l e R s m args below meth c H locs cells slots mc ms g rest (Qc (Value.ref b :: As).toArray) free := by
  obtain ⟨⟨hrc, hrs, hfr, hlo, hws, hcw⟩, hcode, hini, hy, hlen, hl, hin, hse⟩ := cw
  have hK : Back l R p e below s args y 3 8 (PreOf R mc ms Pc) (PostOf Qc mc ms free) := va_backW (hh := hh) (bytes := bytes) (maxL := maxL) (ret := ret) hM hp.1 hrc hrs hfr hlo hws hcw (fun a' U hW => word_at hW (Or.inl (by first | rfl | simp [Cond.onTables, Cond.keeps, Cond.steady])) hini)
  obtain ⟨hx, hb, hml, ho, -⟩ := S
  obtain ⟨-, ⟨cellB, hcB, hoB, hclB⟩, hPc⟩ := hp
  intro T hT X
  obtain ⟨v, vm₁, ⟨U', l2, c2, s2⟩, hW₁, X', ⟨g', mk, t, L, e1, e2, hq, h1, hL, h2, h3⟩, st⟩ := vx_callVW X hx (C := C) (hh := hh) (bytes := bytes) (maxL := maxL) (ret := ret) ho hl hin hse hcode hy hK (by rw [hT]; exact hcB) hoB hclB hg (hsize.trans hml.symm) (argsL := As) (rest := rest) (fun sig h => hn.trans (hlen sig h)) hstack hW (by rw [hb]; exact hdg)
    (fun vm₁ hW₁ => ⟨hf.1, hf.2, hPc (T.setVm vm₁) hT hW₁⟩)
  dsimp only [Pt.U, Pt.locs, Pt.cells, Pt.slots] at X' e1 e2 h1 h2 h3 st
  subst h1; subst h2; subst h3
  exact ⟨v, (T.setVm vm₁).calling g' mk (Value.ref b :: As).toArray, t, U', L, hT, X', hL, e1, e2, hq, st⟩
section
variable {y : MethodName} {bytes cc : ByteArray} {maxL nL mc ms n index : Nat} {ret : Option FieldType} {ws : List Cond} {rm : Room} {Pc : Array Value → State → Prop} {Qc : Array Value → State → Outcome → State → Prop} {XC : String → State → State → Prop} {free : Addr → Prop} {Ts : List Cond} {own C : String} {b : Addr} {As rest : List Value} {g : JFrame}
theorem vx_runVX {hh : List (Nat × Nat × Nat × Nat)} (S : CallFix p m c cc nL s args Ts own) (hM : vx_Met l y ws rm Pc Qc XC mc ms free) (cw : vx_CVW R s args own C index y bytes maxL ret hh ws rm mc ms n) (hp : PreV s H C b Pc As)
    (hg : g.method = m) (hn : As.length = n) (hsize : g.locals.size = nL) (hstack : g.stack = As.reverse ++ .ref b :: rest) (hW : 2 * g.monitorRoom + (rest.map fun v => v.category).sum ≤ 8) (hdg : decode cc g.pc = .ok (.invokevirtual index, 3)) (hf : cells + mc ≤ R.cells ∧ slots + ms ≤ R.slots) :
    vx_Run p l e R s m args below meth c H locs cells slots mc ms g rest (Qc (Value.ref b :: As).toArray) XC free := by
  obtain ⟨⟨hrc, hrs, hfr, hlo, hws, hcw⟩, hcode, hini, hy, hlen, hl, hin, hse⟩ := cw
  have hK : vx_Back l R p e below s args y 3 8 (PreOf R mc ms Pc) (PostOf Qc mc ms free) (vx_Post XC mc ms free) := vx_backW (hh := hh) (bytes := bytes) (maxL := maxL) (ret := ret) hM hp.1 hrc hrs hfr hlo hws hcw (fun a' U hW => word_at hW (Or.inl (by first | rfl | simp [Cond.onTables, Cond.keeps, Cond.steady])) hini)
  obtain ⟨hx, hb, hml, ho, -⟩ := S
  obtain ⟨-, ⟨cellB, hcB, hoB, hclB⟩, hPc⟩ := hp
  intro T hT X
  rcases vx_callVX X hx (C := C) (hh := hh) (bytes := bytes) (maxL := maxL) (ret := ret) ho hl hin hse hcode hy hK (by rw [hT]; exact hcB) hoB hclB hg (hsize.trans hml.symm) (argsL := As) (rest := rest) (fun sig h => hn.trans (hlen sig h)) hstack hW (by rw [hb]; exact hdg)
    (fun vm₁ hW₁ => ⟨hf.1, hf.2, hPc (T.setVm vm₁) hT hW₁⟩) with ⟨v, vm₁, ⟨U', l2, c2, s2⟩, hW₁, X', ⟨g', mk, t, L, e1, e2, hq, h1, hL, h2, h3⟩, st⟩ | ⟨q, vm₁, ⟨U', l2, c2, s2⟩, hW₁, X', ⟨g', mk, t, L, E, ce, e1, e2, hq, hce, hcv, hcl, h1, hL, h2, h3⟩, st⟩
  · dsimp only [Pt.U, Pt.locs, Pt.cells, Pt.slots] at X' e1 e2 h1 h2 h3 st
    subst h1; subst h2; subst h3
    exact Or.inl ⟨v, (T.setVm vm₁).calling g' mk (Value.ref b :: As).toArray, t, U', L, hT, X', hL, e1, e2, hq, st⟩
  · dsimp only [Pt.U, Pt.locs, Pt.cells, Pt.slots] at X' e1 e2 h1 h2 h3 st hcl
    subst h1; subst h2; subst h3
    exact Or.inr ⟨q, (T.setVm vm₁).calling g' mk (Value.ref b :: As).toArray, t, U', L, E, ce, hT, X', hL, e1, e2, hq, hce, hcv, vx_cls hW₁ hcl, st⟩
theorem vx_runSX {hh : List (Nat × Nat × Nat × Nat)} (S : CallFix p m c cc nL s args Ts own) (hM : vx_Met l y ws rm Pc Qc XC mc ms free) (cw : vx_CSW R s args own index y bytes maxL ret hh ws rm mc ms n) (hp : PreS s H Pc As)
    (hg : g.method = m) (hn : As.length = n) (hsize : g.locals.size = nL) (hstack : g.stack = As.reverse ++ rest) (hW : 2 * g.monitorRoom + (rest.map fun v => v.category).sum ≤ 8) (hdg : decode cc g.pc = .ok (.invokestatic index, 3)) (hf : cells + mc ≤ R.cells ∧ slots + ms ≤ R.slots) :
    vx_Run p l e R s m args below meth c H locs cells slots mc ms g rest (Qc As.toArray) XC free := by
  obtain ⟨⟨hrc, hrs, hfr, hlo, hws, hcw⟩, hcode, hini, hy, hlen, hl, hstt⟩ := cw
  have hK : vx_Back l R p e below s args y 3 8 (PreOf R mc ms Pc) (PostOf Qc mc ms free) (vx_Post XC mc ms free) := vx_backW (hh := hh) (bytes := bytes) (maxL := maxL) (ret := ret) hM hp.1 hrc hrs hfr hlo hws hcw (fun a' U hW => word_at hW (Or.inl (by first | rfl | simp [Cond.onTables, Cond.keeps, Cond.steady])) hini)
  obtain ⟨hx, hb, hml, ho, -⟩ := S
  intro T hT X
  rcases vx_callSX X hx (hh := hh) (bytes := bytes) (maxL := maxL) (ret := ret) ho hl hstt hini hcode hy hK hg (hsize.trans hml.symm) (argsL := As) (rest := rest) (fun sig h => hn.trans (hlen sig h)) hstack hW (by rw [hb]; exact hdg)
    (fun vm₁ hW₁ => ⟨hf.1, hf.2, hp.2 (T.setVm vm₁) hT hW₁⟩) with ⟨v, vm₁, ⟨U', l2, c2, s2⟩, hW₁, X', ⟨g', mk, t, L, e1, e2, hq, h1, hL, h2, h3⟩, st⟩ | ⟨q, vm₁, ⟨U', l2, c2, s2⟩, hW₁, X', ⟨g', mk, t, L, E, ce, e1, e2, hq, hce, hcv, hcl, h1, hL, h2, h3⟩, st⟩
  · dsimp only [Pt.U, Pt.locs, Pt.cells, Pt.slots] at X' e1 e2 h1 h2 h3 st
    subst h1; subst h2; subst h3
    exact Or.inl ⟨v, (T.setVm vm₁).calling g' mk As.toArray, t, U', L, hT, X', hL, e1, e2, hq, st⟩
  · dsimp only [Pt.U, Pt.locs, Pt.cells, Pt.slots] at X' e1 e2 h1 h2 h3 st hcl
    subst h1; subst h2; subst h3
    exact Or.inr ⟨q, (T.setVm vm₁).calling g' mk As.toArray, t, U', L, E, ce, hT, X', hL, e1, e2, hq, hce, hcv, vx_cls hW₁ hcl, st⟩
end
end VXH
theorem vx_ofWH {l : Launch} {y : MethodName} {ws ws' : List Cond} {rm : Room} {Pc : Array Value → State → Prop} {Qc : Array Value → State → Outcome → State → Prop} {XC : String → State → State → Prop} {mc ms : Nat} {free : Addr → Prop} {cc : ByteArray} {maxL : Nat} {ret : Option FieldType} {hh : List (Nat × Nat × Nat × Nat)}
    (hy : plainName y.cls = true) (hw : ws = Cond.codeWith y cc maxL ret hh :: ws')
    (body : ∀ p e s m args below meth c s₁, BodyLoose p l y (headSpec ws rm) cc maxL ret e s m args below meth c s₁ → c.maxLocals = maxL → Pc args s →
      W p l e (headSpec ws rm).room s m args below meth c s.heap [] 0 0 (vx_MQ below Qc XC args s mc ms free) (entryFrame m args maxL)) : vx_Met l y ws rm Pc Qc XC mc ms free := by
  refine MetFree.of_bodyS (code := cc) (maxLocals := maxL) (ret := ret) hy ?_ ?_
  · intro args s m h hn
    obtain ⟨m9, meth, c, hn9, h1, h2, h3, h4, -, h5, h6, -⟩ := Cond.codeWith_spec (atoms_spec (ws := ws) h _ (by rw [hw]; exact List.mem_cons_self))
    cases hn.symm.trans hn9
    exact ⟨meth, c, h1, h2, h3, h4, h5, h6⟩
  · intro p e s m args below meth c s₁ B hml hP _
    have hh0 : s₁.heap = s.heap := by rw [B.state]; rfl
    obtain ⟨t, a1, o, b1, b2, b3⟩ := body p e s m args below meth c s₁ B hml hP s₁ hh0 (Stand.of_body B)
    exact ⟨t, o, a1, b1, b2, b3⟩
/-! ===== END ===== -/
end
section
def RX0 : String := "HeadDots$Buffer"
def TX0 : u_T := fun k => match k with
  | 0 => ("HeadDots$Buffer", "codes", "[I", true)
  | _ => ("HeadDots$Buffer", "length", "I", false)
def tyX0 : Nat → FieldType := fun k => match k with
  | 0 => .array .int
  | _ => .int
abbrev wsX00 : List Cond := u_ws RX0 TX0 2
theorem nmX0 : ∀ a, a < 2 → ∀ b, b < 2 → a ≠ b → (TX0 a).2.1 ≠ (TX0 b).2.1 := by decide +kernel
theorem tyX0_ok : ∀ k, k < 2 → parseFieldDescriptor (TX0 k).2.2.1 = some (tyX0 k) := by decide +kernel
abbrev cX0_init : ByteArray := prog_2_method_1_code
def yX0_init : MethodName := ⟨RX0, "<init>", "()V"⟩
abbrev cX0_isFull : ByteArray := prog_2_method_2_code
def yX0_isFull : MethodName := ⟨RX0, "isFull", "()Z"⟩
abbrev cX0_addCode : ByteArray := prog_2_method_3_code
def yX0_addCode : MethodName := ⟨RX0, "addCode", "(I)V"⟩
abbrev cX0_codeAt : ByteArray := prog_2_method_4_code
def yX0_codeAt : MethodName := ⟨RX0, "codeAt", "(I)I"⟩
def RX1 : String := "HeadDots$Reader"
def TX1 : u_T := fun k => match k with
  | 0 => ("HeadDots$Reader", "mode", "I", false)
  | 1 => ("HeadDots$Reader", "modeBehindWord", "I", false)
  | 2 => ("HeadDots$Reader", "word", "Ljava/lang/String;", false)
  | 3 => ("HeadDots$Reader", "wordAt", "I", false)
  | 4 => ("HeadDots$Reader", "kind", "I", false)
  | 5 => ("HeadDots$Reader", "dots", "I", false)
  | 6 => ("HeadDots$Reader", "dotsDigits", "I", false)
  | 7 => ("HeadDots$Reader", "paperKind", "I", false)
  | 8 => ("HeadDots$Reader", "number", "I", false)
  | _ => ("HeadDots$Reader", "numberMost", "I", false)
def tyX1 : Nat → FieldType := fun k => match k with
  | 0 => .int
  | 1 => .int
  | 2 => .object "java/lang/String"
  | 3 => .int
  | 4 => .int
  | 5 => .int
  | 6 => .int
  | 7 => .int
  | 8 => .int
  | _ => .int
abbrev wsX10 : List Cond := u_ws RX1 TX1 10
theorem nmX1 : ∀ a, a < 10 → ∀ b, b < 10 → a ≠ b → (TX1 a).2.1 ≠ (TX1 b).2.1 := by decide +kernel
theorem tyX1_ok : ∀ k, k < 10 → parseFieldDescriptor (TX1 k).2.2.1 = some (tyX1 k) := by decide +kernel
abbrev cX1_init : ByteArray := prog_3_method_1_code
def yX1_init : MethodName := ⟨RX1, "<init>", "()V"⟩
abbrev cX1_beginPart : ByteArray := prog_3_method_2_code
def yX1_beginPart : MethodName := ⟨RX1, "beginPart", "()V"⟩
abbrev cX1_readUntilError : ByteArray := prog_3_method_3_code
def yX1_readUntilError : MethodName := ⟨RX1, "readUntilError", "(LHeadDots$Buffer;)I"⟩
abbrev cX1_isComplete : ByteArray := prog_3_method_4_code
def yX1_isComplete : MethodName := ⟨RX1, "isComplete", "()Z"⟩
abbrev cX1_take : ByteArray := prog_3_method_5_code
def yX1_take : MethodName := ⟨RX1, "take", "(I)Z"⟩
abbrev cX1_takeBetween : ByteArray := prog_3_method_6_code
def yX1_takeBetween : MethodName := ⟨RX1, "takeBetween", "()Z"⟩
abbrev cX1_takeFirst : ByteArray := prog_3_method_7_code
def yX1_takeFirst : MethodName := ⟨RX1, "takeFirst", "(I)Z"⟩
abbrev cX1_takeFirstOfPaper : ByteArray := prog_3_method_8_code
def yX1_takeFirstOfPaper : MethodName := ⟨RX1, "takeFirstOfPaper", "(I)Z"⟩
abbrev cX1_beginKind : ByteArray := prog_3_method_9_code
def yX1_beginKind : MethodName := ⟨RX1, "beginKind", "(ILjava/lang/String;I)Z"⟩
abbrev cX1_beginPaper : ByteArray := prog_3_method_10_code
def yX1_beginPaper : MethodName := ⟨RX1, "beginPaper", "(ILjava/lang/String;)Z"⟩
abbrev cX1_beginWord : ByteArray := prog_3_method_11_code
def yX1_beginWord : MethodName := ⟨RX1, "beginWord", "(Ljava/lang/String;I)Z"⟩
abbrev cX1_takeOfWord : ByteArray := prog_3_method_12_code
def yX1_takeOfWord : MethodName := ⟨RX1, "takeOfWord", "(I)Z"⟩
abbrev cX1_takeOfDots : ByteArray := prog_3_method_13_code
def yX1_takeOfDots : MethodName := ⟨RX1, "takeOfDots", "(I)Z"⟩
abbrev cX1_takeStar : ByteArray := prog_3_method_14_code
def yX1_takeStar : MethodName := ⟨RX1, "takeStar", "(I)Z"⟩
abbrev cX1_takeDigit : ByteArray := prog_3_method_15_code
def yX1_takeDigit : MethodName := ⟨RX1, "takeDigit", "(I)Z"⟩
abbrev cX1_hexDigit : ByteArray := prog_3_method_16_code
def yX1_hexDigit : MethodName := ⟨RX1, "hexDigit", "(I)I"⟩
def RX2 : String := "HeadDots$State"
def TX2 : u_T := fun k => match k with
  | 0 => ("HeadDots$State", "heat", "[I", true)
  | 1 => ("HeadDots$State", "pulses", "[I", true)
  | 2 => ("HeadDots$State", "settings", "[I", true)
  | 3 => ("HeadDots$State", "strip", "LHeadDots$Strip;", true)
  | 4 => ("HeadDots$State", "totals", "LHeadDots$Totals;", true)
  | 5 => ("HeadDots$State", "lastLine", "I", false)
  | 6 => ("HeadDots$State", "lineBefore", "I", false)
  | _ => ("HeadDots$State", "paperKind", "I", false)
def tyX2 : Nat → FieldType := fun k => match k with
  | 0 => .array .int
  | 1 => .array .int
  | 2 => .array .int
  | 3 => .object "HeadDots$Strip"
  | 4 => .object "HeadDots$Totals"
  | 5 => .int
  | 6 => .int
  | _ => .int
abbrev wsX20 : List Cond := u_ws RX2 TX2 8
theorem nmX2 : ∀ a, a < 8 → ∀ b, b < 8 → a ≠ b → (TX2 a).2.1 ≠ (TX2 b).2.1 := by decide +kernel
theorem tyX2_ok : ∀ k, k < 8 → parseFieldDescriptor (TX2 k).2.2.1 = some (tyX2 k) := by decide +kernel
abbrev cX2_init : ByteArray := prog_4_method_1_code
def yX2_init : MethodName := ⟨RX2, "<init>", "()V"⟩
abbrev cX2_copyFrom : ByteArray := prog_4_method_2_code
def yX2_copyFrom : MethodName := ⟨RX2, "copyFrom", "(LHeadDots$State;)V"⟩
abbrev cX2_setting : ByteArray := prog_4_method_3_code
def yX2_setting : MethodName := ⟨RX2, "setting", "(I)I"⟩
abbrev cX2_changeSetting : ByteArray := prog_4_method_4_code
def yX2_changeSetting : MethodName := ⟨RX2, "changeSetting", "(II)V"⟩
abbrev cX2_changePaper : ByteArray := prog_4_method_5_code
def yX2_changePaper : MethodName := ⟨RX2, "changePaper", "(I)V"⟩
abbrev cX2_printLines : ByteArray := prog_4_method_6_code
def yX2_printLines : MethodName := ⟨RX2, "printLines", "(II)V"⟩
abbrev cX2_printLine : ByteArray := prog_4_method_7_code
def yX2_printLine : MethodName := ⟨RX2, "printLine", "(I)I"⟩
abbrev cX2_dotsAtOnce : ByteArray := prog_4_method_8_code
def yX2_dotsAtOnce : MethodName := ⟨RX2, "dotsAtOnce", "()I"⟩
abbrev cX2_preparePulses : ByteArray := prog_4_method_9_code
def yX2_preparePulses : MethodName := ⟨RX2, "preparePulses", "(I)V"⟩
abbrev cX2_dotsOfPart : ByteArray := prog_4_method_10_code
def yX2_dotsOfPart : MethodName := ⟨RX2, "dotsOfPart", "(IIII)I"⟩
abbrev cX2_waitOfPart : ByteArray := prog_4_method_11_code
def yX2_waitOfPart : MethodName := ⟨RX2, "waitOfPart", "(I)I"⟩
abbrev cX2_heatPart : ByteArray := prog_4_method_12_code
def yX2_heatPart : MethodName := ⟨RX2, "heatPart", "(I)I"⟩
abbrev cX2_longestPulse : ByteArray := prog_4_method_13_code
def yX2_longestPulse : MethodName := ⟨RX2, "longestPulse", "(I)I"⟩
abbrev cX2_pulseIn : ByteArray := prog_4_method_14_code
def yX2_pulseIn : MethodName := ⟨RX2, "pulseIn", "(III)I"⟩
abbrev cX2_pulseAlone : ByteArray := prog_4_method_15_code
def yX2_pulseAlone : MethodName := ⟨RX2, "pulseAlone", "(II)I"⟩
abbrev cX2_waitFor : ByteArray := prog_4_method_16_code
def yX2_waitFor : MethodName := ⟨RX2, "waitFor", "(II)I"⟩
abbrev cX2_isDark : ByteArray := prog_4_method_17_code
def yX2_isDark : MethodName := ⟨RX2, "isDark", "(I)Z"⟩
abbrev cX2_passTime : ByteArray := prog_4_method_18_code
def yX2_passTime : MethodName := ⟨RX2, "passTime", "(I)V"⟩
abbrev cX2_cooledFor : ByteArray := prog_4_method_19_code
def yX2_cooledFor : MethodName := ⟨RX2, "cooledFor", "(II)I"⟩
abbrev cX2_timeDownTo : ByteArray := prog_4_method_20_code
def yX2_timeDownTo : MethodName := ⟨RX2, "timeDownTo", "(II)I"⟩
abbrev cX2_cooled : ByteArray := prog_4_method_21_code
def yX2_cooled : MethodName := ⟨RX2, "cooled", "(II)I"⟩
abbrev cX2_timeUntilCool : ByteArray := prog_4_method_22_code
def yX2_timeUntilCool : MethodName := ⟨RX2, "timeUntilCool", "(I)I"⟩
abbrev cX2_hottestDot : ByteArray := prog_4_method_23_code
def yX2_hottestDot : MethodName := ⟨RX2, "hottestDot", "()I"⟩
abbrev cX2_leastDarkSetting : ByteArray := prog_4_method_24_code
def yX2_leastDarkSetting : MethodName := ⟨RX2, "leastDarkSetting", "(I)I"⟩
abbrev cX2_mean : ByteArray := prog_4_method_25_code
def yX2_mean : MethodName := ⟨RX2, "mean", "()F"⟩
abbrev cX2_numberOfDot : ByteArray := prog_4_method_26_code
def yX2_numberOfDot : MethodName := ⟨RX2, "numberOfDot", "(II)I"⟩
def RX3 : String := "HeadDots$Strip"
def TX3 : u_T := fun k => match k with
  | 0 => ("HeadDots$Strip", "dark", "[I", true)
  | 1 => ("HeadDots$Strip", "faint", "[I", true)
  | 2 => ("HeadDots$Strip", "parts", "[I", true)
  | _ => ("HeadDots$Strip", "size", "I", false)
def tyX3 : Nat → FieldType := fun k => match k with
  | 0 => .array .int
  | 1 => .array .int
  | 2 => .array .int
  | _ => .int
abbrev wsX30 : List Cond := u_ws RX3 TX3 4
theorem nmX3 : ∀ a, a < 4 → ∀ b, b < 4 → a ≠ b → (TX3 a).2.1 ≠ (TX3 b).2.1 := by decide +kernel
theorem tyX3_ok : ∀ k, k < 4 → parseFieldDescriptor (TX3 k).2.2.1 = some (tyX3 k) := by decide +kernel
abbrev cX3_init : ByteArray := prog_5_method_1_code
def yX3_init : MethodName := ⟨RX3, "<init>", "()V"⟩
abbrev cX3_copyFrom : ByteArray := prog_5_method_2_code
def yX3_copyFrom : MethodName := ⟨RX3, "copyFrom", "(LHeadDots$Strip;)V"⟩
abbrev cX3_addLine : ByteArray := prog_5_method_3_code
def yX3_addLine : MethodName := ⟨RX3, "addLine", "(III)V"⟩
abbrev cX3_pushFront : ByteArray := prog_5_method_4_code
def yX3_pushFront : MethodName := ⟨RX3, "pushFront", "([II)V"⟩
abbrev cX3_numberOfLine : ByteArray := prog_5_method_5_code
def yX3_numberOfLine : MethodName := ⟨RX3, "numberOfLine", "(II)I"⟩
abbrev cX3_textLength : ByteArray := prog_5_method_6_code
def yX3_textLength : MethodName := ⟨RX3, "textLength", "(I)I"⟩
abbrev cX3_sign : ByteArray := prog_5_method_7_code
def yX3_sign : MethodName := ⟨RX3, "sign", "(II)I"⟩
def RX4 : String := "HeadDots$Totals"
def TX4 : u_T := fun k => match k with
  | 0 => ("HeadDots$Totals", "dotsOf", "[I", true)
  | 1 => ("HeadDots$Totals", "faintOf", "[I", true)
  | 2 => ("HeadDots$Totals", "time", "I", false)
  | 3 => ("HeadDots$Totals", "lines", "I", false)
  | 4 => ("HeadDots$Totals", "parts", "I", false)
  | 5 => ("HeadDots$Totals", "waits", "I", false)
  | 6 => ("HeadDots$Totals", "dots", "I", false)
  | 7 => ("HeadDots$Totals", "faint", "I", false)
  | _ => ("HeadDots$Totals", "hottest", "I", false)
def tyX4 : Nat → FieldType := fun k => match k with
  | 0 => .array .int
  | 1 => .array .int
  | 2 => .int
  | 3 => .int
  | 4 => .int
  | 5 => .int
  | 6 => .int
  | 7 => .int
  | _ => .int
abbrev wsX40 : List Cond := u_ws RX4 TX4 9
theorem nmX4 : ∀ a, a < 9 → ∀ b, b < 9 → a ≠ b → (TX4 a).2.1 ≠ (TX4 b).2.1 := by decide +kernel
theorem tyX4_ok : ∀ k, k < 9 → parseFieldDescriptor (TX4 k).2.2.1 = some (tyX4 k) := by decide +kernel
abbrev cX4_init : ByteArray := prog_6_method_1_code
def yX4_init : MethodName := ⟨RX4, "<init>", "()V"⟩
abbrev cX4_copyFrom : ByteArray := prog_6_method_2_code
def yX4_copyFrom : MethodName := ⟨RX4, "copyFrom", "(LHeadDots$Totals;)V"⟩
abbrev cX4_addLine : ByteArray := prog_6_method_3_code
def yX4_addLine : MethodName := ⟨RX4, "addLine", "(III)V"⟩
abbrev cX4_addDots : ByteArray := prog_6_method_4_code
def yX4_addDots : MethodName := ⟨RX4, "addDots", "([II)V"⟩
abbrev cX4_dotByDot : ByteArray := prog_6_method_5_code
def yX4_dotByDot : MethodName := ⟨RX4, "dotByDot", "()I"⟩
abbrev cX4_darkShare : ByteArray := prog_6_method_6_code
def yX4_darkShare : MethodName := ⟨RX4, "darkShare", "()D"⟩
def RX5 : String := "HeadDots"
def TX5 : u_T := fun k => match k with
  | 0 => ("HeadDots", "now", "LHeadDots$State;", true)
  | 1 => ("HeadDots", "snapshot", "LHeadDots$State;", true)
  | 2 => ("HeadDots", "trial", "LHeadDots$State;", true)
  | 3 => ("HeadDots", "saved", "[LHeadDots$State;", true)
  | 4 => ("HeadDots", "buffer", "LHeadDots$Buffer;", true)
  | 5 => ("HeadDots", "reader", "LHeadDots$Reader;", true)
  | 6 => ("HeadDots", "savedCount", "I", false)
  | _ => ("HeadDots", "hasSnapshot", "Z", false)
def tyX5 : Nat → FieldType := fun k => match k with
  | 0 => .object "HeadDots$State"
  | 1 => .object "HeadDots$State"
  | 2 => .object "HeadDots$State"
  | 3 => .array (.object "HeadDots$State")
  | 4 => .object "HeadDots$Buffer"
  | 5 => .object "HeadDots$Reader"
  | 6 => .int
  | _ => .boolean
abbrev wsX50 : List Cond := u_ws RX5 TX5 8
theorem nmX5 : ∀ a, a < 8 → ∀ b, b < 8 → a ≠ b → (TX5 a).2.1 ≠ (TX5 b).2.1 := by decide +kernel
theorem tyX5_ok : ∀ k, k < 8 → parseFieldDescriptor (TX5 k).2.2.1 = some (tyX5 k) := by decide +kernel
abbrev cX5_init : ByteArray := prog_1_method_1_code
def yX5_init : MethodName := ⟨RX5, "<init>", "()V"⟩
abbrev cX5_line : ByteArray := prog_1_method_2_code
def yX5_line : MethodName := ⟨RX5, "line", "(I)I"⟩
abbrev cX5_lines : ByteArray := prog_1_method_3_code
def yX5_lines : MethodName := ⟨RX5, "lines", "(II)I"⟩
abbrev cX5_rest : ByteArray := prog_1_method_4_code
def yX5_rest : MethodName := ⟨RX5, "rest", "(I)I"⟩
abbrev cX5_paper : ByteArray := prog_1_method_5_code
def yX5_paper : MethodName := ⟨RX5, "paper", "(I)I"⟩
abbrev cX5_set : ByteArray := prog_1_method_6_code
def yX5_set : MethodName := ⟨RX5, "set", "(II)I"⟩
abbrev cX5_append : ByteArray := prog_1_method_7_code
def yX5_append : MethodName := ⟨RX5, "append", "(I)I"⟩
abbrev cX5_clearBuffer : ByteArray := prog_1_method_8_code
def yX5_clearBuffer : MethodName := ⟨RX5, "clearBuffer", "()I"⟩
abbrev cX5_firstError : ByteArray := prog_1_method_9_code
def yX5_firstError : MethodName := ⟨RX5, "firstError", "()I"⟩
abbrev cX5_print : ByteArray := prog_1_method_10_code
def yX5_print : MethodName := ⟨RX5, "print", "()I"⟩
abbrev cX5_told : ByteArray := prog_1_method_11_code
def yX5_told : MethodName := ⟨RX5, "told", "(II)I"⟩
abbrev cX5_undo : ByteArray := prog_1_method_12_code
def yX5_undo : MethodName := ⟨RX5, "undo", "()I"⟩
abbrev cX5_keep : ByteArray := prog_1_method_13_code
def yX5_keep : MethodName := ⟨RX5, "keep", "()I"⟩
abbrev cX5_restore : ByteArray := prog_1_method_14_code
def yX5_restore : MethodName := ⟨RX5, "restore", "()I"⟩
abbrev cX5_dot : ByteArray := prog_1_method_15_code
def yX5_dot : MethodName := ⟨RX5, "dot", "(II)I"⟩
abbrev cX5_kept : ByteArray := prog_1_method_16_code
def yX5_kept : MethodName := ⟨RX5, "kept", "(II)I"⟩
abbrev cX5_count : ByteArray := prog_1_method_17_code
def yX5_count : MethodName := ⟨RX5, "count", "(I)I"⟩
abbrev cX5_ifPrinted : ByteArray := prog_1_method_18_code
def yX5_ifPrinted : MethodName := ⟨RX5, "ifPrinted", "(II)I"⟩
abbrev cX5_betterWay : ByteArray := prog_1_method_19_code
def yX5_betterWay : MethodName := ⟨RX5, "betterWay", "(I)I"⟩
abbrev cX5_coolIn : ByteArray := prog_1_method_20_code
def yX5_coolIn : MethodName := ⟨RX5, "coolIn", "(I)I"⟩
abbrev cX5_darkFrom : ByteArray := prog_1_method_21_code
def yX5_darkFrom : MethodName := ⟨RX5, "darkFrom", "(I)I"⟩
abbrev cX5_darkness : ByteArray := prog_1_method_22_code
def yX5_darkness : MethodName := ⟨RX5, "darkness", "()D"⟩
abbrev cX5_meanHeat : ByteArray := prog_1_method_23_code
def yX5_meanHeat : MethodName := ⟨RX5, "meanHeat", "()F"⟩
abbrev cX5_digest : ByteArray := prog_1_method_24_code
def yX5_digest : MethodName := ⟨RX5, "digest", "()J"⟩
abbrev cX5_saveState : ByteArray := prog_1_method_25_code
def yX5_saveState : MethodName := ⟨RX5, "saveState", "()V"⟩
abbrev cX5_dropOldest : ByteArray := prog_1_method_26_code
def yX5_dropOldest : MethodName := ⟨RX5, "dropOldest", "()V"⟩
abbrev cX5_savedAt : ByteArray := prog_1_method_27_code
def yX5_savedAt : MethodName := ⟨RX5, "savedAt", "(I)LHeadDots$State;"⟩
abbrev cX5_printPartOfText : ByteArray := prog_1_method_28_code
def yX5_printPartOfText : MethodName := ⟨RX5, "printPartOfText", "()V"⟩
abbrev cX5_counted : ByteArray := prog_1_method_29_code
def yX5_counted : MethodName := ⟨RX5, "counted", "(I)I"⟩
abbrev cX5_tryLine : ByteArray := prog_1_method_30_code
def yX5_tryLine : MethodName := ⟨RX5, "tryLine", "(II)V"⟩
abbrev cX5_tried : ByteArray := prog_1_method_31_code
def yX5_tried : MethodName := ⟨RX5, "tried", "(I)I"⟩
abbrev cX5_fasterWay : ByteArray := prog_1_method_32_code
def yX5_fasterWay : MethodName := ⟨RX5, "fasterWay", "(I)I"⟩
abbrev cX5_mixedDots : ByteArray := prog_1_method_33_code
def yX5_mixedDots : MethodName := ⟨RX5, "mixedDots", "(J)J"⟩
abbrev cX5_mixedStrip : ByteArray := prog_1_method_34_code
def yX5_mixedStrip : MethodName := ⟨RX5, "mixedStrip", "(J)J"⟩
abbrev cX5_mixedTrials : ByteArray := prog_1_method_35_code
def yX5_mixedTrials : MethodName := ⟨RX5, "mixedTrials", "(J)J"⟩
abbrev cX5_mixedBuffer : ByteArray := prog_1_method_36_code
def yX5_mixedBuffer : MethodName := ⟨RX5, "mixedBuffer", "(J)J"⟩
abbrev cX5_mixed : ByteArray := prog_1_method_37_code
def yX5_mixed : MethodName := ⟨RX5, "mixed", "(JJ)J"⟩
abbrev cX5_bitsOfDouble : ByteArray := prog_1_method_38_code
def yX5_bitsOfDouble : MethodName := ⟨RX5, "bitsOfDouble", "(D)J"⟩
abbrev cX5_bitsOfFloat : ByteArray := prog_1_method_39_code
def yX5_bitsOfFloat : MethodName := ⟨RX5, "bitsOfFloat", "(F)I"⟩
abbrev cX5_isWithin : ByteArray := prog_1_method_40_code
def yX5_isWithin : MethodName := ⟨RX5, "isWithin", "(III)Z"⟩
abbrev cX5_isLine : ByteArray := prog_1_method_41_code
def yX5_isLine : MethodName := ⟨RX5, "isLine", "(I)Z"⟩
abbrev cX5_isDot : ByteArray := prog_1_method_42_code
def yX5_isDot : MethodName := ⟨RX5, "isDot", "(I)Z"⟩
abbrev cX5_bitOf : ByteArray := prog_1_method_43_code
def yX5_bitOf : MethodName := ⟨RX5, "bitOf", "(II)I"⟩
abbrev cX5_at : ByteArray := prog_1_method_44_code
def yX5_at : MethodName := ⟨RX5, "at", "([II)I"⟩
abbrev cX5_put : ByteArray := prog_1_method_45_code
def yX5_put : MethodName := ⟨RX5, "put", "([III)V"⟩
abbrev cX5_copyRow : ByteArray := prog_1_method_46_code
def yX5_copyRow : MethodName := ⟨RX5, "copyRow", "([I[I)V"⟩
def RX6 : String := "HeadDotsModel"
def TX6 : u_T := fun k => match k with
  | 0 => ("HeadDotsModel", "row", "[I", true)
  | 1 => ("HeadDotsModel", "saved", "[I", true)
  | 2 => ("HeadDotsModel", "savedMany", "I", false)
  | 3 => ("HeadDotsModel", "snapshot", "[I", true)
  | 4 => ("HeadDotsModel", "isKept", "Z", false)
  | 5 => ("HeadDotsModel", "aside", "[I", true)
  | 6 => ("HeadDotsModel", "thrown", "I", false)
  | 7 => ("HeadDotsModel", "waits", "I", false)
  | 8 => ("HeadDotsModel", "dark", "I", false)
  | 9 => ("HeadDotsModel", "hottest", "I", false)
  | 10 => ("HeadDotsModel", "buffer", "[I", true)
  | 11 => ("HeadDotsModel", "length", "I", false)
  | 12 => ("HeadDotsModel", "spot", "I", false)
  | 13 => ("HeadDotsModel", "parts", "I", false)
  | 14 => ("HeadDotsModel", "kind", "[I", true)
  | 15 => ("HeadDotsModel", "what", "[I", true)
  | 16 => ("HeadDotsModel", "times", "[I", true)
  | _ => ("HeadDotsModel", "hash", "J", false)
def tyX6 : Nat → FieldType := fun k => match k with
  | 0 => .array .int
  | 1 => .array .int
  | 2 => .int
  | 3 => .array .int
  | 4 => .boolean
  | 5 => .array .int
  | 6 => .int
  | 7 => .int
  | 8 => .int
  | 9 => .int
  | 10 => .array .int
  | 11 => .int
  | 12 => .int
  | 13 => .int
  | 14 => .array .int
  | 15 => .array .int
  | 16 => .array .int
  | _ => .long
abbrev wsX60 : List Cond := u_ws RX6 TX6 18
theorem nmX6 : ∀ a, a < 18 → ∀ b, b < 18 → a ≠ b → (TX6 a).2.1 ≠ (TX6 b).2.1 := by decide +kernel
theorem tyX6_ok : ∀ k, k < 18 → parseFieldDescriptor (TX6 k).2.2.1 = some (tyX6 k) := by decide +kernel
abbrev cX6_init : ByteArray := prog_8_method_1_code
def yX6_init : MethodName := ⟨RX6, "<init>", "()V"⟩
abbrev cX6_thrown : ByteArray := prog_8_method_2_code
def yX6_thrown : MethodName := ⟨RX6, "thrown", "()I"⟩
abbrev cX6_fails : ByteArray := prog_8_method_3_code
def yX6_fails : MethodName := ⟨RX6, "fails", "(I)I"⟩
abbrev cX6_in : ByteArray := prog_8_method_4_code
def yX6_in : MethodName := ⟨RX6, "in", "(III)Z"⟩
abbrev cX6_isLine : ByteArray := prog_8_method_5_code
def yX6_isLine : MethodName := ⟨RX6, "isLine", "(I)Z"⟩
abbrev cX6_save : ByteArray := prog_8_method_6_code
def yX6_save : MethodName := ⟨RX6, "save", "()V"⟩
abbrev cX6_putAside : ByteArray := prog_8_method_7_code
def yX6_putAside : MethodName := ⟨RX6, "putAside", "()V"⟩
abbrev cX6_putBack : ByteArray := prog_8_method_8_code
def yX6_putBack : MethodName := ⟨RX6, "putBack", "()V"⟩
abbrev cX6_undo : ByteArray := prog_8_method_9_code
def yX6_undo : MethodName := ⟨RX6, "undo", "()I"⟩
abbrev cX6_keep : ByteArray := prog_8_method_10_code
def yX6_keep : MethodName := ⟨RX6, "keep", "()I"⟩
abbrev cX6_restore : ByteArray := prog_8_method_11_code
def yX6_restore : MethodName := ⟨RX6, "restore", "()I"⟩
abbrev cX6_cooled : ByteArray := prog_8_method_12_code
def yX6_cooled : MethodName := ⟨RX6, "cooled", "(I)I"⟩
abbrev cX6_pass : ByteArray := prog_8_method_13_code
def yX6_pass : MethodName := ⟨RX6, "pass", "(I)V"⟩
abbrev cX6_bit : ByteArray := prog_8_method_14_code
def yX6_bit : MethodName := ⟨RX6, "bit", "(II)I"⟩
abbrev cX6_pulseBy : ByteArray := prog_8_method_15_code
def yX6_pulseBy : MethodName := ⟨RX6, "pulseBy", "(III)I"⟩
abbrev cX6_pulse : ByteArray := prog_8_method_16_code
def yX6_pulse : MethodName := ⟨RX6, "pulse", "(II)I"⟩
abbrev cX6_darkHeat : ByteArray := prog_8_method_17_code
def yX6_darkHeat : MethodName := ⟨RX6, "darkHeat", "()I"⟩
abbrev cX6_ones : ByteArray := prog_8_method_18_code
def yX6_ones : MethodName := ⟨RX6, "ones", "(I)I"⟩
abbrev cX6_atOnce : ByteArray := prog_8_method_19_code
def yX6_atOnce : MethodName := ⟨RX6, "atOnce", "()I"⟩
abbrev cX6_partsOf : ByteArray := prog_8_method_20_code
def yX6_partsOf : MethodName := ⟨RX6, "partsOf", "(I)I"⟩
abbrev cX6_dotsOfPart : ByteArray := prog_8_method_21_code
def yX6_dotsOfPart : MethodName := ⟨RX6, "dotsOfPart", "(II)I"⟩
abbrev cX6_isCool : ByteArray := prog_8_method_22_code
def yX6_isCool : MethodName := ⟨RX6, "isCool", "(II)Z"⟩
abbrev cX6_printPart : ByteArray := prog_8_method_23_code
def yX6_printPart : MethodName := ⟨RX6, "printPart", "(II)I"⟩
abbrev cX6_keepLine : ByteArray := prog_8_method_24_code
def yX6_keepLine : MethodName := ⟨RX6, "keepLine", "(II)V"⟩
abbrev cX6_printLine : ByteArray := prog_8_method_25_code
def yX6_printLine : MethodName := ⟨RX6, "printLine", "(I)I"⟩
abbrev cX6_sum : ByteArray := prog_8_method_26_code
def yX6_sum : MethodName := ⟨RX6, "sum", "(I)I"⟩
abbrev cX6_hottestNow : ByteArray := prog_8_method_27_code
def yX6_hottestNow : MethodName := ⟨RX6, "hottestNow", "()I"⟩
abbrev cX6_line : ByteArray := prog_8_method_28_code
def yX6_line : MethodName := ⟨RX6, "line", "(I)I"⟩
abbrev cX6_printSome : ByteArray := prog_8_method_29_code
def yX6_printSome : MethodName := ⟨RX6, "printSome", "(II)I"⟩
abbrev cX6_lines : ByteArray := prog_8_method_30_code
def yX6_lines : MethodName := ⟨RX6, "lines", "(II)I"⟩
abbrev cX6_rest : ByteArray := prog_8_method_31_code
def yX6_rest : MethodName := ⟨RX6, "rest", "(I)I"⟩
abbrev cX6_paperNow : ByteArray := prog_8_method_32_code
def yX6_paperNow : MethodName := ⟨RX6, "paperNow", "(I)I"⟩
abbrev cX6_paper : ByteArray := prog_8_method_33_code
def yX6_paper : MethodName := ⟨RX6, "paper", "(I)I"⟩
abbrev cX6_maySet : ByteArray := prog_8_method_34_code
def yX6_maySet : MethodName := ⟨RX6, "maySet", "(II)Z"⟩
abbrev cX6_set : ByteArray := prog_8_method_35_code
def yX6_set : MethodName := ⟨RX6, "set", "(II)I"⟩
abbrev cX6_append : ByteArray := prog_8_method_36_code
def yX6_append : MethodName := ⟨RX6, "append", "(I)I"⟩
abbrev cX6_clearBuffer : ByteArray := prog_8_method_37_code
def yX6_clearBuffer : MethodName := ⟨RX6, "clearBuffer", "()I"⟩
abbrev cX6_sign : ByteArray := prog_8_method_38_code
def yX6_sign : MethodName := ⟨RX6, "sign", "()I"⟩
abbrev cX6_takes : ByteArray := prog_8_method_39_code
def yX6_takes : MethodName := ⟨RX6, "takes", "(I)Z"⟩
abbrev cX6_takesFour : ByteArray := prog_8_method_40_code
def yX6_takesFour : MethodName := ⟨RX6, "takesFour", "(IIII)Z"⟩
abbrev cX6_addPart : ByteArray := prog_8_method_41_code
def yX6_addPart : MethodName := ⟨RX6, "addPart", "(III)Z"⟩
abbrev cX6_readNumber : ByteArray := prog_8_method_42_code
def yX6_readNumber : MethodName := ⟨RX6, "readNumber", "(I)I"⟩
abbrev cX6_readLine : ByteArray := prog_8_method_43_code
def yX6_readLine : MethodName := ⟨RX6, "readLine", "()Z"⟩
abbrev cX6_readPaper : ByteArray := prog_8_method_44_code
def yX6_readPaper : MethodName := ⟨RX6, "readPaper", "()Z"⟩
abbrev cX6_readRest : ByteArray := prog_8_method_45_code
def yX6_readRest : MethodName := ⟨RX6, "readRest", "()Z"⟩
abbrev cX6_readPart : ByteArray := prog_8_method_46_code
def yX6_readPart : MethodName := ⟨RX6, "readPart", "()Z"⟩
abbrev cX6_arePrints : ByteArray := prog_8_method_47_code
def yX6_arePrints : MethodName := ⟨RX6, "arePrints", "()Z"⟩
abbrev cX6_firstError : ByteArray := prog_8_method_48_code
def yX6_firstError : MethodName := ⟨RX6, "firstError", "()I"⟩
abbrev cX6_print : ByteArray := prog_8_method_49_code
def yX6_print : MethodName := ⟨RX6, "print", "()I"⟩
abbrev cX6_toldAt : ByteArray := prog_8_method_50_code
def yX6_toldAt : MethodName := ⟨RX6, "toldAt", "(II)I"⟩
abbrev cX6_told : ByteArray := prog_8_method_51_code
def yX6_told : MethodName := ⟨RX6, "told", "(II)I"⟩
abbrev cX6_waitOf : ByteArray := prog_8_method_52_code
def yX6_waitOf : MethodName := ⟨RX6, "waitOf", "(I)I"⟩
abbrev cX6_ofDot : ByteArray := prog_8_method_53_code
def yX6_ofDot : MethodName := ⟨RX6, "ofDot", "(II)I"⟩
abbrev cX6_dot : ByteArray := prog_8_method_54_code
def yX6_dot : MethodName := ⟨RX6, "dot", "(II)I"⟩
abbrev cX6_kept : ByteArray := prog_8_method_55_code
def yX6_kept : MethodName := ⟨RX6, "kept", "(II)I"⟩
abbrev cX6_number : ByteArray := prog_8_method_56_code
def yX6_number : MethodName := ⟨RX6, "number", "(I)I"⟩
abbrev cX6_count : ByteArray := prog_8_method_57_code
def yX6_count : MethodName := ⟨RX6, "count", "(I)I"⟩
abbrev cX6_wouldBring : ByteArray := prog_8_method_58_code
def yX6_wouldBring : MethodName := ⟨RX6, "wouldBring", "(II)I"⟩
abbrev cX6_ifPrinted : ByteArray := prog_8_method_59_code
def yX6_ifPrinted : MethodName := ⟨RX6, "ifPrinted", "(II)I"⟩
abbrev cX6_better : ByteArray := prog_8_method_60_code
def yX6_better : MethodName := ⟨RX6, "better", "(I)I"⟩
abbrev cX6_betterWay : ByteArray := prog_8_method_61_code
def yX6_betterWay : MethodName := ⟨RX6, "betterWay", "(I)I"⟩
abbrev cX6_timeToCool : ByteArray := prog_8_method_62_code
def yX6_timeToCool : MethodName := ⟨RX6, "timeToCool", "(I)I"⟩
abbrev cX6_coolIn : ByteArray := prog_8_method_63_code
def yX6_coolIn : MethodName := ⟨RX6, "coolIn", "(I)I"⟩
abbrev cX6_isDarkBy : ByteArray := prog_8_method_64_code
def yX6_isDarkBy : MethodName := ⟨RX6, "isDarkBy", "(II)Z"⟩
abbrev cX6_leastDark : ByteArray := prog_8_method_65_code
def yX6_leastDark : MethodName := ⟨RX6, "leastDark", "(I)I"⟩
abbrev cX6_darkFrom : ByteArray := prog_8_method_66_code
def yX6_darkFrom : MethodName := ⟨RX6, "darkFrom", "(I)I"⟩
abbrev cX6_share : ByteArray := prog_8_method_67_code
def yX6_share : MethodName := ⟨RX6, "share", "()D"⟩
abbrev cX6_darkness : ByteArray := prog_8_method_68_code
def yX6_darkness : MethodName := ⟨RX6, "darkness", "()D"⟩
abbrev cX6_mean : ByteArray := prog_8_method_69_code
def yX6_mean : MethodName := ⟨RX6, "mean", "()F"⟩
abbrev cX6_meanHeat : ByteArray := prog_8_method_70_code
def yX6_meanHeat : MethodName := ⟨RX6, "meanHeat", "()F"⟩
abbrev cX6_mix : ByteArray := prog_8_method_71_code
def yX6_mix : MethodName := ⟨RX6, "mix", "(J)V"⟩
abbrev cX6_mixStrip : ByteArray := prog_8_method_72_code
def yX6_mixStrip : MethodName := ⟨RX6, "mixStrip", "()V"⟩
abbrev cX6_digest : ByteArray := prog_8_method_73_code
def yX6_digest : MethodName := ⟨RX6, "digest", "()J"⟩
def RJxe99ae : String := "java/lang/Double"
def TJxe99ae : u_T := fun k => match k with
  | _ => ("", "", "", false)
def tyJxe99ae : Nat → FieldType := fun k => match k with
  | _ => .int
abbrev wsJxe99ae0 : List Cond := u_ws RJxe99ae TJxe99ae 0
theorem nmJxe99ae : ∀ a, a < 0 → ∀ b, b < 0 → a ≠ b → (TJxe99ae a).2.1 ≠ (TJxe99ae b).2.1 := by decide +kernel
theorem tyJxe99ae_ok : ∀ k, k < 0 → parseFieldDescriptor (TJxe99ae k).2.2.1 = some (tyJxe99ae k) := by decide +kernel
abbrev cJxe99ae_isNaN_b9ae7 : ByteArray := prog_9_method_6_code
def yJxe99ae_isNaN_b9ae7 : MethodName := ⟨RJxe99ae, "isNaN", "(D)Z"⟩
abbrev cJxe99ae_doubleToLongBits_ccdee : ByteArray := prog_9_method_23_code
def yJxe99ae_doubleToLongBits_ccdee : MethodName := ⟨RJxe99ae, "doubleToLongBits", "(D)J"⟩
def RJxf58ca : String := "java/lang/Float"
def TJxf58ca : u_T := fun k => match k with
  | _ => ("", "", "", false)
def tyJxf58ca : Nat → FieldType := fun k => match k with
  | _ => .int
abbrev wsJxf58ca0 : List Cond := u_ws RJxf58ca TJxf58ca 0
theorem nmJxf58ca : ∀ a, a < 0 → ∀ b, b < 0 → a ≠ b → (TJxf58ca a).2.1 ≠ (TJxf58ca b).2.1 := by decide +kernel
theorem tyJxf58ca_ok : ∀ k, k < 0 → parseFieldDescriptor (TJxf58ca k).2.2.1 = some (tyJxf58ca k) := by decide +kernel
abbrev cJxf58ca_isNaN_12338 : ByteArray := prog_11_method_6_code
def yJxf58ca_isNaN_12338 : MethodName := ⟨RJxf58ca, "isNaN", "(F)Z"⟩
abbrev cJxf58ca_floatToIntBits_5c35a : ByteArray := prog_11_method_24_code
def yJxf58ca_floatToIntBits_5c35a : MethodName := ⟨RJxf58ca, "floatToIntBits", "(F)I"⟩
def RJ6 : String := "java/lang/Integer"
def TJ6 : u_T := fun k => match k with
  | _ => ("", "", "", false)
def tyJ6 : Nat → FieldType := fun k => match k with
  | _ => .int
abbrev wsJ60 : List Cond := u_ws RJ6 TJ6 0
theorem nmJ6 : ∀ a, a < 0 → ∀ b, b < 0 → a ≠ b → (TJ6 a).2.1 ≠ (TJ6 b).2.1 := by decide +kernel
theorem tyJ6_ok : ∀ k, k < 0 → parseFieldDescriptor (TJ6 k).2.2.1 = some (tyJ6 k) := by decide +kernel
abbrev cJ6_bitCount_0f7a4 : ByteArray := prog_15_method_49_code
def yJ6_bitCount_0f7a4 : MethodName := ⟨RJ6, "bitCount", "(I)I"⟩
def RJ9 : String := "java/lang/Math"
def TJ9 : u_T := fun k => match k with
  | _ => ("", "", "", false)
def tyJ9 : Nat → FieldType := fun k => match k with
  | _ => .int
abbrev wsJ90 : List Cond := u_ws RJ9 TJ9 0
theorem nmJ9 : ∀ a, a < 0 → ∀ b, b < 0 → a ≠ b → (TJ9 a).2.1 ≠ (TJ9 b).2.1 := by decide +kernel
theorem tyJ9_ok : ∀ k, k < 0 → parseFieldDescriptor (TJ9 k).2.2.1 = some (tyJ9 k) := by decide +kernel
abbrev cJ9_max_7cf53 : ByteArray := prog_16_method_65_code
def yJ9_max_7cf53 : MethodName := ⟨RJ9, "max", "(II)I"⟩
abbrev cJ9_min_7cf53 : ByteArray := prog_16_method_69_code
def yJ9_min_7cf53 : MethodName := ⟨RJ9, "min", "(II)I"⟩
def RJ0 : String := "java/lang/String"
def TJ0 : u_T := fun k => match k with
  | _ => ("", "", "", false)
def tyJ0 : Nat → FieldType := fun k => match k with
  | _ => .int
abbrev wsJ00 : List Cond := u_ws RJ0 TJ0 0
theorem nmJ0 : ∀ a, a < 0 → ∀ b, b < 0 → a ≠ b → (TJ0 a).2.1 ≠ (TJ0 b).2.1 := by decide +kernel
theorem tyJ0_ok : ∀ k, k < 0 → parseFieldDescriptor (TJ0 k).2.2.1 = some (tyJ0 k) := by decide +kernel
abbrev cJ0_length_8abf5 : ByteArray := prog_18_method_54_code
def yJ0_length_8abf5 : MethodName := ⟨RJ0, "length", "()I"⟩
abbrev cJ0_charAt_5068e : ByteArray := prog_18_method_56_code
def yJ0_charAt_5068e : MethodName := ⟨RJ0, "charAt", "(I)C"⟩
abbrev cJ0_coder_7d493 : ByteArray := prog_18_method_152_code
def yJ0_coder_7d493 : MethodName := ⟨RJ0, "coder", "()B"⟩
abbrev cJ0_isLatin1_aae02 : ByteArray := prog_18_method_154_code
def yJ0_isLatin1_aae02 : MethodName := ⟨RJ0, "isLatin1", "()Z"⟩
abbrev cJ0_checkIndex_df160 : ByteArray := prog_18_method_155_code
def yJ0_checkIndex_df160 : MethodName := ⟨RJ0, "checkIndex", "(II)V"⟩
def RJ1 : String := "java/lang/StringLatin1"
def TJ1 : u_T := fun k => match k with
  | _ => ("", "", "", false)
def tyJ1 : Nat → FieldType := fun k => match k with
  | _ => .int
abbrev wsJ10 : List Cond := u_ws RJ1 TJ1 0
theorem nmJ1 : ∀ a, a < 0 → ∀ b, b < 0 → a ≠ b → (TJ1 a).2.1 ≠ (TJ1 b).2.1 := by decide +kernel
theorem tyJ1_ok : ∀ k, k < 0 → parseFieldDescriptor (TJ1 k).2.2.1 = some (tyJ1 k) := by decide +kernel
abbrev cJ1_charAt_3b067 : ByteArray := prog_19_method_2_code
def yJ1_charAt_3b067 : MethodName := ⟨RJ1, "charAt", "([BI)C"⟩
def RJ2 : String := "java/lang/StringUTF16"
def TJ2 : u_T := fun k => match k with
  | _ => ("", "", "", false)
def tyJ2 : Nat → FieldType := fun k => match k with
  | _ => .int
abbrev wsJ20 : List Cond := u_ws RJ2 TJ2 0
theorem nmJ2 : ∀ a, a < 0 → ∀ b, b < 0 → a ≠ b → (TJ2 a).2.1 ≠ (TJ2 b).2.1 := by decide +kernel
theorem tyJ2_ok : ∀ k, k < 0 → parseFieldDescriptor (TJ2 k).2.2.1 = some (tyJ2 k) := by decide +kernel
abbrev cJ2_getChar_3b067 : ByteArray := prog_20_method_5_code
def yJ2_getChar_3b067 : MethodName := ⟨RJ2, "getChar", "([BI)C"⟩
abbrev cJ2_length_9d52b : ByteArray := prog_20_method_6_code
def yJ2_length_9d52b : MethodName := ⟨RJ2, "length", "([B)I"⟩
abbrev cJ2_charAt_3b067 : ByteArray := prog_20_method_83_code
def yJ2_charAt_3b067 : MethodName := ⟨RJ2, "charAt", "([BI)C"⟩
abbrev cJ2_checkIndex_2214a : ByteArray := prog_20_method_91_code
def yJ2_checkIndex_2214a : MethodName := ⟨RJ2, "checkIndex", "(I[B)V"⟩
def RJ10 : String := "java/lang/System"
def TJ10 : u_T := fun k => match k with
  | _ => ("", "", "", false)
def tyJ10 : Nat → FieldType := fun k => match k with
  | _ => .int
abbrev wsJ100 : List Cond := u_ws RJ10 TJ10 0
theorem nmJ10 : ∀ a, a < 0 → ∀ b, b < 0 → a ≠ b → (TJ10 a).2.1 ≠ (TJ10 b).2.1 := by decide +kernel
theorem tyJ10_ok : ∀ k, k < 0 → parseFieldDescriptor (TJ10 k).2.2.1 = some (tyJ10 k) := by decide +kernel
def RJ3 : String := "jdk/internal/util/Preconditions"
def TJ3 : u_T := fun k => match k with
  | _ => ("", "", "", false)
def tyJ3 : Nat → FieldType := fun k => match k with
  | _ => .int
abbrev wsJ30 : List Cond := u_ws RJ3 TJ3 0
theorem nmJ3 : ∀ a, a < 0 → ∀ b, b < 0 → a ≠ b → (TJ3 a).2.1 ≠ (TJ3 b).2.1 := by decide +kernel
theorem tyJ3_ok : ∀ k, k < 0 → parseFieldDescriptor (TJ3 k).2.2.1 = some (tyJ3 k) := by decide +kernel
abbrev cJ3_checkIndex_8e157 : ByteArray := prog_23_method_11_code
def yJ3_checkIndex_8e157 : MethodName := ⟨RJ3, "checkIndex", "(IILjava/util/function/BiFunction;)I"⟩
def RL : String := "HeadDotsLaw"
abbrev cL_line : ByteArray := method_3_code
def yL_line : MethodName := ⟨RL, "line", "(LHeadDots;I[J)I"⟩
abbrev cL_lines : ByteArray := method_4_code
def yL_lines : MethodName := ⟨RL, "lines", "(LHeadDots;II[J)I"⟩
abbrev cL_rest : ByteArray := method_5_code
def yL_rest : MethodName := ⟨RL, "rest", "(LHeadDots;I[J)I"⟩
abbrev cL_paper : ByteArray := method_6_code
def yL_paper : MethodName := ⟨RL, "paper", "(LHeadDots;I[J)I"⟩
abbrev cL_set : ByteArray := method_7_code
def yL_set : MethodName := ⟨RL, "set", "(LHeadDots;II[J)I"⟩
abbrev cL_append : ByteArray := method_8_code
def yL_append : MethodName := ⟨RL, "append", "(LHeadDots;I[J)I"⟩
abbrev cL_print : ByteArray := method_9_code
def yL_print : MethodName := ⟨RL, "print", "(LHeadDots;[J)I"⟩
abbrev cL_told : ByteArray := method_10_code
def yL_told : MethodName := ⟨RL, "told", "(LHeadDots;II[J)I"⟩
abbrev cL_undo : ByteArray := method_11_code
def yL_undo : MethodName := ⟨RL, "undo", "(LHeadDots;[J)I"⟩
abbrev cL_restore : ByteArray := method_12_code
def yL_restore : MethodName := ⟨RL, "restore", "(LHeadDots;[J)I"⟩
abbrev cL_dot : ByteArray := method_13_code
def yL_dot : MethodName := ⟨RL, "dot", "(LHeadDots;II[J)I"⟩
abbrev cL_kept : ByteArray := method_14_code
def yL_kept : MethodName := ⟨RL, "kept", "(LHeadDots;II[J)I"⟩
abbrev cL_count : ByteArray := method_15_code
def yL_count : MethodName := ⟨RL, "count", "(LHeadDots;I[J)I"⟩
abbrev cL_ifPrinted : ByteArray := method_16_code
def yL_ifPrinted : MethodName := ⟨RL, "ifPrinted", "(LHeadDots;II[J)I"⟩
abbrev cL_betterWay : ByteArray := method_17_code
def yL_betterWay : MethodName := ⟨RL, "betterWay", "(LHeadDots;I[J)I"⟩
abbrev cL_coolIn : ByteArray := method_18_code
def yL_coolIn : MethodName := ⟨RL, "coolIn", "(LHeadDots;I[J)I"⟩
abbrev cL_darkFrom : ByteArray := method_19_code
def yL_darkFrom : MethodName := ⟨RL, "darkFrom", "(LHeadDots;I[J)I"⟩
abbrev cL_law : ByteArray := code
def yL_law : MethodName := ⟨RL, "law", "([I)Z"⟩
abbrev vwCl : List vw_C := [(RX0, TX0, 2), (RX1, TX1, 10), (RX2, TX2, 8), (RX3, TX3, 4), (RX4, TX4, 9), (RX5, TX5, 8), (RX6, TX6, 18)]
end
section
/-! the one common list of words that every method is given -/
def bigW : List Cond := lw_tbl.filter goodWord
theorem bw_in {w : Cond} (h : w ∈ tables_1) (hg : goodWord w = true) : w ∈ bigW := List.mem_filter.mpr ⟨List.mem_append_right _ h, hg⟩
theorem bw {w : Cond} (i : Nat) (h : tables_1[i]? = some w) (hg : goodWord w = true) : w ∈ bigW := bw_in (List.mem_of_getElem? h) hg
theorem bws {w : Cond} (i : Nat) (h : (k2_sels lw_privs)[i]? = some w) (hg : goodWord w = true) : w ∈ bigW := List.mem_filter.mpr ⟨List.mem_append_left _ (List.mem_of_getElem? h), hg⟩
theorem bw_good {w : Cond} (h : w ∈ bigW) : (w.onTables && w.keeps) = true ∨ ∃ ty, w = .arrayClass ty := good_of_word (List.mem_filter.mp h).2
theorem bw_gi {x y : Cond} (h : y ∈ bigW) : GoodIn (x :: bigW) (y :: bigW) := fun w hw => by
  rcases List.mem_cons.mp hw with e | e
  · subst e; exact ⟨List.mem_cons_of_mem _ h, bw_good h⟩
  · exact ⟨List.mem_cons_of_mem _ e, bw_good e⟩
def nestF : List (String × Nat × String × String × String × String) := [("HeadDots$State", 18, "HeadDots", "SETTING_FIRST", "[I", "HeadDots"), ("HeadDots$State", 67, "HeadDots$Strip", "size", "I", "HeadDots"), ("HeadDots", 101, "HeadDots$Strip", "size", "I", "HeadDots"), ("HeadDots$State", 166, "HeadDots$Totals", "dotsOf", "[I", "HeadDots"), ("HeadDots$State", 169, "HeadDots$Totals", "faintOf", "[I", "HeadDots"), ("HeadDots$State", 74, "HeadDots$Totals", "time", "I", "HeadDots"), ("HeadDots", 283, "HeadDots$Totals", "time", "I", "HeadDots"), ("HeadDots", 158, "HeadDots$Totals", "lines", "I", "HeadDots"), ("HeadDots", 285, "HeadDots$Totals", "parts", "I", "HeadDots"), ("HeadDots$State", 100, "HeadDots$Totals", "waits", "I", "HeadDots"), ("HeadDots", 288, "HeadDots$Totals", "waits", "I", "HeadDots"), ("HeadDots", 291, "HeadDots$Totals", "dots", "I", "HeadDots"), ("HeadDots", 76, "HeadDots$Totals", "faint", "I", "HeadDots"), ("HeadDots$State", 130, "HeadDots$Totals", "hottest", "I", "HeadDots"), ("HeadDots", 295, "HeadDots$Totals", "hottest", "I", "HeadDots"), ("HeadDots", 97, "HeadDots$State", "strip", "LHeadDots$Strip;", "HeadDots"), ("HeadDots", 72, "HeadDots$State", "totals", "LHeadDots$Totals;", "HeadDots"), ("HeadDots", 298, "HeadDots$State", "paperKind", "I", "HeadDots"), ("HeadDots$Reader", 48, "HeadDots$Buffer", "length", "I", "HeadDots"), ("HeadDots", 146, "HeadDots$Buffer", "length", "I", "HeadDots"), ("HeadDots", 267, "HeadDots$Reader", "kind", "I", "HeadDots"), ("HeadDots", 270, "HeadDots$Reader", "dots", "I", "HeadDots"), ("HeadDots", 280, "HeadDots$Reader", "paperKind", "I", "HeadDots"), ("HeadDots", 272, "HeadDots$Reader", "number", "I", "HeadDots"), ("HeadDots$State", 137, "HeadDots", "PAPER_PULSE", "[I", "HeadDots"), ("HeadDots$State", 140, "HeadDots", "PAPER_DARK", "[I", "HeadDots"), ("HeadDots$State", 153, "HeadDots", "SETTING_MOST", "[I", "HeadDots"), ("HeadDots$State", 156, "HeadDots", "SETTING_LEAST", "[I", "HeadDots")]
def nestM : List (String × Nat × MethodName × String) := [("HeadDots$State", 24, ⟨"HeadDots", "copyRow", "([I[I)V"⟩, "HeadDots"), ("HeadDots$Buffer", 23, ⟨"HeadDots", "at", "([II)I"⟩, "HeadDots"), ("HeadDots$Reader", 124, ⟨"HeadDots", "isWithin", "(III)Z"⟩, "HeadDots"), ("HeadDots$Strip", 25, ⟨"HeadDots", "copyRow", "([I[I)V"⟩, "HeadDots"), ("HeadDots$Totals", 40, ⟨"HeadDots", "copyRow", "([I[I)V"⟩, "HeadDots"), ("HeadDots$State", 59, ⟨"HeadDots", "at", "([II)I"⟩, "HeadDots"), ("HeadDots$State", 124, ⟨"HeadDots", "bitOf", "(II)I"⟩, "HeadDots"), ("HeadDots$Strip", 43, ⟨"HeadDots", "at", "([II)I"⟩, "HeadDots"), ("HeadDots$Strip", 54, ⟨"HeadDots", "bitOf", "(II)I"⟩, "HeadDots"), ("HeadDots$State", 63, ⟨"HeadDots", "put", "([III)V"⟩, "HeadDots"), ("HeadDots$Strip", 39, ⟨"HeadDots", "put", "([III)V"⟩, "HeadDots"), ("HeadDots$Totals", 54, ⟨"HeadDots", "bitOf", "(II)I"⟩, "HeadDots"), ("HeadDots$Buffer", 17, ⟨"HeadDots", "put", "([III)V"⟩, "HeadDots")]
/-- the classes, the classes of the arrays (int, long, State), where the law begins to make, the addresses of what lies below -/
abbrev GT : Type := va_G × (Nat → ClassId) × Nat × (Nat → Nat)
abbrev gI (G : GT) : ClassId := G.2.1 0
abbrev gJ (G : GT) : ClassId := G.2.1 1
abbrev gR (G : GT) : ClassId := G.2.1 2
abbrev gL (G : GT) : Nat := G.2.2.1
abbrev gA (G : GT) : Nat → Nat := G.2.2.2
def gT (G : GT) : List (ClassId × FieldType) := [(gI G, .int), (gJ G, .long), (gR G, .object "HeadDots$State")]
def lowA (G : GT) : Nat → Prop := fun q => gL G ≤ q
abbrev PW (G : GT) (ws : va_W) (H : Heap) : Prop := va_P G.1 vwCl ws H
def stNm : Nat → String := fun k => match k with
  | 0 => "SETTING_FIRST"
  | 1 => "SETTING_LEAST"
  | 2 => "SETTING_MOST"
  | 3 => "PAPER_PULSE"
  | 4 => "PAPER_DARK"
  | _ => ""
def stLn : Nat → Nat := fun k => match k with
  | 0 => 7
  | 1 => 7
  | 2 => 7
  | 3 => 3
  | 4 => 3
  | _ => 0
def st0 : Nat → Int32 := fun j => ([120, 40, 500, 8, 100, 0, 5] : List Int32).getD j 0
def st1 : Nat → Int32 := fun j => ([50, 5, 330, 1, 1, 0, 0] : List Int32).getD j 0
def st2 : Nat → Int32 := fun j => ([300, 200, 900, 20, 200, 1, 50] : List Int32).getD j 0
def st3 : Nat → Int32 := fun j => ([0, (-15), 25] : List Int32).getD j 0
def st4 : Nat → Int32 := fun j => ([110, 90, 150] : List Int32).getD j 0
def stFn : Nat → Nat → Int32 := fun k => match k with
  | 0 => st0
  | 1 => st1
  | 2 => st2
  | 3 => st3
  | 4 => st4
  | _ => fun _ => 0
def wLen : List Nat := [0, 4, 6, 4, 5, 5, 4, 5]
def wByt : List (List Int32) := [[], [108, 105, 110, 101], [112, 97, 112, 101, 114, 58], [114, 101, 115, 116], [101, 109, 112, 116, 121], [112, 108, 97, 105, 110], [102, 105, 110, 101], [108, 97, 98, 101, 108]]
def wIx : Nat → Nat := fun k => match k with
  | 0 => 9
  | 1 => 83
  | 2 => 89
  | 3 => 91
  | 4 => 93
  | 5 => 95
  | 6 => 101
  | 7 => 103
  | _ => 0
def wTx : Nat → String := fun k => match k with
  | 0 => ""
  | 1 => "line"
  | 2 => "paper:"
  | 3 => "rest"
  | 4 => "empty"
  | 5 => "plain"
  | 6 => "fine"
  | 7 => "label"
  | _ => ""
def xIx : Nat → Nat := fun k => match k with
  | 0 => 54
  | 1 => 70
  | 2 => 85
  | 3 => 95
  | 4 => 111
  | 5 => 125
  | 6 => 132
  | 7 => 140
  | 8 => 156
  | 9 => 173
  | 10 => 179
  | 11 => 189
  | 12 => 194
  | 13 => 196
  | 14 => 201
  | 15 => 209
  | 16 => 220
  | _ => 0
def xTx : Nat → String := fun k => match k with
  | 0 => "dots"
  | 1 => "dots or times"
  | 2 => "time"
  | 3 => "paper"
  | 4 => "setting"
  | 5 => "value"
  | 6 => "code"
  | 7 => "the buffer is full"
  | 8 => "the buffer is not complete"
  | 9 => "back or index"
  | 10 => "no saved state"
  | 11 => "no snapshot"
  | 12 => "dot"
  | 13 => "what"
  | 14 => "back or what"
  | 15 => "dots or what"
  | 16 => "heat"
  | _ => ""
def castX : List String := ["java/lang/IllegalArgumentException", "java/lang/IndexOutOfBoundsException", "java/lang/IllegalStateException"]
def KN (G : GT) (U : State) (H : Heap) : Prop :=
  (va_K G.1 vwCl (gT G) U ∧ gL G ≤ H.size) ∧ ((∀ q ∈ nestF, va_Nw (.fieldLinkNest q.1 q.2.1 q.2.2.1 q.2.2.2.1 q.2.2.2.2.1 q.2.2.2.2.2) U) ∧ (∀ q ∈ nestM, va_Nw (.methodLinkNest q.1 q.2.1 q.2.2.1 q.2.2.2) U)) ∧
  (∀ i, i < 5 → va_Z "HeadDots" (stNm i) "[I" (.ref (gA G i)) (lowA G) U H ∧ va_T .int (gA G i) (stLn i) (fun j => .int (stFn i j)) (lowA G) U H) ∧
  (vk_S 8 wLen wByt (fun i => gA G (10 + i)) (fun i => gA G (20 + i)) (lowA G) U H ∧ (∀ i, i < 8 → vk_R "HeadDots$Reader" (wIx i) (wTx i) (gA G (10 + i)) U) ∧ va_Z "java/lang/String" "COMPACT_STRINGS" "Z" (.int 1) (lowA G) U H) ∧
  ((∀ i, i < 17 → vk_R "HeadDots" (xIx i) (xTx i) (gA G (30 + i)) U) ∧ vx_Zq Bundle.tN "UNASSIGNED_STACK" Bundle.steD (lowA G) U H ∧ vx_Zq Bundle.tN "SUPPRESSED_SENTINEL" Bundle.listD (lowA G) U H) ∧
  ((∀ E ∈ castX, va_Nw (.castable E E) U) ∧ va_Nc "java/lang/IllegalArgumentException" "java/lang/IndexOutOfBoundsException" U ∧ va_Nc "java/lang/IllegalStateException" "java/lang/IllegalArgumentException" U ∧ va_AO "HeadDots$State" U)
theorem KN.warm {G : GT} {s U : State} {H : Heap} (hW : s.WarmedH U.vm) (h : KN G s H) : KN G U H := by
  obtain ⟨⟨a1, a2⟩, ⟨b1, b2⟩, c1, ⟨d1, d2, d3⟩, ⟨e1, e2, e3⟩, f1, f2, f3, f4⟩ := h
  have hv := hW.alike
  exact ⟨⟨va_K.moved hv a1, a2⟩, ⟨fun q hq => va_Nw.warmF hW (b1 q hq), fun q hq => va_Nw.warmM hW (b2 q hq)⟩, fun i hi => ⟨va_Z.moved hv (c1 i hi).1, va_T.moved hv (c1 i hi).2⟩, ⟨vk_S.moved hv d1, fun i hi => vk_R.warm hW (d2 i hi), va_Z.moved hv d3⟩, ⟨fun i hi => vk_R.warm hW (e1 i hi), vx_Zq.moved hv e2, vx_Zq.moved hv e3⟩, fun E hE => va_Nw.warmC hW (f1 E hE), f2.moved hv, f3.moved hv, va_AO.moved hv f4⟩
theorem KN.kept {G : GT} {s : State} {H H1 : Heap} (h : KN G s H) (hz : H.size ≤ H1.size) (hq : ∀ a : Nat, a < H.size → ¬ lowA G a → H1[a]? = H[a]?) : KN G s H1 := by
  obtain ⟨⟨a1, a2⟩, b, c1, ⟨d1, d2, d3⟩, ⟨e1, e2, e3⟩, f⟩ := h
  exact ⟨⟨a1, Nat.le_trans a2 hz⟩, b, fun i hi => ⟨(c1 i hi).1.kept hq, (c1 i hi).2.kept hq⟩, ⟨d1.kept hq, d2, d3.kept hq⟩, ⟨e1, e2.kept hq, e3.kept hq⟩, f⟩
theorem KN.go {G : GT} {s : State} {H0 H : Heap} {A : Nat → Prop} {locs : List Loc} (h : KN G s H0) (hA : ∀ a, A a → gL G ≤ a) (hS : va_S A H0 H locs) : KN G s H := h.kept hS.1 (fun a h1 h2 => hS.2.1 a h1 (fun z => h2 (hA a z)))
theorem KN.calling {G : GT} {U : State} (g : JFrame) (mk : MethodId) (a : Array Value) (h : KN G U U.heap) : KN G (U.calling g mk a) (U.calling g mk a).heap := KN.warm (s := U) (U := U.calling g mk a) (State.WarmedH.refl U) h
theorem KN.k {G : GT} {s : State} {H : Heap} (h : KN G s H) : va_K G.1 vwCl (gT G) s := h.1.1
/-- a picture that the tables' warming leaves as it is -/
def Stb (B : State → Heap → Prop) : Prop := ∀ (s U : State) (H : Heap), s.WarmedH U.vm → B s H → B U H
theorem stb_h (P : Heap → Prop) : Stb (fun _ H => P H) := fun _ _ _ _ h => h
theorem stb_and {B C : State → Heap → Prop} (h1 : Stb B) (h2 : Stb C) : Stb (fun U H => B U H ∧ C U H) := fun s U H hW h => ⟨h1 s U H hW h.1, h2 s U H hW h.2⟩
/-- an int array that is only read -/
def RD (a n : Nat) (f : Nat → Int32) (U : State) (H : Heap) : Prop := va_T .int a n (fun j => .int (f j)) (fun _ => False) U H
theorem stb_RD (a n : Nat) (f : Nat → Int32) : Stb (RD a n f) := fun _ _ _ hW h => va_T.moved hW.alike h
theorem KN.rd {G : GT} {s : State} {H : Heap} (h : KN G s H) (i : Nat) (hi : i < 5) : RD (gA G i) (stLn i) (stFn i) s H := ((h.2.2.1 i hi).2).narrow (fun _ q => q.elim)
theorem RD.ofP {G : GT} {s : State} {H : Heap} {ws : va_W} {a n : Nat} {f : Nat → Int32} (hK : KN G s H) (hP : PW G ws H) (k : Nat) (ha : ws[k]? = some (a, .inl (gI G, n, .inl f))) : RD a n f s H := by
  have h := hP k _ ha
  have hA : s.isArrayOf (arrV (gI G) n (fun j => .int (f j))) .int := (hK.1.1.2 0 _ rfl).1 n _
  refine ⟨_, h, hA, (fun q => by cases q), ?_, ?_, ?_, id⟩
  · show n ≤ (arrV _ _ _).slots.size
    rw [arrV_size]; exact Nat.le_refl _
  · show (arrV _ _ _).slots.size.toInt32 = _
    rw [arrV_size]
  · intro j hj
    show (arrV _ _ _).slots[j]? = _
    rw [arrV_read _ _ hj]
/-- a method's start: the arguments, what lies below, a picture of the heap -/
abbrev BP (G : GT) (av : List Value) (B : State → Heap → Prop) : Array Value → State → Prop := va_Pc av (fun U => KN G U U.heap ∧ B U U.heap)
theorem BP.blind {G : GT} {av : List Value} {B : State → Heap → Prop} (hB : Stb B) : FrameBlind (BP G av B) := fun a U g mk h => ⟨h.1, h.2.1.calling g mk a, hB U (U.calling g mk a) _ (State.WarmedH.refl U) h.2.2⟩
/-- a method that writes nothing -/
def QP (F : Value) : Array Value → State → Outcome → State → Prop := fun _ st o t => o = .returned (some F) ∧ t.heap = st.heap
/-- a method that writes in A alone -/
def QE (F : Option Value) (B : Heap → Prop) (A : Nat → Prop) : Array Value → State → Outcome → State → Prop := fun _ st o t => (o = .returned F ∧ B t.heap) ∧ va_F A st t
/-- what stands fast in a body -/
def CX (p : Program) (s : State) (m : MethodId) (meth : Method) (c : Code) (y : MethodName) (cc : ByteArray) (maxL : Nat) (ret : Option FieldType) (av : Array Value) : Prop :=
  p.tables.exec = Jvm.exec ∧ c.code = cc ∧ meth.sig.returnType = ret ∧ c.maxLocals = maxL ∧ s.vm.findClass y.cls = some m.cls ∧ meth.locks = false ∧ (∀ w ∈ bigW, w.before av s = true) ∧ meth.name = y.name
theorem met_of {l : Launch} {y : MethodName} {cc : ByteArray} {maxL : Nat} {ret : Option FieldType} {rm : Room} {G : GT} {av : List Value} {B : State → Heap → Prop} {Qc : Array Value → State → Outcome → State → Prop} {mc ms : Nat} {free : Addr → Prop}
    (hy : plainName y.cls = true) (hn : (lg_sl av).length ≤ maxL)
    (body : ∀ (p : Program) (e : Env) (s : State) (m : MethodId) (below : List Frame) (meth : Method) (c : Code) (ls : Array Slot), CX p s m meth c y cc maxL ret av.toArray → KN G s s.heap → B s s.heap → lv_has ls maxL (lv_args 0 av) → W p l e rm s m av.toArray below meth c s.heap [] 0 0 (MQ below Qc av.toArray s mc ms free) (F0 m 0 ls [])) :
    Met l y (Cond.code y cc maxL ret :: bigW) rm (BP G av B) Qc mc ms free := by
  refine Met.ofW (cc := cc) (maxL := maxL) (ret := ret) hy rfl ?_
  intro p e s m args below meth c s₁ Bd hml hv
  obtain ⟨rfl, hK, hB⟩ := hv
  have hts := atoms_spec (ws := Cond.code y cc maxL ret :: bigW) Bd.pre
  rw [lg_entry_eq]
  exact body p e s m below meth c _ ⟨Bd.exec, Bd.bytes, Bd.returns, hml, findClass_of_methodNamed Bd.named, Bd.notSynchronized, fun w hw => hts w (List.mem_cons_of_mem _ hw), (name_of_methodNamed Bd.named Bd.method).1⟩ hK hB (lv_entry av hn)
/-- a method's words, for those who call it -/
abbrev MW (y : MethodName) (bytes : ByteArray) (maxL : Nat) (ret : Option FieldType) (n : Nat) : Prop :=
  Cond.code y bytes maxL ret ∈ bigW ∧ Cond.initialized y.cls ∈ bigW ∧ y.cls ≠ "java/lang/invoke/MethodHandle" ∧ y.cls ≠ "java/lang/invoke/VarHandle" ∧ (parseMethodDescriptor y.desc).map (fun d => d.parameters.length) = some n
abbrev IW (y : MethodName) : Prop := Cond.instanceMethod y ∈ bigW ∧ Cond.selects y.cls y y ∈ bigW
theorem gi_B {y : MethodName} {bytes : ByteArray} {maxL n : Nat} {ret : Option FieldType} (h : MW y bytes maxL ret n) : GoodIn bigW (Cond.code y bytes maxL ret :: bigW) := fun w hw => by
  rcases List.mem_cons.mp hw with e | e
  · subst e; exact ⟨h.1, bw_good h.1⟩
  · exact ⟨e, bw_good e⟩
section CALLS
variable {p : Program} {l : Launch} {e : Env} {R : Room} {s : State} {m : MethodId} {args : Array Value} {below : List Frame} {meth : Method} {c : Code} {H : Heap} {locs : List Loc} {cells slots : Nat} {Q : State → Prop}
variable {y y0 : MethodName} {bytes cc : ByteArray} {maxL nL mc ms n index : Nat} {ret ret0 : Option FieldType} {rm : Room} {Qc : Array Value → State → Outcome → State → Prop} {free : Addr → Prop} {own host : String} {b : Addr} {As rest st0 : List Value} {pc : Nat} {ls : Array Slot} {G : GT} {B : State → Heap → Prop}
theorem cb_of (hC : CX p s m meth c y0 cc nL ret0 args) (hm : MW y bytes maxL ret n) (hlk : Cond.methodLink own index y ∈ bigW) (hrm : rm.cells = mc ∧ rm.slots = ms) (hR : rm.frames + 1 ≤ R.frames ∧ 8 + (maxL + 11) + rm.locals ≤ R.locals) :
    CallB R s args own index y bytes maxL ret (Cond.code y bytes maxL ret :: bigW) rm mc ms n :=
  callB_of n hC.2.2.2.2.2.2.1 (gi_B hm) rfl hrm.1 hrm.2 (hC.2.2.2.2.2.2.1 _ hm.2.1) (hC.2.2.2.2.2.2.1 _ hlk) hm.2.2 hR
theorem rV (hC : CX p s m meth c y0 cc nL ret0 args) (hm : MW y bytes maxL ret n) (hi : IW y) (hlk : Cond.methodLink y0.cls index y ∈ bigW) (hrm : rm.cells = mc ∧ rm.slots = ms) (hR : rm.frames + 1 ≤ R.frames ∧ 8 + (maxL + 11) + rm.locals ≤ R.locals)
    (hM : Met l y (Cond.code y bytes maxL ret :: bigW) rm (BP G (.ref b :: As) B) Qc mc ms free) (hSt : Stb B) (hKN : KN G s H) (hB : B s H)
    (hrc : ∃ cellB : Cell, H[b]? = some cellB ∧ cellB.vm.isStatics = false ∧ s.vm.findClass y.cls = some cellB.cls)
    (hn : As.length = n) (hls : ls.size = nL) (hst : st0 = As.reverse ++ .ref b :: rest) (hW : (rest.map fun v => v.category).sum ≤ 8) (hdg : decode cc pc = .ok (.invokevirtual index, 3)) (hf : cells + mc ≤ R.cells ∧ slots + ms ≤ R.slots) :
    va_Run p l e R s m args below meth c H locs cells slots mc ms (F0 m pc ls st0) rest (Qc (Value.ref b :: As).toArray) free :=
  va_runV (own := y0.cls) (C := y.cls) (Ts := bigW) ⟨hC.1, hC.2.1, hC.2.2.2.1, hC.2.2.2.2.1, hC.2.2.2.2.2.2.1⟩ hM ⟨cb_of hC hm hlk hrm hR, hC.2.2.2.2.2.2.1 _ hi.1, hC.2.2.2.2.2.2.1 _ hi.2⟩
    ⟨BP.blind hSt, hrc, fun U hU hw => ⟨rfl, by rw [hU]; exact hKN.warm hw, by rw [hU]; exact hSt s U H hw hB⟩⟩ rfl hn hls hst (lv_room hW) hdg hf
theorem rS (hC : CX p s m meth c y0 cc nL ret0 args) (hm : MW y bytes maxL ret n) (hi : Cond.static y ∈ bigW) (hlk : Cond.methodLink y0.cls index y ∈ bigW) (hrm : rm.cells = mc ∧ rm.slots = ms) (hR : rm.frames + 1 ≤ R.frames ∧ 8 + (maxL + 11) + rm.locals ≤ R.locals)
    (hM : Met l y (Cond.code y bytes maxL ret :: bigW) rm (BP G As B) Qc mc ms free) (hSt : Stb B) (hKN : KN G s H) (hB : B s H)
    (hn : As.length = n) (hls : ls.size = nL) (hst : st0 = As.reverse ++ rest) (hW : (rest.map fun v => v.category).sum ≤ 8) (hdg : decode cc pc = .ok (.invokestatic index, 3)) (hf : cells + mc ≤ R.cells ∧ slots + ms ≤ R.slots) :
    va_Run p l e R s m args below meth c H locs cells slots mc ms (F0 m pc ls st0) rest (Qc As.toArray) free :=
  va_runS (own := y0.cls) (Ts := bigW) ⟨hC.1, hC.2.1, hC.2.2.2.1, hC.2.2.2.2.1, hC.2.2.2.2.2.2.1⟩ hM ⟨cb_of hC hm hlk hrm hR, hC.2.2.2.2.2.2.1 _ hi⟩
    ⟨BP.blind hSt, fun U hU hw => ⟨rfl, by rw [hU]; exact hKN.warm hw, by rw [hU]; exact hSt s U H hw hB⟩⟩ rfl hn hls hst (lv_room hW) hdg hf
theorem rSN (hC : CX p s m meth c y0 cc nL ret0 args) (hm : MW y bytes maxL ret n) (hi : Cond.static y ∈ bigW) (hlk : va_Nw (.methodLinkNest y0.cls index y host) s) (hrm : rm.cells = mc ∧ rm.slots = ms) (hR : rm.frames + 1 ≤ R.frames ∧ 8 + (maxL + 11) + rm.locals ≤ R.locals)
    (hM : Met l y (Cond.code y bytes maxL ret :: bigW) rm (BP G As B) Qc mc ms free) (hSt : Stb B) (hKN : KN G s H) (hB : B s H)
    (hn : As.length = n) (hls : ls.size = nL) (hst : st0 = As.reverse ++ rest) (hW : (rest.map fun v => v.category).sum ≤ 8) (hdg : decode cc pc = .ok (.invokestatic index, 3)) (hf : cells + mc ≤ R.cells ∧ slots + ms ≤ R.slots) :
    va_Run p l e R s m args below meth c H locs cells slots mc ms (F0 m pc ls st0) rest (Qc As.toArray) free :=
  va_runSN (own := y0.cls) (Ts := bigW) ⟨hC.1, hC.2.1, hC.2.2.2.1, hC.2.2.2.2.1, hC.2.2.2.2.2.2.1⟩ hM ⟨va_cnB n hC.2.2.2.2.2.2.1 (gi_B hm) rfl hrm.1 hrm.2 hlk (hC.2.2.2.2.2.2.1 _ hm.2.1) hm.2.2 hR, hC.2.2.2.2.2.2.1 _ hi, trivial⟩
    ⟨BP.blind hSt, fun U hU hw => ⟨rfl, by rw [hU]; exact hKN.warm hw, by rw [hU]; exact hSt s U H hw hB⟩⟩ rfl hn hls hst (lv_room hW) hdg hf
theorem runP {F : Value} {a : Array Value} (hr : va_Run p l e R s m args below meth c H locs cells slots 0 0 (F0 m pc ls st0) rest (QP F a) (fun _ => False))
    (kk : W p l e R s m args below meth c H locs cells slots Q (F0 m (pc + 3) ls (F :: rest))) : W p l e R s m args below meth c H locs cells slots Q (F0 m pc ls st0) := by
  intro T hT X
  obtain ⟨v, st₀, t, T', L, h0, X', hL, e1, e2, ⟨hv, hz⟩, st⟩ := hr T hT X
  cases hv
  have hL0 : L = [] := by
    cases L with
    | nil => rfl
    | cons q L => exact absurd (hL q List.mem_cons_self) id
  subst hL0
  rw [List.append_nil] at X'
  obtain ⟨t2, a1, b1⟩ := kk T' (by rw [e1, hz, h0]) X'
  exact ⟨t2, st t2 a1, b1⟩
theorem runE {F : Option Value} {a : Array Value} {B1 : Heap → Prop} {A0 A1 : Nat → Prop} {H0 : Heap} (hr : va_Run p l e R s m args below meth c H locs cells slots mc ms (F0 m pc ls st0) rest (QE F B1 A1 a) free) (hS : va_S A0 H0 H locs) (hA : ∀ q, A1 q → A0 q) (hf : ∀ q, free q → A0 q)
    (kk : ∀ (H1 : Heap) (locs1 : List Loc), B1 H1 → H.size ≤ H1.size → (∀ q : Nat, q < H.size → ¬ A1 q → H1[q]? = H[q]?) → va_S A0 H0 H1 locs1 → W p l e R s m args below meth c H1 locs1 (cells + mc) (slots + ms) Q (F0 m (pc + 3) ls (F.toList ++ rest))) : W p l e R s m args below meth c H locs cells slots Q (F0 m pc ls st0) := by
  intro T hT X
  obtain ⟨v, st₀, t, T', L, h0, X', hL, e1, e2, ⟨⟨hv, hb⟩, hz, hk⟩, st⟩ := hr T hT X
  cases hv
  rw [h0] at hz hk
  obtain ⟨t2, a1, b1⟩ := kk T'.heap (locs ++ L) (by rw [e1]; exact hb) (by rw [e1]; exact hz) (fun q h1 h2 => by rw [e1]; exact hk q h1 h2)
    ⟨Nat.le_trans hS.1 (by rw [e1]; exact hz), fun q h1 h2 => by rw [e1, hk q (Nat.lt_of_lt_of_le h1 hS.1) (fun z => h2 (hA q z))]; exact hS.2.1 q h1 h2, fun q hq => by
      rcases List.mem_append.mp hq with h | h
      · exact hS.2.2 q h
      · exact hf _ (hL q h)⟩ T' rfl X'
  exact ⟨t2, st t2 a1, b1⟩
end CALLS
section ROWS
variable {p : Program} {l : Launch} {e : Env} {R : Room} {s : State} {m : MethodId} {args : Array Value} {below : List Frame} {meth : Method} {c : Code} {H : Heap} {locs : List Loc} {cells slots : Nat} {Q : State → Prop}
variable {y0 : MethodName} {cc : ByteArray} {nL : Nat} {ret0 : Option FieldType} {rest : List Value} {pc : Nat} {ls : Array Slot} {G : GT} {ws : va_W} {A : Nat → Prop} {H0 : Heap} {a : Nat}
theorem iald_k (hC : CX p s m meth c y0 cc nL ret0 args) (hKN : KN G s H) (hP : PW G ws H) (q0 : Nat) {n : Nat} {f : Nat → Int32} (ha : ws[q0]? = some (a, .inl (gI G, n, .inl f))) {i : Int32} (k : Nat) (hi : i = nI k) (hk : k < n) (hn : n < 2 ^ 31) (hdg : decode cc pc = .ok (.iaload, 1))
    (kk : W p l e R s m args below meth c H locs cells slots Q (F0 m (pc + 1) ls (.int (f k) :: rest))) : W p l e R s m args below meth c H locs cells slots Q (F0 m pc ls (.int i :: .ref a :: rest)) := by
  subst hi
  refine va_iald hC.1 hC.2.1 hKN.k hP q0 0 ha rfl (vp_in_nI hk hn) hdg ?_
  rw [nI_clamp (Nat.lt_trans hk hn)]
  exact kk
theorem iald_i (hC : CX p s m meth c y0 cc nL ret0 args) (hKN : KN G s H) (hP : PW G ws H) (q0 : Nat) {n : Nat} {f : Nat → Int32} (ha : ws[q0]? = some (a, .inl (gI G, n, .inl f))) {i : Int32} (hin : vp_in i n) (hdg : decode cc pc = .ok (.iaload, 1))
    (kk : W p l e R s m args below meth c H locs cells slots Q (F0 m (pc + 1) ls (.int (f i.toNatClampNeg) :: rest))) : W p l e R s m args below meth c H locs cells slots Q (F0 m pc ls (.int i :: .ref a :: rest)) :=
  va_iald hC.1 hC.2.1 hKN.k hP q0 0 ha rfl hin hdg kk
theorem alen_n (hC : CX p s m meth c y0 cc nL ret0 args) (hKN : KN G s H) (hP : PW G ws H) (q0 : Nat) {n : Nat} {f : Nat → Int32} (ha : ws[q0]? = some (a, .inl (gI G, n, .inl f))) (hdg : decode cc pc = .ok (.arraylength, 1))
    (kk : W p l e R s m args below meth c H locs cells slots Q (F0 m (pc + 1) ls (.int (nI n) :: rest))) : W p l e R s m args below meth c H locs cells slots Q (F0 m pc ls (.ref a :: rest)) :=
  va_alen hC.1 hC.2.1 hKN.k hP q0 0 ha rfl rfl hdg kk
theorem iast_k (hC : CX p s m meth c y0 cc nL ret0 args) (hKN : KN G s H) (hP : PW G ws H) (hD : va_D A ws) (hS : va_S A H0 H locs) (q0 : Nat) {n : Nat} {f : Nat → Int32} (ha : ws[q0]? = some (a, .inl (gI G, n, .inl f))) {i x : Int32} (k : Nat) (hi : i = nI k) (hk : k < n) (hn : n < 2 ^ 31) (hdg : decode cc pc = .ok (.iastore, 1))
    (kk : ∀ (H1 : Heap) (locs1 : List Loc), PW G (ws.set q0 (a, .inl (gI G, n, .inl (upd f k x)))) H1 → va_S A H0 H1 locs1 → W p l e R s m args below meth c H1 locs1 cells slots Q (F0 m (pc + 1) ls rest)) : W p l e R s m args below meth c H locs cells slots Q (F0 m pc ls (.int x :: .int i :: .ref a :: rest)) := by
  subst hi
  refine va_iast hC.1 hC.2.1 hKN.k hP hD hS q0 0 ha rfl (vp_in_nI hk hn) hdg (fun H1 locs1 h1 _ h3 => ?_)
  rw [nI_clamp (Nat.lt_trans hk hn)] at h1
  exact kk H1 locs1 h1 h3
theorem iast_i (hC : CX p s m meth c y0 cc nL ret0 args) (hKN : KN G s H) (hP : PW G ws H) (hD : va_D A ws) (hS : va_S A H0 H locs) (q0 : Nat) {n : Nat} {f : Nat → Int32} (ha : ws[q0]? = some (a, .inl (gI G, n, .inl f))) {i x : Int32} (hin : vp_in i n) (hdg : decode cc pc = .ok (.iastore, 1))
    (kk : ∀ (H1 : Heap) (locs1 : List Loc), PW G (ws.set q0 (a, .inl (gI G, n, .inl (upd f i.toNatClampNeg x)))) H1 → va_S A H0 H1 locs1 → W p l e R s m args below meth c H1 locs1 cells slots Q (F0 m (pc + 1) ls rest)) : W p l e R s m args below meth c H locs cells slots Q (F0 m pc ls (.int x :: .int i :: .ref a :: rest)) :=
  va_iast hC.1 hC.2.1 hKN.k hP hD hS q0 0 ha rfl hin hdg (fun H1 locs1 h1 _ h3 => kk H1 locs1 h1 h3)
theorem rd_ld (hC : CX p s m meth c y0 cc nL ret0 args) {n : Nat} {f : Nat → Int32} (hR : RD a n f s H) {i : Int32} (hin : vp_in i n) (hdg : decode cc pc = .ok (.iaload, 1))
    (kk : W p l e R s m args below meth c H locs cells slots Q (F0 m (pc + 1) ls (.int (f i.toNatClampNeg) :: rest))) : W p l e R s m args below meth c H locs cells slots Q (F0 m pc ls (.int i :: .ref a :: rest)) := by
  obtain ⟨cell, h1, h2, h3, h4, h5, h6, -⟩ := hR
  have hlt : i.toNatClampNeg < n := Nat.not_le.mp fun q => hin (Or.inr q)
  exact W.iald (v := .int (f i.toNatClampNeg)) hC.1 hC.2.1 h1 h2 h3 (fun q => q.elim (fun z => hin (Or.inl z)) (fun z => hin (Or.inr (Nat.le_trans h4 z)))) (h6 _ hlt) rfl rfl hdg kk
theorem rd_len (hC : CX p s m meth c y0 cc nL ret0 args) {n : Nat} {f : Nat → Int32} (hR : RD a n f s H) (hdg : decode cc pc = .ok (.arraylength, 1))
    (kk : W p l e R s m args below meth c H locs cells slots Q (F0 m (pc + 1) ls (.int (nI n) :: rest))) : W p l e R s m args below meth c H locs cells slots Q (F0 m pc ls (.ref a :: rest)) := by
  obtain ⟨cell, h1, h2, h3, h4, h5, h6, -⟩ := hR
  exact W.alen (n := nI n) hC.1 hC.2.1 h1 h2 h5 rfl rfl hdg kk
theorem gsN (hC : CX p s m meth c y0 cc nL ret0 args) {C n d host : String} {v : Value} {index : Nat} (hZ : va_Z C n d v A s H) (hlink : va_Nw (.fieldLinkNest y0.cls index C n d host) s) (hdg : decode cc pc = .ok (.getstatic index, 3))
    (kk : W p l e R s m args below meth c H locs cells slots Q (F0 m (pc + 3) ls (v :: rest))) : W p l e R s m args below meth c H locs cells slots Q (F0 m pc ls rest) := by
  obtain ⟨cf, kf, fi, f, a, cell, h1, h2, h3, h4, h5, h6, h7, h8⟩ := hZ
  exact va_WgetsN hC.1 hC.2.1 hC.2.2.2.2.1 (va_Nw.use rfl hlink) h1 h2 h3 h4 h5 (fun e => by rw [e] at h6; cases h6) h7 rfl hdg kk
theorem gs (hC : CX p s m meth c y0 cc nL ret0 args) {C n d : String} {v : Value} {index : Nat} (hZ : va_Z C n d v A s H) (hlink : Cond.fieldLink y0.cls index C n d ∈ bigW) (hdg : decode cc pc = .ok (.getstatic index, 3))
    (kk : W p l e R s m args below meth c H locs cells slots Q (F0 m (pc + 3) ls (v :: rest))) : W p l e R s m args below meth c H locs cells slots Q (F0 m pc ls rest) := by
  obtain ⟨cf, kf, fi, f, a, cell, h1, h2, h3, h4, h5, h6, h7, h8⟩ := hZ
  exact W.gets hC.1 hC.2.1 hC.2.2.2.2.1 (hC.2.2.2.2.2.2.1 _ hlink) h1 h2 h3 h4 h5 (fun e => by rw [e] at h6; cases h6) h7 rfl hdg kk
/-- a class of the world: its words in the common list, its types -/
abbrev FW (C : String) (T : u_T) (N : Nat) (ty : Nat → FieldType) : Prop := (∀ w ∈ u_ws C T N, w ∈ bigW) ∧ (∀ k, k < N → parseFieldDescriptor (T k).2.2.1 = some (ty k)) ∧ (∀ a, a < N → ∀ b, b < N → a ≠ b → (T a).2.1 ≠ (T b).2.1)
theorem gf (hC : CX p s m meth c y0 cc nL ret0 args) {C : String} {T : u_T} {N ci index : Nat} {ty : Nat → FieldType} (hw : FW C T N ty) (hKN : KN G s H) (hP : PW G ws H) (q0 : Nat) {fs : List Value} (he : ws[q0]? = some (a, .inr (ci, fs))) (hc : vwCl[ci]? = some (C, T, N)) (k : Nat) (hk : k < N) {fo fn fd : String} {ff : Bool} (hT : T k = (fo, fn, fd, ff)) (hlink : Cond.fieldLink y0.cls index fo fn fd ∈ bigW) {v : Value} (hv : fs[k]? = some v) (hdg : decode cc pc = .ok (.getfield index, 3))
    (kk : W p l e R s m args below meth c H locs cells slots Q (F0 m (pc + 3) ls (v :: rest))) : W p l e R s m args below meth c H locs cells slots Q (F0 m pc ls (.ref a :: rest)) :=
  va_get (ref := fo) (index := index) hC.1 hC.2.1 hC.2.2.2.2.2.2.1 hw.1 hC.2.2.2.2.1 hKN.k hP q0 he hc k hk (by rw [hT]; exact hC.2.2.2.2.2.2.1 _ hlink) (by rw [hT]; exact fun _ h => h) hv hdg kk
theorem gfN (hC : CX p s m meth c y0 cc nL ret0 args) {C host : String} {T : u_T} {N ci index : Nat} {ty : Nat → FieldType} (hw : FW C T N ty) (hKN : KN G s H) (hP : PW G ws H) (q0 : Nat) {fs : List Value} (he : ws[q0]? = some (a, .inr (ci, fs))) (hc : vwCl[ci]? = some (C, T, N)) (k : Nat) (hk : k < N) {fo fn fd : String} {ff : Bool} (hT : T k = (fo, fn, fd, ff)) (hlink : va_Nw (.fieldLinkNest y0.cls index fo fn fd host) s) {v : Value} (hv : fs[k]? = some v) (hdg : decode cc pc = .ok (.getfield index, 3))
    (kk : W p l e R s m args below meth c H locs cells slots Q (F0 m (pc + 3) ls (v :: rest))) : W p l e R s m args below meth c H locs cells slots Q (F0 m pc ls (.ref a :: rest)) :=
  va_getN (host := host) (ref := fo) (index := index) hC.1 hC.2.1 hC.2.2.2.2.2.2.1 hw.1 hC.2.2.2.2.1 hKN.k hP q0 he hc k hk (by rw [hT]; exact va_Nw.use rfl hlink) (by rw [hT]; exact fun _ h => h) hv hdg kk
theorem pf (hC : CX p s m meth c y0 cc nL ret0 args) {C : String} {T : u_T} {N ci index : Nat} {ty : Nat → FieldType} (hw : FW C T N ty) (hKN : KN G s H) (hP : PW G ws H) (hD : va_D A ws) (hS : va_S A H0 H locs) (q0 : Nat) {fs : List Value} (he : ws[q0]? = some (a, .inr (ci, fs))) (hc : vwCl[ci]? = some (C, T, N)) (k : Nat) (hk : k < N) {fo fn fd : String} (hT : T k = (fo, fn, fd, false)) (hlink : Cond.fieldLink y0.cls index fo fn fd ∈ bigW) {v : Value} {tv : FieldType} (ht : ty k = tv) (hn : narrow tv v = v) (hfit : fits tv v = true) (hl : k < fs.length) (hdg : decode cc pc = .ok (.putfield index, 3))
    (kk : ∀ (H1 : Heap) (locs1 : List Loc), PW G (ws.set q0 (a, .inr (ci, fs.set k v))) H1 → va_S A H0 H1 locs1 → W p l e R s m args below meth c H1 locs1 cells slots Q (F0 m (pc + 3) ls rest)) : W p l e R s m args below meth c H locs cells slots Q (F0 m pc ls (v :: .ref a :: rest)) :=
  va_put (ref := fo) (index := index) (ty := tv) hC.1 hC.2.1 hC.2.2.2.2.2.2.1 hw.1 ty hw.2.1 hw.2.2 hC.2.2.2.2.1 hKN.k hP hD hS q0 he hc k hk (by rw [hT]; exact hC.2.2.2.2.2.2.1 _ hlink) (by rw [hT]; exact fun _ h => h) (by rw [hT]) (by rw [hw.2.1 k hk, ht]) hn hfit hl hdg (fun H1 locs1 h1 _ h3 => kk H1 locs1 h1 h3)
theorem pfN (hC : CX p s m meth c y0 cc nL ret0 args) {C host : String} {T : u_T} {N ci index : Nat} {ty : Nat → FieldType} (hw : FW C T N ty) (hKN : KN G s H) (hP : PW G ws H) (hD : va_D A ws) (hS : va_S A H0 H locs) (q0 : Nat) {fs : List Value} (he : ws[q0]? = some (a, .inr (ci, fs))) (hc : vwCl[ci]? = some (C, T, N)) (k : Nat) (hk : k < N) {fo fn fd : String} (hT : T k = (fo, fn, fd, false)) (hlink : va_Nw (.fieldLinkNest y0.cls index fo fn fd host) s) {v : Value} {tv : FieldType} (ht : ty k = tv) (hn : narrow tv v = v) (hfit : fits tv v = true) (hl : k < fs.length) (hdg : decode cc pc = .ok (.putfield index, 3))
    (kk : ∀ (H1 : Heap) (locs1 : List Loc), PW G (ws.set q0 (a, .inr (ci, fs.set k v))) H1 → va_S A H0 H1 locs1 → W p l e R s m args below meth c H1 locs1 cells slots Q (F0 m (pc + 3) ls rest)) : W p l e R s m args below meth c H locs cells slots Q (F0 m pc ls (v :: .ref a :: rest)) :=
  va_putN (host := host) (ref := fo) (index := index) (ty := tv) hC.1 hC.2.1 hC.2.2.2.2.2.2.1 hw.1 ty hw.2.1 hw.2.2 hC.2.2.2.2.1 hKN.k hP hD hS q0 he hc k hk (by rw [hT]; exact va_Nw.use rfl hlink) (by rw [hT]; exact fun _ h => h) (by rw [hT]) (by rw [hw.2.1 k hk, ht]) hn hfit hl hdg (fun H1 locs1 h1 _ h3 => kk H1 locs1 h1 h3)
theorem eP_i {F : Value} {v : Int32} (hC : CX p s m meth c y0 cc nL (some .int) args) (hF : F = .int v) (hdg : decode cc pc = .ok (.ireturn, 1)) : W p l e R s m args below meth c s.heap [] 0 0 (MQ below (QP F) args s 0 0 (fun _ => False)) (F0 m pc ls [.int v]) := by
  subst hF; exact W.iret hC.1 hC.2.1 hC.2.2.1 (fun t ht _ => ⟨rfl, ht⟩) (fun _ h => nomatch h) hdg hC.2.2.2.2.2.1
theorem eP_z {F : Value} {v : Int32} (hC : CX p s m meth c y0 cc nL (some .boolean) args) (hF : F = .int v) (hn : narrow .boolean (.int v) = .int v) (hdg : decode cc pc = .ok (.ireturn, 1)) : W p l e R s m args below meth c s.heap [] 0 0 (MQ below (QP F) args s 0 0 (fun _ => False)) (F0 m pc ls [.int v]) := by
  subst hF; exact W.zret hC.1 hC.2.1 hC.2.2.1 hn (fun t ht _ => ⟨rfl, ht⟩) (fun _ h => nomatch h) hdg hC.2.2.2.2.2.1
theorem eP_l {F : Value} {v : Int64} (hC : CX p s m meth c y0 cc nL (some .long) args) (hF : F = .long v) (hdg : decode cc pc = .ok (.lreturn, 1)) : W p l e R s m args below meth c s.heap [] 0 0 (MQ below (QP F) args s 0 0 (fun _ => False)) (F0 m pc ls [.long v]) := by
  subst hF; exact W.lret hC.1 hC.2.1 hC.2.2.1 (fun t ht _ => ⟨rfl, ht⟩) (fun _ h => nomatch h) hdg hC.2.2.2.2.2.1
theorem eP_d {F : Value} {v : UInt64} (hC : CX p s m meth c y0 cc nL (some .double) args) (hF : F = .double v) (hdg : decode cc pc = .ok (.dreturn, 1)) : W p l e R s m args below meth c s.heap [] 0 0 (MQ below (QP F) args s 0 0 (fun _ => False)) (F0 m pc ls [.double v]) := by
  subst hF; exact W.dret hC.1 hC.2.1 hC.2.2.1 (fun t ht _ => ⟨rfl, ht⟩) (fun _ h => nomatch h) hdg hC.2.2.2.2.2.1
theorem eP_f {F : Value} {v : UInt32} (hC : CX p s m meth c y0 cc nL (some .float) args) (hF : F = .float v) (hdg : decode cc pc = .ok (.freturn, 1)) : W p l e R s m args below meth c s.heap [] 0 0 (MQ below (QP F) args s 0 0 (fun _ => False)) (F0 m pc ls [.float v]) := by
  subst hF; exact W.fret hC.1 hC.2.1 hC.2.2.1 (fun t ht _ => ⟨rfl, ht⟩) (fun _ h => nomatch h) hdg hC.2.2.2.2.2.1
theorem eE_v {B1 : Heap → Prop} (hC : CX p s m meth c y0 cc nL none args) (hB : B1 H) (hS : va_S A s.heap H locs) (hdg : decode cc pc = .ok (.return_, 1)) : W p l e R s m args below meth c H locs cells slots (MQ below (QE none B1 A) args s cells slots A) (F0 m pc ls []) :=
  W.vret hC.1 hC.2.1 hC.2.2.1 (fun t ht _ => ⟨⟨rfl, by rw [ht]; exact hB⟩, hS.F ht⟩) hS.2.2 hdg hC.2.2.2.2.2.1
theorem eE_i {B1 : Heap → Prop} {F : Option Value} {v : Int32} (hC : CX p s m meth c y0 cc nL (some .int) args) (hF : F = some (.int v)) (hB : B1 H) (hS : va_S A s.heap H locs) (hdg : decode cc pc = .ok (.ireturn, 1)) : W p l e R s m args below meth c H locs cells slots (MQ below (QE F B1 A) args s cells slots A) (F0 m pc ls [.int v]) := by
  subst hF; exact W.iret hC.1 hC.2.1 hC.2.2.1 (fun t ht _ => ⟨⟨rfl, by rw [ht]; exact hB⟩, hS.F ht⟩) hS.2.2 hdg hC.2.2.2.2.2.1
theorem eE_z {B1 : Heap → Prop} {F : Option Value} {v : Int32} (hC : CX p s m meth c y0 cc nL (some .boolean) args) (hF : F = some (.int v)) (hn : narrow .boolean (.int v) = .int v) (hB : B1 H) (hS : va_S A s.heap H locs) (hdg : decode cc pc = .ok (.ireturn, 1)) : W p l e R s m args below meth c H locs cells slots (MQ below (QE F B1 A) args s cells slots A) (F0 m pc ls [.int v]) := by
  subst hF; exact W.zret hC.1 hC.2.1 hC.2.2.1 hn (fun t ht _ => ⟨⟨rfl, by rw [ht]; exact hB⟩, hS.F ht⟩) hS.2.2 hdg hC.2.2.2.2.2.1
theorem eE_l {B1 : Heap → Prop} {F : Option Value} {v : Int64} (hC : CX p s m meth c y0 cc nL (some .long) args) (hF : F = some (.long v)) (hB : B1 H) (hS : va_S A s.heap H locs) (hdg : decode cc pc = .ok (.lreturn, 1)) : W p l e R s m args below meth c H locs cells slots (MQ below (QE F B1 A) args s cells slots A) (F0 m pc ls [.long v]) := by
  subst hF; exact W.lret hC.1 hC.2.1 hC.2.2.1 (fun t ht _ => ⟨⟨rfl, by rw [ht]; exact hB⟩, hS.F ht⟩) hS.2.2 hdg hC.2.2.2.2.2.1
end ROWS
end
section
/-! the pictures of the worlds, small lemmas for the walks -/
abbrev SV : Type := Nat → Nat → Int32
def sr (v : SV) (i : Nat) (f : Nat → Int32) : SV := fun j => if j = i then f else v j
def ss (v : SV) (i k : Nat) (x : Int32) : SV := sr v i (upd (v i) k x)
/-- a State with its Strip and its Totals; rows 0 heat, 1 pulses, 2 settings, 3 dark, 4 faint, 5 parts, 6 dotsOf, 7 faintOf; row 8: 0 size, 1 time, 2 lines, 3 parts, 4 waits, 5 dots, 6 faint, 7 hottest, 8 lastLine, 9 lineBefore, 10 paperKind -/
def stW (G : GT) (q : Nat → Nat) (v : SV) : va_W :=
  [(q 0, .inr (2, [.ref (q 1), .ref (q 2), .ref (q 3), .ref (q 4), .ref (q 8), .int (v 8 8), .int (v 8 9), .int (v 8 10)])),
   (q 1, .inl (gI G, 24, .inl (v 0))), (q 2, .inl (gI G, 24, .inl (v 1))), (q 3, .inl (gI G, 7, .inl (v 2))),
   (q 4, .inr (3, [.ref (q 5), .ref (q 6), .ref (q 7), .int (v 8 0)])), (q 5, .inl (gI G, 12, .inl (v 3))), (q 6, .inl (gI G, 12, .inl (v 4))), (q 7, .inl (gI G, 12, .inl (v 5))),
   (q 8, .inr (4, [.ref (q 9), .ref (q 10), .int (v 8 1), .int (v 8 2), .int (v 8 3), .int (v 8 4), .int (v 8 5), .int (v 8 6), .int (v 8 7)])), (q 9, .inl (gI G, 24, .inl (v 6))), (q 10, .inl (gI G, 24, .inl (v 7)))]
def stA (q : Nat → Nat) : Nat → Prop := fun a => ∃ i, i < 11 ∧ a = q i
def stD (G : GT) (q : Nat → Nat) : Prop := (∀ i, i < 11 → gL G ≤ q i) ∧ ∀ i j, i < 11 → j < 11 → q i = q j → i = j
theorem va_D_of {A : Nat → Prop} {ws : va_W} {q : Nat → Nat} {n : Nat} (hw : ws.map Prod.fst = (List.range n).map q) (hA : ∀ i, i < n → A (q i)) (hi : ∀ i j, i < n → j < n → q i = q j → i = j) : va_D A ws := by
  have key : ∀ (k : Nat) (p : Nat × va_E), ws[k]? = some p → k < n ∧ p.1 = q k := by
    intro k p hk
    have h1 : (ws.map Prod.fst)[k]? = some p.1 := by rw [List.getElem?_map, hk]; rfl
    rw [hw, List.getElem?_map] at h1
    cases hr : (List.range n)[k]? with
    | none => rw [hr] at h1; cases h1
    | some z =>
      rw [hr] at h1
      obtain ⟨h2, h3⟩ := List.getElem?_eq_some_iff.mp hr
      simp at h2 h3
      subst h3
      exact ⟨h2, (Option.some.inj h1).symm⟩
  refine ⟨fun i j x y hx hy e => ?_, fun k p hk => ?_⟩
  · obtain ⟨a1, a2⟩ := key i x hx
    obtain ⟨b1, b2⟩ := key j y hy
    exact hi i j a1 b1 (by rw [← a2, ← b2]; exact e)
  · obtain ⟨a1, a2⟩ := key k p hk
    rw [a2]; exact hA k a1
theorem stD_D {G : GT} {q : Nat → Nat} (h : stD G q) (v : SV) : va_D (stA q) (stW G q v) := va_D_of (n := 11) (q := q) rfl (fun i hi => ⟨i, hi, rfl⟩) h.2
theorem stD_low {G : GT} {q : Nat → Nat} (h : stD G q) : ∀ a, stA q a → gL G ≤ a := fun a ⟨i, hi, e⟩ => by rw [e]; exact h.1 i hi
/-- the reference -/
def mdW (G : GT) (q : Nat → Nat) (v : SV) (hs : Int64) : va_W :=
  [(q 0, .inr (6, [.ref (q 1), .ref (q 2), .int (v 8 0), .ref (q 3), .int (v 8 1), .ref (q 4), .int (v 8 2), .int (v 8 3), .int (v 8 4), .int (v 8 5), .ref (q 5), .int (v 8 6), .int (v 8 7), .int (v 8 8), .ref (q 6), .ref (q 7), .ref (q 8), .long hs])),
   (q 1, .inl (gI G, 124, .inl (v 0))), (q 2, .inl (gI G, 744, .inl (v 1))), (q 3, .inl (gI G, 124, .inl (v 2))), (q 4, .inl (gI G, 124, .inl (v 3))),
   (q 5, .inl (gI G, 60, .inl (v 4))), (q 6, .inl (gI G, 16, .inl (v 5))), (q 7, .inl (gI G, 16, .inl (v 6))), (q 8, .inl (gI G, 16, .inl (v 7)))]
def mdA (q : Nat → Nat) : Nat → Prop := fun a => ∃ i, i < 9 ∧ a = q i
def mdD (G : GT) (q : Nat → Nat) : Prop := (∀ i, i < 9 → gL G ≤ q i) ∧ ∀ i j, i < 9 → j < 9 → q i = q j → i = j
theorem mdD_D {G : GT} {q : Nat → Nat} (h : mdD G q) (v : SV) (hs : Int64) : va_D (mdA q) (mdW G q v hs) := va_D_of (n := 9) (q := q) rfl (fun i hi => ⟨i, hi, rfl⟩) h.2
theorem mdD_low {G : GT} {q : Nat → Nat} (h : mdD G q) : ∀ a, mdA q a → gL G ≤ a := fun a ⟨i, hi, e⟩ => by rw [e]; exact h.1 i hi
/-- one int array -/
def a1W (G : GT) (a n : Nat) (f : Nat → Int32) : va_W := [(a, .inl (gI G, n, .inl f))]
theorem a1W_D {G : GT} {a n : Nat} (f : Nat → Int32) : va_D (fun z => z = a) (a1W G a n f) := va_D_of (n := 1) (q := fun _ => a) rfl (fun _ _ => rfl) (fun i j hi hj _ => by omega)
theorem one_of {G : GT} {ws : va_W} {H : Heap} {a n : Nat} {f : Nat → Int32} (hP : PW G ws H) (k : Nat) (h : ws[k]? = some (a, .inl (gI G, n, .inl f))) : PW G (a1W G a n f) H := by
  intro j q hj
  cases j with
  | zero => cases hj; exact hP k _ h
  | succ j => simp [a1W] at hj
theorem one_set {G : GT} {ws : va_W} {H H1 : Heap} {A : Nat → Prop} {a n : Nat} {f f1 : Nat → Int32} (hP : PW G ws H) (hD : va_D A ws) (k : Nat) (h : ws[k]? = some (a, .inl (gI G, n, .inl f))) (h1 : PW G (a1W G a n f1) H1) (hk : ∀ q : Nat, q < H.size → ¬ (fun z => z = a) q → H1[q]? = H[q]?) : PW G (ws.set k (a, .inl (gI G, n, .inl f1))) H1 := by
  have hl := (List.getElem?_eq_some_iff.mp h).1
  intro j q hj
  by_cases hjk : j = k
  · subst hjk
    rw [List.getElem?_set_self hl] at hj
    cases hj
    exact h1 0 _ rfl
  · rw [List.getElem?_set_ne (Ne.symm hjk)] at hj
    have hq := hP j q hj
    exact hq.kept (hk q.1 hq.lt (fun e => hjk (hD.1 j k q _ hj h e)))
/-! loops -/
section LP
variable {σ ρ : Type}
def lpF : Nat → Nat → (Nat → σ → σ) → σ → σ
  | 0, _, _, s => s
  | n + 1, d, b, s => lpF n (d + 1) b (b d s)
def lpD : Nat → (Nat → σ → σ) → σ → σ
  | 0, _, s => s
  | n + 1, b, s => lpD n b (b (n + 1) s)
def lpR : Nat → Nat → (Nat → σ → σ ⊕ ρ) → σ → σ ⊕ ρ
  | 0, _, _, s => .inl s
  | n + 1, d, b, s => match b d s with
    | .inl s' => lpR n (d + 1) b s'
    | .inr r => .inr r
def lpRs (n d : Nat) (b : Nat → σ → σ ⊕ ρ) (z : σ ⊕ ρ) : σ ⊕ ρ := match z with
    | .inl s' => lpR n (d + 1) b s'
    | .inr r => .inr r
def lpB : Nat → (σ → Bool × σ) → σ → σ
  | 0, _, s => s
  | n + 1, g, s => bif (g s).1 then lpB n g (g s).2 else (g s).2
def lpBs (n : Nat) (g : σ → Bool × σ) (z : Bool × σ) : σ := bif z.1 then lpB n g z.2 else z.2
def lpT : Nat → (σ → Bool × σ) → σ → Prop
  | 0, _, _ => False
  | n + 1, g, s => (g s).1 = true → lpT n g (g s).2
def lpTs (n : Nat) (g : σ → Bool × σ) (z : Bool × σ) : Prop := z.1 = true → lpT n g z.2
end LP
/-! numbers -/
theorem nE_add {x y : Int32} {a b : Nat} (h1 : x = nI a) (h2 : y = nI b) : x + y = nI (a + b) := by rw [h1, h2]; exact nI_add a b
theorem nE_mul {x y : Int32} {a b : Nat} (h1 : x = nI a) (h2 : y = nI b) : x * y = nI (a * b) := by rw [h1, h2]; exact pk_mul a b
theorem nE_sub {x y : Int32} {a b : Nat} (h1 : x = nI a) (h2 : y = nI b) (h : b ≤ a) : x - y = nI (a - b) := by rw [h1, h2]; exact pk_sub h
theorem i_clamp {x : Int32} (h : ¬ x < 0) : x = nI x.toNatClampNeg ∧ x.toNatClampNeg < 2 ^ 31 := by
  obtain ⟨j, hj, rfl⟩ := nI_of h
  rw [nI_clamp hj]; exact ⟨rfl, hj⟩
theorem vp_path {x : Int32} {n : Nat} (h1 : ¬ x < 0) (h2 : ¬ nI n ≤ x) : vp_in x n := by
  obtain ⟨e, hj⟩ := i_clamp h1
  intro h
  rcases h with h | h
  · exact h1 h
  · apply h2
    rw [e]
    exact nI_le h hj
theorem cl_lt (x : Int32) : x.toNatClampNeg < 2 ^ 31 := by
  by_cases h : x < 0
  · have : x.toNatClampNeg = 0 := by
      have h1 : x.toInt < 0 := by simpa using Int32.lt_iff_toInt_lt.mp h
      show x.toInt.toNat = 0
      omega
    rw [this]; decide
  · exact (i_clamp h).2
theorem cl_le {x : Int32} {d : Nat} (h : x.toNatClampNeg ≤ d) (hd : d < 2 ^ 31) : x ≤ nI d := by
  by_cases hx : x < 0
  · have h1 : x.toInt < 0 := by simpa using Int32.lt_iff_toInt_lt.mp hx
    rw [Int32.le_iff_toInt_le, nI_toInt hd]
    omega
  · obtain ⟨e, hj⟩ := i_clamp hx
    rw [e]; exact nI_le h hd
theorem cl_nle {x : Int32} {d : Nat} (h : d < x.toNatClampNeg) : ¬ x ≤ nI d := by
  have hx : ¬ x < 0 := fun hx => by
    have h1 : x.toInt < 0 := by simpa using Int32.lt_iff_toInt_lt.mp hx
    have : x.toNatClampNeg = 0 := by
      show x.toInt.toNat = 0
      omega
    omega
  obtain ⟨e, hj⟩ := i_clamp hx
  rw [e]; exact nI_ge h hj
theorem nb01 {v : Int32} (h : v = 0 ∨ v = 1) : narrow .boolean (.int v) = .int v := by
  rcases h with rfl | rfl <;> rfl
end
section
theorem wd_1 : (Cond.initialized "HeadDots") ∈ bigW := bw 1 (by decide +kernel) (by decide +kernel)
theorem wd_60 : (Cond.laysFinal "HeadDots$Strip" "HeadDots$Strip" "dark" "[I") ∈ bigW := bw 60 (by decide +kernel) (by decide +kernel)
theorem wd_62 : (Cond.laysFinal "HeadDots$Strip" "HeadDots$Strip" "faint" "[I") ∈ bigW := bw 62 (by decide +kernel) (by decide +kernel)
theorem wd_64 : (Cond.laysFinal "HeadDots$Strip" "HeadDots$Strip" "parts" "[I") ∈ bigW := bw 64 (by decide +kernel) (by decide +kernel)
theorem wd_66 : (Cond.lays "HeadDots$Strip" "HeadDots$Strip" "size" "I") ∈ bigW := bw 66 (by decide +kernel) (by decide +kernel)
theorem wd_97 : (Cond.laysFinal "HeadDots$Totals" "HeadDots$Totals" "dotsOf" "[I") ∈ bigW := bw 97 (by decide +kernel) (by decide +kernel)
theorem wd_99 : (Cond.laysFinal "HeadDots$Totals" "HeadDots$Totals" "faintOf" "[I") ∈ bigW := bw 99 (by decide +kernel) (by decide +kernel)
theorem wd_101 : (Cond.lays "HeadDots$Totals" "HeadDots$Totals" "time" "I") ∈ bigW := bw 101 (by decide +kernel) (by decide +kernel)
theorem wd_103 : (Cond.lays "HeadDots$Totals" "HeadDots$Totals" "lines" "I") ∈ bigW := bw 103 (by decide +kernel) (by decide +kernel)
theorem wd_105 : (Cond.lays "HeadDots$Totals" "HeadDots$Totals" "parts" "I") ∈ bigW := bw 105 (by decide +kernel) (by decide +kernel)
theorem wd_107 : (Cond.lays "HeadDots$Totals" "HeadDots$Totals" "waits" "I") ∈ bigW := bw 107 (by decide +kernel) (by decide +kernel)
theorem wd_109 : (Cond.lays "HeadDots$Totals" "HeadDots$Totals" "dots" "I") ∈ bigW := bw 109 (by decide +kernel) (by decide +kernel)
theorem wd_111 : (Cond.lays "HeadDots$Totals" "HeadDots$Totals" "faint" "I") ∈ bigW := bw 111 (by decide +kernel) (by decide +kernel)
theorem wd_113 : (Cond.lays "HeadDots$Totals" "HeadDots$Totals" "hottest" "I") ∈ bigW := bw 113 (by decide +kernel) (by decide +kernel)
theorem wd_127 : (Cond.laysFinal "HeadDots$State" "HeadDots$State" "heat" "[I") ∈ bigW := bw 127 (by decide +kernel) (by decide +kernel)
theorem wd_129 : (Cond.laysFinal "HeadDots$State" "HeadDots$State" "pulses" "[I") ∈ bigW := bw 129 (by decide +kernel) (by decide +kernel)
theorem wd_131 : (Cond.laysFinal "HeadDots$State" "HeadDots$State" "settings" "[I") ∈ bigW := bw 131 (by decide +kernel) (by decide +kernel)
theorem wd_133 : (Cond.laysFinal "HeadDots$State" "HeadDots$State" "strip" "LHeadDots$Strip;") ∈ bigW := bw 133 (by decide +kernel) (by decide +kernel)
theorem wd_135 : (Cond.laysFinal "HeadDots$State" "HeadDots$State" "totals" "LHeadDots$Totals;") ∈ bigW := bw 135 (by decide +kernel) (by decide +kernel)
theorem wd_137 : (Cond.lays "HeadDots$State" "HeadDots$State" "lastLine" "I") ∈ bigW := bw 137 (by decide +kernel) (by decide +kernel)
theorem wd_139 : (Cond.lays "HeadDots$State" "HeadDots$State" "lineBefore" "I") ∈ bigW := bw 139 (by decide +kernel) (by decide +kernel)
theorem wd_141 : (Cond.lays "HeadDots$State" "HeadDots$State" "paperKind" "I") ∈ bigW := bw 141 (by decide +kernel) (by decide +kernel)
theorem wd_155 : (Cond.laysFinal "HeadDots$Buffer" "HeadDots$Buffer" "codes" "[I") ∈ bigW := bw 155 (by decide +kernel) (by decide +kernel)
theorem wd_157 : (Cond.lays "HeadDots$Buffer" "HeadDots$Buffer" "length" "I") ∈ bigW := bw 157 (by decide +kernel) (by decide +kernel)
theorem wd_181 : (Cond.lays "HeadDots$Reader" "HeadDots$Reader" "mode" "I") ∈ bigW := bw 181 (by decide +kernel) (by decide +kernel)
theorem wd_183 : (Cond.lays "HeadDots$Reader" "HeadDots$Reader" "modeBehindWord" "I") ∈ bigW := bw 183 (by decide +kernel) (by decide +kernel)
theorem wd_185 : (Cond.lays "HeadDots$Reader" "HeadDots$Reader" "word" "Ljava/lang/String;") ∈ bigW := bw 185 (by decide +kernel) (by decide +kernel)
theorem wd_187 : (Cond.lays "HeadDots$Reader" "HeadDots$Reader" "wordAt" "I") ∈ bigW := bw 187 (by decide +kernel) (by decide +kernel)
theorem wd_189 : (Cond.lays "HeadDots$Reader" "HeadDots$Reader" "kind" "I") ∈ bigW := bw 189 (by decide +kernel) (by decide +kernel)
theorem wd_191 : (Cond.lays "HeadDots$Reader" "HeadDots$Reader" "dots" "I") ∈ bigW := bw 191 (by decide +kernel) (by decide +kernel)
theorem wd_193 : (Cond.lays "HeadDots$Reader" "HeadDots$Reader" "dotsDigits" "I") ∈ bigW := bw 193 (by decide +kernel) (by decide +kernel)
theorem wd_195 : (Cond.lays "HeadDots$Reader" "HeadDots$Reader" "paperKind" "I") ∈ bigW := bw 195 (by decide +kernel) (by decide +kernel)
theorem wd_197 : (Cond.lays "HeadDots$Reader" "HeadDots$Reader" "number" "I") ∈ bigW := bw 197 (by decide +kernel) (by decide +kernel)
theorem wd_199 : (Cond.lays "HeadDots$Reader" "HeadDots$Reader" "numberMost" "I") ∈ bigW := bw 199 (by decide +kernel) (by decide +kernel)
theorem wd_211 : (Cond.laysFinal "HeadDots" "HeadDots" "now" "LHeadDots$State;") ∈ bigW := bw 211 (by decide +kernel) (by decide +kernel)
theorem wd_213 : (Cond.laysFinal "HeadDots" "HeadDots" "snapshot" "LHeadDots$State;") ∈ bigW := bw 213 (by decide +kernel) (by decide +kernel)
theorem wd_215 : (Cond.laysFinal "HeadDots" "HeadDots" "trial" "LHeadDots$State;") ∈ bigW := bw 215 (by decide +kernel) (by decide +kernel)
theorem wd_217 : (Cond.laysFinal "HeadDots" "HeadDots" "saved" "[LHeadDots$State;") ∈ bigW := bw 217 (by decide +kernel) (by decide +kernel)
theorem wd_219 : (Cond.laysFinal "HeadDots" "HeadDots" "buffer" "LHeadDots$Buffer;") ∈ bigW := bw 219 (by decide +kernel) (by decide +kernel)
theorem wd_221 : (Cond.laysFinal "HeadDots" "HeadDots" "reader" "LHeadDots$Reader;") ∈ bigW := bw 221 (by decide +kernel) (by decide +kernel)
theorem wd_223 : (Cond.lays "HeadDots" "HeadDots" "savedCount" "I") ∈ bigW := bw 223 (by decide +kernel) (by decide +kernel)
theorem wd_225 : (Cond.lays "HeadDots" "HeadDots" "hasSnapshot" "Z") ∈ bigW := bw 225 (by decide +kernel) (by decide +kernel)
theorem wd_250 : (Cond.code ({ cls := "HeadDots", name := "at", desc := "([II)I" } : MethodName) prog_1_method_44_code 2 (Option.some ClassFile.FieldType.int)) ∈ bigW := bw 250 (by decide +kernel) (by decide +kernel)
theorem wd_344 : (Cond.code ({ cls := "HeadDots", name := "isWithin", desc := "(III)Z" } : MethodName) prog_1_method_40_code 3 (Option.some ClassFile.FieldType.boolean)) ∈ bigW := bw 344 (by decide +kernel) (by decide +kernel)
theorem wd_434 : (Cond.code ({ cls := "HeadDots", name := "bitOf", desc := "(II)I" } : MethodName) prog_1_method_43_code 2 (Option.some ClassFile.FieldType.int)) ∈ bigW := bw 434 (by decide +kernel) (by decide +kernel)
theorem wd_905 : (Cond.laysFinal "HeadDotsModel" "HeadDotsModel" "row" "[I") ∈ bigW := bw 905 (by decide +kernel) (by decide +kernel)
theorem wd_907 : (Cond.laysFinal "HeadDotsModel" "HeadDotsModel" "saved" "[I") ∈ bigW := bw 907 (by decide +kernel) (by decide +kernel)
theorem wd_909 : (Cond.lays "HeadDotsModel" "HeadDotsModel" "savedMany" "I") ∈ bigW := bw 909 (by decide +kernel) (by decide +kernel)
theorem wd_911 : (Cond.laysFinal "HeadDotsModel" "HeadDotsModel" "snapshot" "[I") ∈ bigW := bw 911 (by decide +kernel) (by decide +kernel)
theorem wd_913 : (Cond.lays "HeadDotsModel" "HeadDotsModel" "isKept" "Z") ∈ bigW := bw 913 (by decide +kernel) (by decide +kernel)
theorem wd_915 : (Cond.laysFinal "HeadDotsModel" "HeadDotsModel" "aside" "[I") ∈ bigW := bw 915 (by decide +kernel) (by decide +kernel)
theorem wd_917 : (Cond.lays "HeadDotsModel" "HeadDotsModel" "thrown" "I") ∈ bigW := bw 917 (by decide +kernel) (by decide +kernel)
theorem wd_919 : (Cond.lays "HeadDotsModel" "HeadDotsModel" "waits" "I") ∈ bigW := bw 919 (by decide +kernel) (by decide +kernel)
theorem wd_921 : (Cond.lays "HeadDotsModel" "HeadDotsModel" "dark" "I") ∈ bigW := bw 921 (by decide +kernel) (by decide +kernel)
theorem wd_923 : (Cond.lays "HeadDotsModel" "HeadDotsModel" "hottest" "I") ∈ bigW := bw 923 (by decide +kernel) (by decide +kernel)
theorem wd_925 : (Cond.laysFinal "HeadDotsModel" "HeadDotsModel" "buffer" "[I") ∈ bigW := bw 925 (by decide +kernel) (by decide +kernel)
theorem wd_927 : (Cond.lays "HeadDotsModel" "HeadDotsModel" "length" "I") ∈ bigW := bw 927 (by decide +kernel) (by decide +kernel)
theorem wd_929 : (Cond.lays "HeadDotsModel" "HeadDotsModel" "spot" "I") ∈ bigW := bw 929 (by decide +kernel) (by decide +kernel)
theorem wd_931 : (Cond.lays "HeadDotsModel" "HeadDotsModel" "parts" "I") ∈ bigW := bw 931 (by decide +kernel) (by decide +kernel)
theorem wd_933 : (Cond.laysFinal "HeadDotsModel" "HeadDotsModel" "kind" "[I") ∈ bigW := bw 933 (by decide +kernel) (by decide +kernel)
theorem wd_935 : (Cond.laysFinal "HeadDotsModel" "HeadDotsModel" "what" "[I") ∈ bigW := bw 935 (by decide +kernel) (by decide +kernel)
theorem wd_937 : (Cond.laysFinal "HeadDotsModel" "HeadDotsModel" "times" "[I") ∈ bigW := bw 937 (by decide +kernel) (by decide +kernel)
theorem wd_939 : (Cond.lays "HeadDotsModel" "HeadDotsModel" "hash" "J") ∈ bigW := bw 939 (by decide +kernel) (by decide +kernel)
theorem nf_0 : ("HeadDots$State", 18, "HeadDots", "SETTING_FIRST", "[I", "HeadDots") ∈ nestF := List.mem_of_getElem? (i := 0) rfl
theorem nf_1 : ("HeadDots$State", 67, "HeadDots$Strip", "size", "I", "HeadDots") ∈ nestF := List.mem_of_getElem? (i := 1) rfl
theorem nf_2 : ("HeadDots", 101, "HeadDots$Strip", "size", "I", "HeadDots") ∈ nestF := List.mem_of_getElem? (i := 2) rfl
theorem nf_3 : ("HeadDots$State", 166, "HeadDots$Totals", "dotsOf", "[I", "HeadDots") ∈ nestF := List.mem_of_getElem? (i := 3) rfl
theorem nf_4 : ("HeadDots$State", 169, "HeadDots$Totals", "faintOf", "[I", "HeadDots") ∈ nestF := List.mem_of_getElem? (i := 4) rfl
theorem nf_5 : ("HeadDots$State", 74, "HeadDots$Totals", "time", "I", "HeadDots") ∈ nestF := List.mem_of_getElem? (i := 5) rfl
theorem nf_6 : ("HeadDots", 283, "HeadDots$Totals", "time", "I", "HeadDots") ∈ nestF := List.mem_of_getElem? (i := 6) rfl
theorem nf_7 : ("HeadDots", 158, "HeadDots$Totals", "lines", "I", "HeadDots") ∈ nestF := List.mem_of_getElem? (i := 7) rfl
theorem nf_8 : ("HeadDots", 285, "HeadDots$Totals", "parts", "I", "HeadDots") ∈ nestF := List.mem_of_getElem? (i := 8) rfl
theorem nf_9 : ("HeadDots$State", 100, "HeadDots$Totals", "waits", "I", "HeadDots") ∈ nestF := List.mem_of_getElem? (i := 9) rfl
theorem nf_10 : ("HeadDots", 288, "HeadDots$Totals", "waits", "I", "HeadDots") ∈ nestF := List.mem_of_getElem? (i := 10) rfl
theorem nf_11 : ("HeadDots", 291, "HeadDots$Totals", "dots", "I", "HeadDots") ∈ nestF := List.mem_of_getElem? (i := 11) rfl
theorem nf_12 : ("HeadDots", 76, "HeadDots$Totals", "faint", "I", "HeadDots") ∈ nestF := List.mem_of_getElem? (i := 12) rfl
theorem nf_13 : ("HeadDots$State", 130, "HeadDots$Totals", "hottest", "I", "HeadDots") ∈ nestF := List.mem_of_getElem? (i := 13) rfl
theorem nf_14 : ("HeadDots", 295, "HeadDots$Totals", "hottest", "I", "HeadDots") ∈ nestF := List.mem_of_getElem? (i := 14) rfl
theorem nf_15 : ("HeadDots", 97, "HeadDots$State", "strip", "LHeadDots$Strip;", "HeadDots") ∈ nestF := List.mem_of_getElem? (i := 15) rfl
theorem nf_16 : ("HeadDots", 72, "HeadDots$State", "totals", "LHeadDots$Totals;", "HeadDots") ∈ nestF := List.mem_of_getElem? (i := 16) rfl
theorem nf_17 : ("HeadDots", 298, "HeadDots$State", "paperKind", "I", "HeadDots") ∈ nestF := List.mem_of_getElem? (i := 17) rfl
theorem nf_18 : ("HeadDots$Reader", 48, "HeadDots$Buffer", "length", "I", "HeadDots") ∈ nestF := List.mem_of_getElem? (i := 18) rfl
theorem nf_19 : ("HeadDots", 146, "HeadDots$Buffer", "length", "I", "HeadDots") ∈ nestF := List.mem_of_getElem? (i := 19) rfl
theorem nf_20 : ("HeadDots", 267, "HeadDots$Reader", "kind", "I", "HeadDots") ∈ nestF := List.mem_of_getElem? (i := 20) rfl
theorem nf_21 : ("HeadDots", 270, "HeadDots$Reader", "dots", "I", "HeadDots") ∈ nestF := List.mem_of_getElem? (i := 21) rfl
theorem nf_22 : ("HeadDots", 280, "HeadDots$Reader", "paperKind", "I", "HeadDots") ∈ nestF := List.mem_of_getElem? (i := 22) rfl
theorem nf_23 : ("HeadDots", 272, "HeadDots$Reader", "number", "I", "HeadDots") ∈ nestF := List.mem_of_getElem? (i := 23) rfl
theorem nf_24 : ("HeadDots$State", 137, "HeadDots", "PAPER_PULSE", "[I", "HeadDots") ∈ nestF := List.mem_of_getElem? (i := 24) rfl
theorem nf_25 : ("HeadDots$State", 140, "HeadDots", "PAPER_DARK", "[I", "HeadDots") ∈ nestF := List.mem_of_getElem? (i := 25) rfl
theorem nf_26 : ("HeadDots$State", 153, "HeadDots", "SETTING_MOST", "[I", "HeadDots") ∈ nestF := List.mem_of_getElem? (i := 26) rfl
theorem nf_27 : ("HeadDots$State", 156, "HeadDots", "SETTING_LEAST", "[I", "HeadDots") ∈ nestF := List.mem_of_getElem? (i := 27) rfl
theorem nm_0 : (("HeadDots$State", 24, ⟨"HeadDots", "copyRow", "([I[I)V"⟩, "HeadDots") : String × Nat × MethodName × String) ∈ nestM := List.mem_of_getElem? (i := 0) rfl
theorem nm_1 : (("HeadDots$Buffer", 23, ⟨"HeadDots", "at", "([II)I"⟩, "HeadDots") : String × Nat × MethodName × String) ∈ nestM := List.mem_of_getElem? (i := 1) rfl
theorem nm_2 : (("HeadDots$Reader", 124, ⟨"HeadDots", "isWithin", "(III)Z"⟩, "HeadDots") : String × Nat × MethodName × String) ∈ nestM := List.mem_of_getElem? (i := 2) rfl
theorem nm_3 : (("HeadDots$Strip", 25, ⟨"HeadDots", "copyRow", "([I[I)V"⟩, "HeadDots") : String × Nat × MethodName × String) ∈ nestM := List.mem_of_getElem? (i := 3) rfl
theorem nm_4 : (("HeadDots$Totals", 40, ⟨"HeadDots", "copyRow", "([I[I)V"⟩, "HeadDots") : String × Nat × MethodName × String) ∈ nestM := List.mem_of_getElem? (i := 4) rfl
theorem nm_5 : (("HeadDots$State", 59, ⟨"HeadDots", "at", "([II)I"⟩, "HeadDots") : String × Nat × MethodName × String) ∈ nestM := List.mem_of_getElem? (i := 5) rfl
theorem nm_6 : (("HeadDots$State", 124, ⟨"HeadDots", "bitOf", "(II)I"⟩, "HeadDots") : String × Nat × MethodName × String) ∈ nestM := List.mem_of_getElem? (i := 6) rfl
theorem nm_7 : (("HeadDots$Strip", 43, ⟨"HeadDots", "at", "([II)I"⟩, "HeadDots") : String × Nat × MethodName × String) ∈ nestM := List.mem_of_getElem? (i := 7) rfl
theorem nm_8 : (("HeadDots$Strip", 54, ⟨"HeadDots", "bitOf", "(II)I"⟩, "HeadDots") : String × Nat × MethodName × String) ∈ nestM := List.mem_of_getElem? (i := 8) rfl
theorem nm_9 : (("HeadDots$State", 63, ⟨"HeadDots", "put", "([III)V"⟩, "HeadDots") : String × Nat × MethodName × String) ∈ nestM := List.mem_of_getElem? (i := 9) rfl
theorem nm_10 : (("HeadDots$Strip", 39, ⟨"HeadDots", "put", "([III)V"⟩, "HeadDots") : String × Nat × MethodName × String) ∈ nestM := List.mem_of_getElem? (i := 10) rfl
theorem nm_11 : (("HeadDots$Totals", 54, ⟨"HeadDots", "bitOf", "(II)I"⟩, "HeadDots") : String × Nat × MethodName × String) ∈ nestM := List.mem_of_getElem? (i := 11) rfl
theorem nm_12 : (("HeadDots$Buffer", 17, ⟨"HeadDots", "put", "([III)V"⟩, "HeadDots") : String × Nat × MethodName × String) ∈ nestM := List.mem_of_getElem? (i := 12) rfl
theorem fwX0 : FW RX0 TX0 2 tyX0 := ⟨(show ∀ w ∈ u_ws RX0 TX0 2, w ∈ bigW from List.forall_mem_cons.mpr ⟨wd_155, List.forall_mem_cons.mpr ⟨wd_157, List.forall_mem_nil _⟩⟩), tyX0_ok, nmX0⟩
theorem fwX1 : FW RX1 TX1 10 tyX1 := ⟨(show ∀ w ∈ u_ws RX1 TX1 10, w ∈ bigW from List.forall_mem_cons.mpr ⟨wd_181, List.forall_mem_cons.mpr ⟨wd_183, List.forall_mem_cons.mpr ⟨wd_185, List.forall_mem_cons.mpr ⟨wd_187, List.forall_mem_cons.mpr ⟨wd_189, List.forall_mem_cons.mpr ⟨wd_191, List.forall_mem_cons.mpr ⟨wd_193, List.forall_mem_cons.mpr ⟨wd_195, List.forall_mem_cons.mpr ⟨wd_197, List.forall_mem_cons.mpr ⟨wd_199, List.forall_mem_nil _⟩⟩⟩⟩⟩⟩⟩⟩⟩⟩), tyX1_ok, nmX1⟩
theorem fwX2 : FW RX2 TX2 8 tyX2 := ⟨(show ∀ w ∈ u_ws RX2 TX2 8, w ∈ bigW from List.forall_mem_cons.mpr ⟨wd_127, List.forall_mem_cons.mpr ⟨wd_129, List.forall_mem_cons.mpr ⟨wd_131, List.forall_mem_cons.mpr ⟨wd_133, List.forall_mem_cons.mpr ⟨wd_135, List.forall_mem_cons.mpr ⟨wd_137, List.forall_mem_cons.mpr ⟨wd_139, List.forall_mem_cons.mpr ⟨wd_141, List.forall_mem_nil _⟩⟩⟩⟩⟩⟩⟩⟩), tyX2_ok, nmX2⟩
theorem fwX3 : FW RX3 TX3 4 tyX3 := ⟨(show ∀ w ∈ u_ws RX3 TX3 4, w ∈ bigW from List.forall_mem_cons.mpr ⟨wd_60, List.forall_mem_cons.mpr ⟨wd_62, List.forall_mem_cons.mpr ⟨wd_64, List.forall_mem_cons.mpr ⟨wd_66, List.forall_mem_nil _⟩⟩⟩⟩), tyX3_ok, nmX3⟩
theorem fwX4 : FW RX4 TX4 9 tyX4 := ⟨(show ∀ w ∈ u_ws RX4 TX4 9, w ∈ bigW from List.forall_mem_cons.mpr ⟨wd_97, List.forall_mem_cons.mpr ⟨wd_99, List.forall_mem_cons.mpr ⟨wd_101, List.forall_mem_cons.mpr ⟨wd_103, List.forall_mem_cons.mpr ⟨wd_105, List.forall_mem_cons.mpr ⟨wd_107, List.forall_mem_cons.mpr ⟨wd_109, List.forall_mem_cons.mpr ⟨wd_111, List.forall_mem_cons.mpr ⟨wd_113, List.forall_mem_nil _⟩⟩⟩⟩⟩⟩⟩⟩⟩), tyX4_ok, nmX4⟩
theorem fwX5 : FW RX5 TX5 8 tyX5 := ⟨(show ∀ w ∈ u_ws RX5 TX5 8, w ∈ bigW from List.forall_mem_cons.mpr ⟨wd_211, List.forall_mem_cons.mpr ⟨wd_213, List.forall_mem_cons.mpr ⟨wd_215, List.forall_mem_cons.mpr ⟨wd_217, List.forall_mem_cons.mpr ⟨wd_219, List.forall_mem_cons.mpr ⟨wd_221, List.forall_mem_cons.mpr ⟨wd_223, List.forall_mem_cons.mpr ⟨wd_225, List.forall_mem_nil _⟩⟩⟩⟩⟩⟩⟩⟩), tyX5_ok, nmX5⟩
theorem fwX6 : FW RX6 TX6 18 tyX6 := ⟨(show ∀ w ∈ u_ws RX6 TX6 18, w ∈ bigW from List.forall_mem_cons.mpr ⟨wd_905, List.forall_mem_cons.mpr ⟨wd_907, List.forall_mem_cons.mpr ⟨wd_909, List.forall_mem_cons.mpr ⟨wd_911, List.forall_mem_cons.mpr ⟨wd_913, List.forall_mem_cons.mpr ⟨wd_915, List.forall_mem_cons.mpr ⟨wd_917, List.forall_mem_cons.mpr ⟨wd_919, List.forall_mem_cons.mpr ⟨wd_921, List.forall_mem_cons.mpr ⟨wd_923, List.forall_mem_cons.mpr ⟨wd_925, List.forall_mem_cons.mpr ⟨wd_927, List.forall_mem_cons.mpr ⟨wd_929, List.forall_mem_cons.mpr ⟨wd_931, List.forall_mem_cons.mpr ⟨wd_933, List.forall_mem_cons.mpr ⟨wd_935, List.forall_mem_cons.mpr ⟨wd_937, List.forall_mem_cons.mpr ⟨wd_939, List.forall_mem_nil _⟩⟩⟩⟩⟩⟩⟩⟩⟩⟩⟩⟩⟩⟩⟩⟩⟩⟩), tyX6_ok, nmX6⟩
theorem mwX5_at : MW yX5_at cX5_at 2 (some .int) 2 := ⟨wd_250, wd_1, by decide, by decide, by decide +kernel⟩
theorem mwX5_bitOf : MW yX5_bitOf cX5_bitOf 2 (some .int) 2 := ⟨wd_434, wd_1, by decide, by decide, by decide +kernel⟩
theorem mwX5_isWithin : MW yX5_isWithin cX5_isWithin 3 (some .boolean) 3 := ⟨wd_344, wd_1, by decide, by decide, by decide +kernel⟩
end
section
def fX5_at (n1 : Nat) (f1 : Nat → Int32) (x2 : Int32) : Int32 := if x2 < 0 then (0) else (if (nI n1) ≤ x2 then (0) else (f1 x2.toNatClampNeg))
def fX5_bitOf (x1 : Int32) (x2 : Int32) : Int32 := if x2 < 0 then (0) else (if 24 ≤ x2 then (0) else ((x1 >>> (x2 &&& 31)) &&& 1))
def fX5_isWithin (x1 : Int32) (x2 : Int32) (x3 : Int32) : Int32 := if x1 < x2 then (0) else (if x3 < x1 then (0) else (1))
end
section
theorem dX5_at_0 : decode cX5_at 0 = .ok (.iload_n 1, 1) := by decide +kernel
theorem dX5_at_1 : decode cX5_at 1 = .ok (.ifCond .lt 15, 3) := by decide +kernel
theorem dX5_at_4 : decode cX5_at 4 = .ok (.iload_n 1, 1) := by decide +kernel
theorem dX5_at_5 : decode cX5_at 5 = .ok (.aload_n 0, 1) := by decide +kernel
theorem dX5_at_6 : decode cX5_at 6 = .ok (.arraylength, 1) := by decide +kernel
theorem dX5_at_7 : decode cX5_at 7 = .ok (.if_icmp .ge 9, 3) := by decide +kernel
theorem dX5_at_10 : decode cX5_at 10 = .ok (.aload_n 0, 1) := by decide +kernel
theorem dX5_at_11 : decode cX5_at 11 = .ok (.iload_n 1, 1) := by decide +kernel
theorem dX5_at_12 : decode cX5_at 12 = .ok (.iaload, 1) := by decide +kernel
theorem dX5_at_13 : decode cX5_at 13 = .ok (.goto 4, 3) := by decide +kernel
theorem dX5_at_16 : decode cX5_at 16 = .ok (.iconst 0, 1) := by decide +kernel
theorem dX5_at_17 : decode cX5_at 17 = .ok (.ireturn, 1) := by decide +kernel
set_option maxHeartbeats 4000000 in
set_option maxRecDepth 100000 in
theorem c_X5_at (l : Launch) (G : GT) (a1 : Nat) (n1 : Nat) (f1 : Nat → Int32) (x2 : Int32) : Met l yX5_at (Cond.code yX5_at cX5_at 2 (some .int) :: bigW) ({ frames := 0, cells := 0, slots := 0, locals := 0 }) (BP G [.ref a1, .int x2] (fun U H => RD a1 n1 f1 U H)) (QP (.int (fX5_at n1 f1 x2))) 0 0 (fun _ => False) := by
  refine met_of (by decide) (Nat.le_of_ble_eq_true rfl) ?_
  intro p e s m below meth c ls hC hKN hB0 hl
  have hR1 := hB0
  have hl : lv_has ls 2 [(0, .ref a1), (1, .int x2)] := hl
  have hg : fX5_at n1 f1 x2 = fX5_at n1 f1 x2 := rfl
  refine lv_iload_n hC.1 hC.2.1 dX5_at_0 rfl (lv_at hl 1 rfl) ?_
  refine lv_if_lt (tgt := 16) hC.1 hC.2.1 dX5_at_1 (by decide) (fun k1 => ?_) (fun k1 => ?_)
  · refine lv_iconst (v := 0) hC.1 hC.2.1 dX5_at_16 (by decide) ?_
    have e_1 : fX5_at n1 f1 x2 = 0 := by exact Eq.trans (if_pos k1) rfl
    have hg : fX5_at n1 f1 x2 = 0 := hg.trans (congrArg (fun z => z) e_1)
    exact eP_i hC (congrArg Value.int hg) dX5_at_17
  · refine lv_iload_n hC.1 hC.2.1 dX5_at_4 rfl (lv_at hl 1 rfl) ?_
    refine lv_aload_n hC.1 hC.2.1 dX5_at_5 rfl (lv_at hl 0 rfl) ?_
    refine rd_len hC hR1 dX5_at_6 ?_
    refine lv_icmp_ge (tgt := 16) hC.1 hC.2.1 dX5_at_7 (by decide) (fun k7 => ?_) (fun k7 => ?_)
    · refine lv_iconst (v := 0) hC.1 hC.2.1 dX5_at_16 (by decide) ?_
      have e_2 : fX5_at n1 f1 x2 = 0 := by exact Eq.trans (if_neg k1) (Eq.trans (if_pos k7) rfl)
      have hg : fX5_at n1 f1 x2 = 0 := hg.trans (congrArg (fun z => z) e_2)
      exact eP_i hC (congrArg Value.int hg) dX5_at_17
    · refine lv_aload_n hC.1 hC.2.1 dX5_at_10 rfl (lv_at hl 0 rfl) ?_
      refine lv_iload_n hC.1 hC.2.1 dX5_at_11 rfl (lv_at hl 1 rfl) ?_
      refine rd_ld hC hR1 (vp_path k1 k7) dX5_at_12 ?_
      refine lv_goto (tgt := 17) hC.1 hC.2.1 dX5_at_13 (by decide) ?_
      have e_3 : fX5_at n1 f1 x2 = f1 x2.toNatClampNeg := by exact Eq.trans (if_neg k1) (Eq.trans (if_neg k7) rfl)
      have hg : fX5_at n1 f1 x2 = f1 x2.toNatClampNeg := hg.trans (congrArg (fun z => z) e_3)
      exact eP_i hC (congrArg Value.int hg) dX5_at_17

theorem dX5_bitOf_0 : decode cX5_bitOf 0 = .ok (.iload_n 1, 1) := by decide +kernel
theorem dX5_bitOf_1 : decode cX5_bitOf 1 = .ok (.ifCond .lt 17, 3) := by decide +kernel
theorem dX5_bitOf_4 : decode cX5_bitOf 4 = .ok (.iload_n 1, 1) := by decide +kernel
theorem dX5_bitOf_5 : decode cX5_bitOf 5 = .ok (.bipush 24, 2) := by decide +kernel
theorem dX5_bitOf_7 : decode cX5_bitOf 7 = .ok (.if_icmp .ge 11, 3) := by decide +kernel
theorem dX5_bitOf_10 : decode cX5_bitOf 10 = .ok (.iload_n 0, 1) := by decide +kernel
theorem dX5_bitOf_11 : decode cX5_bitOf 11 = .ok (.iload_n 1, 1) := by decide +kernel
theorem dX5_bitOf_12 : decode cX5_bitOf 12 = .ok (.ishr, 1) := by decide +kernel
theorem dX5_bitOf_13 : decode cX5_bitOf 13 = .ok (.iconst 1, 1) := by decide +kernel
theorem dX5_bitOf_14 : decode cX5_bitOf 14 = .ok (.iand, 1) := by decide +kernel
theorem dX5_bitOf_15 : decode cX5_bitOf 15 = .ok (.goto 4, 3) := by decide +kernel
theorem dX5_bitOf_18 : decode cX5_bitOf 18 = .ok (.iconst 0, 1) := by decide +kernel
theorem dX5_bitOf_19 : decode cX5_bitOf 19 = .ok (.ireturn, 1) := by decide +kernel
set_option maxHeartbeats 4000000 in
set_option maxRecDepth 100000 in
theorem c_X5_bitOf (l : Launch) (G : GT) (x1 : Int32) (x2 : Int32) : Met l yX5_bitOf (Cond.code yX5_bitOf cX5_bitOf 2 (some .int) :: bigW) ({ frames := 0, cells := 0, slots := 0, locals := 0 }) (BP G [.int x1, .int x2] (fun U H => True)) (QP (.int (fX5_bitOf x1 x2))) 0 0 (fun _ => False) := by
  refine met_of (by decide) (Nat.le_of_ble_eq_true rfl) ?_
  intro p e s m below meth c ls hC hKN hB0 hl
  have hl : lv_has ls 2 [(0, .int x1), (1, .int x2)] := hl
  have hg : fX5_bitOf x1 x2 = fX5_bitOf x1 x2 := rfl
  refine lv_iload_n hC.1 hC.2.1 dX5_bitOf_0 rfl (lv_at hl 1 rfl) ?_
  refine lv_if_lt (tgt := 18) hC.1 hC.2.1 dX5_bitOf_1 (by decide) (fun k1 => ?_) (fun k1 => ?_)
  · refine lv_iconst (v := 0) hC.1 hC.2.1 dX5_bitOf_18 (by decide) ?_
    have e_1 : fX5_bitOf x1 x2 = 0 := by exact Eq.trans (if_pos k1) rfl
    have hg : fX5_bitOf x1 x2 = 0 := hg.trans (congrArg (fun z => z) e_1)
    exact eP_i hC (congrArg Value.int hg) dX5_bitOf_19
  · refine lv_iload_n hC.1 hC.2.1 dX5_bitOf_4 rfl (lv_at hl 1 rfl) ?_
    refine lv_bipush (v := 24) hC.1 hC.2.1 dX5_bitOf_5 (by decide +kernel) ?_
    refine lv_icmp_ge (tgt := 18) hC.1 hC.2.1 dX5_bitOf_7 (by decide) (fun k7 => ?_) (fun k7 => ?_)
    · refine lv_iconst (v := 0) hC.1 hC.2.1 dX5_bitOf_18 (by decide) ?_
      have e_2 : fX5_bitOf x1 x2 = 0 := by exact Eq.trans (if_neg k1) (Eq.trans (if_pos k7) rfl)
      have hg : fX5_bitOf x1 x2 = 0 := hg.trans (congrArg (fun z => z) e_2)
      exact eP_i hC (congrArg Value.int hg) dX5_bitOf_19
    · refine lv_iload_n hC.1 hC.2.1 dX5_bitOf_10 rfl (lv_at hl 0 rfl) ?_
      refine lv_iload_n hC.1 hC.2.1 dX5_bitOf_11 rfl (lv_at hl 1 rfl) ?_
      refine lv_ishr hC.1 hC.2.1 dX5_bitOf_12 ?_
      refine lv_iconst (v := 1) hC.1 hC.2.1 dX5_bitOf_13 (by decide) ?_
      refine lv_iand hC.1 hC.2.1 dX5_bitOf_14 ?_
      refine lv_goto (tgt := 19) hC.1 hC.2.1 dX5_bitOf_15 (by decide) ?_
      have e_3 : fX5_bitOf x1 x2 = (x1 >>> (x2 &&& 31)) &&& 1 := by exact Eq.trans (if_neg k1) (Eq.trans (if_neg k7) rfl)
      have hg : fX5_bitOf x1 x2 = (x1 >>> (x2 &&& 31)) &&& 1 := hg.trans (congrArg (fun z => z) e_3)
      exact eP_i hC (congrArg Value.int hg) dX5_bitOf_19

theorem dX5_isWithin_0 : decode cX5_isWithin 0 = .ok (.iload_n 0, 1) := by decide +kernel
theorem dX5_isWithin_1 : decode cX5_isWithin 1 = .ok (.iload_n 1, 1) := by decide +kernel
theorem dX5_isWithin_2 : decode cX5_isWithin 2 = .ok (.if_icmp .lt 12, 3) := by decide +kernel
theorem dX5_isWithin_5 : decode cX5_isWithin 5 = .ok (.iload_n 0, 1) := by decide +kernel
theorem dX5_isWithin_6 : decode cX5_isWithin 6 = .ok (.iload_n 2, 1) := by decide +kernel
theorem dX5_isWithin_7 : decode cX5_isWithin 7 = .ok (.if_icmp .gt 7, 3) := by decide +kernel
theorem dX5_isWithin_10 : decode cX5_isWithin 10 = .ok (.iconst 1, 1) := by decide +kernel
theorem dX5_isWithin_11 : decode cX5_isWithin 11 = .ok (.goto 4, 3) := by decide +kernel
theorem dX5_isWithin_14 : decode cX5_isWithin 14 = .ok (.iconst 0, 1) := by decide +kernel
theorem dX5_isWithin_15 : decode cX5_isWithin 15 = .ok (.ireturn, 1) := by decide +kernel
set_option maxHeartbeats 4000000 in
set_option maxRecDepth 100000 in
theorem c_X5_isWithin (l : Launch) (G : GT) (x1 : Int32) (x2 : Int32) (x3 : Int32) : Met l yX5_isWithin (Cond.code yX5_isWithin cX5_isWithin 3 (some .boolean) :: bigW) ({ frames := 0, cells := 0, slots := 0, locals := 0 }) (BP G [.int x1, .int x2, .int x3] (fun U H => True)) (QP (.int (fX5_isWithin x1 x2 x3))) 0 0 (fun _ => False) := by
  refine met_of (by decide) (Nat.le_of_ble_eq_true rfl) ?_
  intro p e s m below meth c ls hC hKN hB0 hl
  have hl : lv_has ls 3 [(0, .int x1), (1, .int x2), (2, .int x3)] := hl
  have hg : fX5_isWithin x1 x2 x3 = fX5_isWithin x1 x2 x3 := rfl
  refine lv_iload_n hC.1 hC.2.1 dX5_isWithin_0 rfl (lv_at hl 0 rfl) ?_
  refine lv_iload_n hC.1 hC.2.1 dX5_isWithin_1 rfl (lv_at hl 1 rfl) ?_
  refine lv_icmp_lt (tgt := 14) hC.1 hC.2.1 dX5_isWithin_2 (by decide) (fun k2 => ?_) (fun k2 => ?_)
  · refine lv_iconst (v := 0) hC.1 hC.2.1 dX5_isWithin_14 (by decide) ?_
    have e_1 : fX5_isWithin x1 x2 x3 = 0 := by exact Eq.trans (if_pos k2) rfl
    have hg : fX5_isWithin x1 x2 x3 = 0 := hg.trans (congrArg (fun z => z) e_1)
    exact eP_z hC (congrArg Value.int hg) rfl dX5_isWithin_15
  · refine lv_iload_n hC.1 hC.2.1 dX5_isWithin_5 rfl (lv_at hl 0 rfl) ?_
    refine lv_iload_n hC.1 hC.2.1 dX5_isWithin_6 rfl (lv_at hl 2 rfl) ?_
    refine lv_icmp_gt (tgt := 14) hC.1 hC.2.1 dX5_isWithin_7 (by decide) (fun k7 => ?_) (fun k7 => ?_)
    · refine lv_iconst (v := 0) hC.1 hC.2.1 dX5_isWithin_14 (by decide) ?_
      have e_2 : fX5_isWithin x1 x2 x3 = 0 := by exact Eq.trans (if_neg k2) (Eq.trans (if_pos k7) rfl)
      have hg : fX5_isWithin x1 x2 x3 = 0 := hg.trans (congrArg (fun z => z) e_2)
      exact eP_z hC (congrArg Value.int hg) rfl dX5_isWithin_15
    · refine lv_iconst (v := 1) hC.1 hC.2.1 dX5_isWithin_10 (by decide) ?_
      refine lv_goto (tgt := 15) hC.1 hC.2.1 dX5_isWithin_11 (by decide) ?_
      have e_3 : fX5_isWithin x1 x2 x3 = 1 := by exact Eq.trans (if_neg k2) (Eq.trans (if_neg k7) rfl)
      have hg : fX5_isWithin x1 x2 x3 = 1 := hg.trans (congrArg (fun z => z) e_3)
      exact eP_z hC (congrArg Value.int hg) rfl dX5_isWithin_15
end
