section
-- ===== PART A: goes FIRST, ahead of the names: the tables' words, and 'selects' of the private methods out of them =====
/-- a private method of a class that the tables say can be made, by its rows of tables_1 -/
def lw_okq (q : MethodName × Nat) : Prop := (q.1.cls ≠ "java/lang/invoke/MethodHandle" ∧ q.1.cls ≠ "java/lang/invoke/VarHandle") ∧ Cond.instantiable q.1.cls q.2 ∈ tables_1 ∧ Cond.privateMethod q.1 ∈ tables_1 ∧ Cond.instanceMethod q.1 ∈ tables_1
theorem lw_p0 : lw_okq (⟨"HeadDots$Reader", "takeBetween", "()Z"⟩, 10) := ⟨⟨by decide +kernel, by decide +kernel⟩, List.mem_of_getElem? (i := 161) (by decide +kernel), List.mem_of_getElem? (i := 256) (by decide +kernel), List.mem_of_getElem? (i := 257) (by decide +kernel)⟩
theorem lw_p1 : lw_okq (⟨"HeadDots$Reader", "takeFirst", "(I)Z"⟩, 10) := ⟨⟨by decide +kernel, by decide +kernel⟩, List.mem_of_getElem? (i := 161) (by decide +kernel), List.mem_of_getElem? (i := 264) (by decide +kernel), List.mem_of_getElem? (i := 265) (by decide +kernel)⟩
theorem lw_p2 : lw_okq (⟨"HeadDots$Reader", "beginKind", "(ILjava/lang/String;I)Z"⟩, 10) := ⟨⟨by decide +kernel, by decide +kernel⟩, List.mem_of_getElem? (i := 161) (by decide +kernel), List.mem_of_getElem? (i := 269) (by decide +kernel), List.mem_of_getElem? (i := 270) (by decide +kernel)⟩
theorem lw_p3 : lw_okq (⟨"HeadDots$Reader", "beginWord", "(Ljava/lang/String;I)Z"⟩, 10) := ⟨⟨by decide +kernel, by decide +kernel⟩, List.mem_of_getElem? (i := 161) (by decide +kernel), List.mem_of_getElem? (i := 273) (by decide +kernel), List.mem_of_getElem? (i := 274) (by decide +kernel)⟩
theorem lw_p4 : lw_okq (⟨"HeadDots$Reader", "takeOfWord", "(I)Z"⟩, 10) := ⟨⟨by decide +kernel, by decide +kernel⟩, List.mem_of_getElem? (i := 161) (by decide +kernel), List.mem_of_getElem? (i := 280) (by decide +kernel), List.mem_of_getElem? (i := 281) (by decide +kernel)⟩
theorem lw_p5 : lw_okq (⟨"HeadDots$Reader", "takeOfDots", "(I)Z"⟩, 10) := ⟨⟨by decide +kernel, by decide +kernel⟩, List.mem_of_getElem? (i := 161) (by decide +kernel), List.mem_of_getElem? (i := 332) (by decide +kernel), List.mem_of_getElem? (i := 333) (by decide +kernel)⟩
theorem lw_p6 : lw_okq (⟨"HeadDots$Reader", "takeStar", "(I)Z"⟩, 10) := ⟨⟨by decide +kernel, by decide +kernel⟩, List.mem_of_getElem? (i := 161) (by decide +kernel), List.mem_of_getElem? (i := 336) (by decide +kernel), List.mem_of_getElem? (i := 337) (by decide +kernel)⟩
theorem lw_p7 : lw_okq (⟨"HeadDots$Reader", "takeFirstOfPaper", "(I)Z"⟩, 10) := ⟨⟨by decide +kernel, by decide +kernel⟩, List.mem_of_getElem? (i := 161) (by decide +kernel), List.mem_of_getElem? (i := 346) (by decide +kernel), List.mem_of_getElem? (i := 347) (by decide +kernel)⟩
theorem lw_p8 : lw_okq (⟨"HeadDots$Reader", "beginPaper", "(ILjava/lang/String;)Z"⟩, 10) := ⟨⟨by decide +kernel, by decide +kernel⟩, List.mem_of_getElem? (i := 161) (by decide +kernel), List.mem_of_getElem? (i := 351) (by decide +kernel), List.mem_of_getElem? (i := 352) (by decide +kernel)⟩
theorem lw_p9 : lw_okq (⟨"HeadDots$Reader", "takeDigit", "(I)Z"⟩, 10) := ⟨⟨by decide +kernel, by decide +kernel⟩, List.mem_of_getElem? (i := 161) (by decide +kernel), List.mem_of_getElem? (i := 357) (by decide +kernel), List.mem_of_getElem? (i := 358) (by decide +kernel)⟩
theorem lw_p10 : lw_okq (⟨"HeadDots", "counted", "(I)I"⟩, 8) := ⟨⟨by decide +kernel, by decide +kernel⟩, List.mem_of_getElem? (i := 24) (by decide +kernel), List.mem_of_getElem? (i := 401) (by decide +kernel), List.mem_of_getElem? (i := 402) (by decide +kernel)⟩
theorem lw_p11 : lw_okq (⟨"HeadDots", "mixedDots", "(J)J"⟩, 8) := ⟨⟨by decide +kernel, by decide +kernel⟩, List.mem_of_getElem? (i := 24) (by decide +kernel), List.mem_of_getElem? (i := 425) (by decide +kernel), List.mem_of_getElem? (i := 426) (by decide +kernel)⟩
theorem lw_p12 : lw_okq (⟨"HeadDots$State", "pulseAlone", "(II)I"⟩, 8) := ⟨⟨by decide +kernel, by decide +kernel⟩, List.mem_of_getElem? (i := 32) (by decide +kernel), List.mem_of_getElem? (i := 436) (by decide +kernel), List.mem_of_getElem? (i := 437) (by decide +kernel)⟩
theorem lw_p13 : lw_okq (⟨"HeadDots$State", "pulseIn", "(III)I"⟩, 8) := ⟨⟨by decide +kernel, by decide +kernel⟩, List.mem_of_getElem? (i := 32) (by decide +kernel), List.mem_of_getElem? (i := 440) (by decide +kernel), List.mem_of_getElem? (i := 441) (by decide +kernel)⟩
theorem lw_p14 : lw_okq (⟨"HeadDots$State", "waitFor", "(II)I"⟩, 8) := ⟨⟨by decide +kernel, by decide +kernel⟩, List.mem_of_getElem? (i := 32) (by decide +kernel), List.mem_of_getElem? (i := 446) (by decide +kernel), List.mem_of_getElem? (i := 447) (by decide +kernel)⟩
theorem lw_p15 : lw_okq (⟨"HeadDots$State", "timeDownTo", "(II)I"⟩, 8) := ⟨⟨by decide +kernel, by decide +kernel⟩, List.mem_of_getElem? (i := 32) (by decide +kernel), List.mem_of_getElem? (i := 450) (by decide +kernel), List.mem_of_getElem? (i := 451) (by decide +kernel)⟩
def lw_privs_1 : List (MethodName × Nat) := [(⟨"HeadDots$Reader", "takeBetween", "()Z"⟩, 10), (⟨"HeadDots$Reader", "takeFirst", "(I)Z"⟩, 10), (⟨"HeadDots$Reader", "beginKind", "(ILjava/lang/String;I)Z"⟩, 10), (⟨"HeadDots$Reader", "beginWord", "(Ljava/lang/String;I)Z"⟩, 10), (⟨"HeadDots$Reader", "takeOfWord", "(I)Z"⟩, 10), (⟨"HeadDots$Reader", "takeOfDots", "(I)Z"⟩, 10), (⟨"HeadDots$Reader", "takeStar", "(I)Z"⟩, 10), (⟨"HeadDots$Reader", "takeFirstOfPaper", "(I)Z"⟩, 10), (⟨"HeadDots$Reader", "beginPaper", "(ILjava/lang/String;)Z"⟩, 10), (⟨"HeadDots$Reader", "takeDigit", "(I)Z"⟩, 10), (⟨"HeadDots", "counted", "(I)I"⟩, 8), (⟨"HeadDots", "mixedDots", "(J)J"⟩, 8), (⟨"HeadDots$State", "pulseAlone", "(II)I"⟩, 8), (⟨"HeadDots$State", "pulseIn", "(III)I"⟩, 8), (⟨"HeadDots$State", "waitFor", "(II)I"⟩, 8), (⟨"HeadDots$State", "timeDownTo", "(II)I"⟩, 8)]
theorem lw_r1 : ∀ q ∈ lw_privs_1, lw_okq q := List.forall_mem_cons.mpr ⟨lw_p0, List.forall_mem_cons.mpr ⟨lw_p1, List.forall_mem_cons.mpr ⟨lw_p2, List.forall_mem_cons.mpr ⟨lw_p3, List.forall_mem_cons.mpr ⟨lw_p4, List.forall_mem_cons.mpr ⟨lw_p5, List.forall_mem_cons.mpr ⟨lw_p6, List.forall_mem_cons.mpr ⟨lw_p7, List.forall_mem_cons.mpr ⟨lw_p8, List.forall_mem_cons.mpr ⟨lw_p9, List.forall_mem_cons.mpr ⟨lw_p10, List.forall_mem_cons.mpr ⟨lw_p11, List.forall_mem_cons.mpr ⟨lw_p12, List.forall_mem_cons.mpr ⟨lw_p13, List.forall_mem_cons.mpr ⟨lw_p14, List.forall_mem_cons.mpr ⟨lw_p15, fun _ h => absurd h List.not_mem_nil⟩⟩⟩⟩⟩⟩⟩⟩⟩⟩⟩⟩⟩⟩⟩⟩
theorem lw_p16 : lw_okq (⟨"HeadDots", "mixedStrip", "(J)J"⟩, 8) := ⟨⟨by decide +kernel, by decide +kernel⟩, List.mem_of_getElem? (i := 24) (by decide +kernel), List.mem_of_getElem? (i := 458) (by decide +kernel), List.mem_of_getElem? (i := 459) (by decide +kernel)⟩
theorem lw_p17 : lw_okq (⟨"HeadDots", "mixedTrials", "(J)J"⟩, 8) := ⟨⟨by decide +kernel, by decide +kernel⟩, List.mem_of_getElem? (i := 24) (by decide +kernel), List.mem_of_getElem? (i := 478) (by decide +kernel), List.mem_of_getElem? (i := 479) (by decide +kernel)⟩
theorem lw_p18 : lw_okq (⟨"HeadDots", "tryLine", "(II)V"⟩, 8) := ⟨⟨by decide +kernel, by decide +kernel⟩, List.mem_of_getElem? (i := 24) (by decide +kernel), List.mem_of_getElem? (i := 484) (by decide +kernel), List.mem_of_getElem? (i := 485) (by decide +kernel)⟩
theorem lw_p19 : lw_okq (⟨"HeadDots$State", "dotsAtOnce", "()I"⟩, 8) := ⟨⟨by decide +kernel, by decide +kernel⟩, List.mem_of_getElem? (i := 32) (by decide +kernel), List.mem_of_getElem? (i := 499) (by decide +kernel), List.mem_of_getElem? (i := 500) (by decide +kernel)⟩
theorem lw_p20 : lw_okq (⟨"HeadDots$State", "preparePulses", "(I)V"⟩, 8) := ⟨⟨by decide +kernel, by decide +kernel⟩, List.mem_of_getElem? (i := 32) (by decide +kernel), List.mem_of_getElem? (i := 509) (by decide +kernel), List.mem_of_getElem? (i := 510) (by decide +kernel)⟩
theorem lw_p21 : lw_okq (⟨"HeadDots$State", "dotsOfPart", "(IIII)I"⟩, 8) := ⟨⟨by decide +kernel, by decide +kernel⟩, List.mem_of_getElem? (i := 32) (by decide +kernel), List.mem_of_getElem? (i := 513) (by decide +kernel), List.mem_of_getElem? (i := 514) (by decide +kernel)⟩
theorem lw_p22 : lw_okq (⟨"HeadDots$State", "waitOfPart", "(I)I"⟩, 8) := ⟨⟨by decide +kernel, by decide +kernel⟩, List.mem_of_getElem? (i := 32) (by decide +kernel), List.mem_of_getElem? (i := 517) (by decide +kernel), List.mem_of_getElem? (i := 518) (by decide +kernel)⟩
theorem lw_p23 : lw_okq (⟨"HeadDots$State", "cooledFor", "(II)I"⟩, 8) := ⟨⟨by decide +kernel, by decide +kernel⟩, List.mem_of_getElem? (i := 32) (by decide +kernel), List.mem_of_getElem? (i := 525) (by decide +kernel), List.mem_of_getElem? (i := 526) (by decide +kernel)⟩
theorem lw_p24 : lw_okq (⟨"HeadDots$State", "heatPart", "(I)I"⟩, 8) := ⟨⟨by decide +kernel, by decide +kernel⟩, List.mem_of_getElem? (i := 32) (by decide +kernel), List.mem_of_getElem? (i := 529) (by decide +kernel), List.mem_of_getElem? (i := 530) (by decide +kernel)⟩
theorem lw_p25 : lw_okq (⟨"HeadDots$State", "isDark", "(I)Z"⟩, 8) := ⟨⟨by decide +kernel, by decide +kernel⟩, List.mem_of_getElem? (i := 32) (by decide +kernel), List.mem_of_getElem? (i := 533) (by decide +kernel), List.mem_of_getElem? (i := 534) (by decide +kernel)⟩
theorem lw_p26 : lw_okq (⟨"HeadDots$State", "longestPulse", "(I)I"⟩, 8) := ⟨⟨by decide +kernel, by decide +kernel⟩, List.mem_of_getElem? (i := 32) (by decide +kernel), List.mem_of_getElem? (i := 539) (by decide +kernel), List.mem_of_getElem? (i := 540) (by decide +kernel)⟩
theorem lw_p27 : lw_okq (⟨"HeadDots", "tried", "(I)I"⟩, 8) := ⟨⟨by decide +kernel, by decide +kernel⟩, List.mem_of_getElem? (i := 24) (by decide +kernel), List.mem_of_getElem? (i := 561) (by decide +kernel), List.mem_of_getElem? (i := 562) (by decide +kernel)⟩
theorem lw_p28 : lw_okq (⟨"HeadDots", "fasterWay", "(I)I"⟩, 8) := ⟨⟨by decide +kernel, by decide +kernel⟩, List.mem_of_getElem? (i := 24) (by decide +kernel), List.mem_of_getElem? (i := 566) (by decide +kernel), List.mem_of_getElem? (i := 567) (by decide +kernel)⟩
theorem lw_p29 : lw_okq (⟨"HeadDots", "mixedBuffer", "(J)J"⟩, 8) := ⟨⟨by decide +kernel, by decide +kernel⟩, List.mem_of_getElem? (i := 24) (by decide +kernel), List.mem_of_getElem? (i := 593) (by decide +kernel), List.mem_of_getElem? (i := 594) (by decide +kernel)⟩
theorem lw_p30 : lw_okq (⟨"java/lang/Throwable", "fillInStackTrace", "(I)Ljava/lang/Throwable;"⟩, 6) := ⟨⟨by decide +kernel, by decide +kernel⟩, List.mem_of_getElem? (i := 648) (by decide +kernel), List.mem_of_getElem? (i := 646) (by decide +kernel), List.mem_of_getElem? (i := 647) (by decide +kernel)⟩
theorem lw_p31 : lw_okq (⟨"HeadDots", "saveState", "()V"⟩, 8) := ⟨⟨by decide +kernel, by decide +kernel⟩, List.mem_of_getElem? (i := 24) (by decide +kernel), List.mem_of_getElem? (i := 677) (by decide +kernel), List.mem_of_getElem? (i := 678) (by decide +kernel)⟩
def lw_privs_2 : List (MethodName × Nat) := [(⟨"HeadDots", "mixedStrip", "(J)J"⟩, 8), (⟨"HeadDots", "mixedTrials", "(J)J"⟩, 8), (⟨"HeadDots", "tryLine", "(II)V"⟩, 8), (⟨"HeadDots$State", "dotsAtOnce", "()I"⟩, 8), (⟨"HeadDots$State", "preparePulses", "(I)V"⟩, 8), (⟨"HeadDots$State", "dotsOfPart", "(IIII)I"⟩, 8), (⟨"HeadDots$State", "waitOfPart", "(I)I"⟩, 8), (⟨"HeadDots$State", "cooledFor", "(II)I"⟩, 8), (⟨"HeadDots$State", "heatPart", "(I)I"⟩, 8), (⟨"HeadDots$State", "isDark", "(I)Z"⟩, 8), (⟨"HeadDots$State", "longestPulse", "(I)I"⟩, 8), (⟨"HeadDots", "tried", "(I)I"⟩, 8), (⟨"HeadDots", "fasterWay", "(I)I"⟩, 8), (⟨"HeadDots", "mixedBuffer", "(J)J"⟩, 8), (⟨"java/lang/Throwable", "fillInStackTrace", "(I)Ljava/lang/Throwable;"⟩, 6), (⟨"HeadDots", "saveState", "()V"⟩, 8)]
theorem lw_r2 : ∀ q ∈ lw_privs_2, lw_okq q := List.forall_mem_cons.mpr ⟨lw_p16, List.forall_mem_cons.mpr ⟨lw_p17, List.forall_mem_cons.mpr ⟨lw_p18, List.forall_mem_cons.mpr ⟨lw_p19, List.forall_mem_cons.mpr ⟨lw_p20, List.forall_mem_cons.mpr ⟨lw_p21, List.forall_mem_cons.mpr ⟨lw_p22, List.forall_mem_cons.mpr ⟨lw_p23, List.forall_mem_cons.mpr ⟨lw_p24, List.forall_mem_cons.mpr ⟨lw_p25, List.forall_mem_cons.mpr ⟨lw_p26, List.forall_mem_cons.mpr ⟨lw_p27, List.forall_mem_cons.mpr ⟨lw_p28, List.forall_mem_cons.mpr ⟨lw_p29, List.forall_mem_cons.mpr ⟨lw_p30, List.forall_mem_cons.mpr ⟨lw_p31, fun _ h => absurd h List.not_mem_nil⟩⟩⟩⟩⟩⟩⟩⟩⟩⟩⟩⟩⟩⟩⟩⟩
theorem lw_p32 : lw_okq (⟨"HeadDots", "dropOldest", "()V"⟩, 8) := ⟨⟨by decide +kernel, by decide +kernel⟩, List.mem_of_getElem? (i := 24) (by decide +kernel), List.mem_of_getElem? (i := 681) (by decide +kernel), List.mem_of_getElem? (i := 682) (by decide +kernel)⟩
theorem lw_p33 : lw_okq (⟨"HeadDots", "savedAt", "(I)LHeadDots$State;"⟩, 8) := ⟨⟨by decide +kernel, by decide +kernel⟩, List.mem_of_getElem? (i := 24) (by decide +kernel), List.mem_of_getElem? (i := 685) (by decide +kernel), List.mem_of_getElem? (i := 686) (by decide +kernel)⟩
theorem lw_p34 : lw_okq (⟨"HeadDots", "printPartOfText", "()V"⟩, 8) := ⟨⟨by decide +kernel, by decide +kernel⟩, List.mem_of_getElem? (i := 24) (by decide +kernel), List.mem_of_getElem? (i := 795) (by decide +kernel), List.mem_of_getElem? (i := 796) (by decide +kernel)⟩
theorem lw_p35 : lw_okq (⟨"HeadDotsModel", "fails", "(I)I"⟩, 18) := ⟨⟨by decide +kernel, by decide +kernel⟩, List.mem_of_getElem? (i := 882) (by decide +kernel), List.mem_of_getElem? (i := 951) (by decide +kernel), List.mem_of_getElem? (i := 952) (by decide +kernel)⟩
theorem lw_p36 : lw_okq (⟨"HeadDotsModel", "save", "()V"⟩, 18) := ⟨⟨by decide +kernel, by decide +kernel⟩, List.mem_of_getElem? (i := 882) (by decide +kernel), List.mem_of_getElem? (i := 963) (by decide +kernel), List.mem_of_getElem? (i := 964) (by decide +kernel)⟩
theorem lw_p37 : lw_okq (⟨"HeadDotsModel", "printLine", "(I)I"⟩, 18) := ⟨⟨by decide +kernel, by decide +kernel⟩, List.mem_of_getElem? (i := 882) (by decide +kernel), List.mem_of_getElem? (i := 978) (by decide +kernel), List.mem_of_getElem? (i := 979) (by decide +kernel)⟩
theorem lw_p38 : lw_okq (⟨"HeadDotsModel", "partsOf", "(I)I"⟩, 18) := ⟨⟨by decide +kernel, by decide +kernel⟩, List.mem_of_getElem? (i := 882) (by decide +kernel), List.mem_of_getElem? (i := 982) (by decide +kernel), List.mem_of_getElem? (i := 983) (by decide +kernel)⟩
theorem lw_p39 : lw_okq (⟨"HeadDotsModel", "atOnce", "()I"⟩, 18) := ⟨⟨by decide +kernel, by decide +kernel⟩, List.mem_of_getElem? (i := 882) (by decide +kernel), List.mem_of_getElem? (i := 989) (by decide +kernel), List.mem_of_getElem? (i := 990) (by decide +kernel)⟩
theorem lw_p40 : lw_okq (⟨"HeadDotsModel", "dotsOfPart", "(II)I"⟩, 18) := ⟨⟨by decide +kernel, by decide +kernel⟩, List.mem_of_getElem? (i := 882) (by decide +kernel), List.mem_of_getElem? (i := 993) (by decide +kernel), List.mem_of_getElem? (i := 994) (by decide +kernel)⟩
theorem lw_p41 : lw_okq (⟨"HeadDotsModel", "isCool", "(II)Z"⟩, 18) := ⟨⟨by decide +kernel, by decide +kernel⟩, List.mem_of_getElem? (i := 882) (by decide +kernel), List.mem_of_getElem? (i := 1000) (by decide +kernel), List.mem_of_getElem? (i := 1001) (by decide +kernel)⟩
theorem lw_p42 : lw_okq (⟨"HeadDotsModel", "pulse", "(II)I"⟩, 18) := ⟨⟨by decide +kernel, by decide +kernel⟩, List.mem_of_getElem? (i := 882) (by decide +kernel), List.mem_of_getElem? (i := 1004) (by decide +kernel), List.mem_of_getElem? (i := 1005) (by decide +kernel)⟩
theorem lw_p43 : lw_okq (⟨"HeadDotsModel", "pulseBy", "(III)I"⟩, 18) := ⟨⟨by decide +kernel, by decide +kernel⟩, List.mem_of_getElem? (i := 882) (by decide +kernel), List.mem_of_getElem? (i := 1008) (by decide +kernel), List.mem_of_getElem? (i := 1009) (by decide +kernel)⟩
theorem lw_p44 : lw_okq (⟨"HeadDotsModel", "pass", "(I)V"⟩, 18) := ⟨⟨by decide +kernel, by decide +kernel⟩, List.mem_of_getElem? (i := 882) (by decide +kernel), List.mem_of_getElem? (i := 1012) (by decide +kernel), List.mem_of_getElem? (i := 1013) (by decide +kernel)⟩
theorem lw_p45 : lw_okq (⟨"HeadDotsModel", "cooled", "(I)I"⟩, 18) := ⟨⟨by decide +kernel, by decide +kernel⟩, List.mem_of_getElem? (i := 882) (by decide +kernel), List.mem_of_getElem? (i := 1016) (by decide +kernel), List.mem_of_getElem? (i := 1017) (by decide +kernel)⟩
theorem lw_p46 : lw_okq (⟨"HeadDotsModel", "printPart", "(II)I"⟩, 18) := ⟨⟨by decide +kernel, by decide +kernel⟩, List.mem_of_getElem? (i := 882) (by decide +kernel), List.mem_of_getElem? (i := 1020) (by decide +kernel), List.mem_of_getElem? (i := 1021) (by decide +kernel)⟩
theorem lw_p47 : lw_okq (⟨"HeadDotsModel", "darkHeat", "()I"⟩, 18) := ⟨⟨by decide +kernel, by decide +kernel⟩, List.mem_of_getElem? (i := 882) (by decide +kernel), List.mem_of_getElem? (i := 1024) (by decide +kernel), List.mem_of_getElem? (i := 1025) (by decide +kernel)⟩
def lw_privs_3 : List (MethodName × Nat) := [(⟨"HeadDots", "dropOldest", "()V"⟩, 8), (⟨"HeadDots", "savedAt", "(I)LHeadDots$State;"⟩, 8), (⟨"HeadDots", "printPartOfText", "()V"⟩, 8), (⟨"HeadDotsModel", "fails", "(I)I"⟩, 18), (⟨"HeadDotsModel", "save", "()V"⟩, 18), (⟨"HeadDotsModel", "printLine", "(I)I"⟩, 18), (⟨"HeadDotsModel", "partsOf", "(I)I"⟩, 18), (⟨"HeadDotsModel", "atOnce", "()I"⟩, 18), (⟨"HeadDotsModel", "dotsOfPart", "(II)I"⟩, 18), (⟨"HeadDotsModel", "isCool", "(II)Z"⟩, 18), (⟨"HeadDotsModel", "pulse", "(II)I"⟩, 18), (⟨"HeadDotsModel", "pulseBy", "(III)I"⟩, 18), (⟨"HeadDotsModel", "pass", "(I)V"⟩, 18), (⟨"HeadDotsModel", "cooled", "(I)I"⟩, 18), (⟨"HeadDotsModel", "printPart", "(II)I"⟩, 18), (⟨"HeadDotsModel", "darkHeat", "()I"⟩, 18)]
theorem lw_r3 : ∀ q ∈ lw_privs_3, lw_okq q := List.forall_mem_cons.mpr ⟨lw_p32, List.forall_mem_cons.mpr ⟨lw_p33, List.forall_mem_cons.mpr ⟨lw_p34, List.forall_mem_cons.mpr ⟨lw_p35, List.forall_mem_cons.mpr ⟨lw_p36, List.forall_mem_cons.mpr ⟨lw_p37, List.forall_mem_cons.mpr ⟨lw_p38, List.forall_mem_cons.mpr ⟨lw_p39, List.forall_mem_cons.mpr ⟨lw_p40, List.forall_mem_cons.mpr ⟨lw_p41, List.forall_mem_cons.mpr ⟨lw_p42, List.forall_mem_cons.mpr ⟨lw_p43, List.forall_mem_cons.mpr ⟨lw_p44, List.forall_mem_cons.mpr ⟨lw_p45, List.forall_mem_cons.mpr ⟨lw_p46, List.forall_mem_cons.mpr ⟨lw_p47, fun _ h => absurd h List.not_mem_nil⟩⟩⟩⟩⟩⟩⟩⟩⟩⟩⟩⟩⟩⟩⟩⟩
theorem lw_p48 : lw_okq (⟨"HeadDotsModel", "keepLine", "(II)V"⟩, 18) := ⟨⟨by decide +kernel, by decide +kernel⟩, List.mem_of_getElem? (i := 882) (by decide +kernel), List.mem_of_getElem? (i := 1028) (by decide +kernel), List.mem_of_getElem? (i := 1029) (by decide +kernel)⟩
theorem lw_p49 : lw_okq (⟨"HeadDotsModel", "printSome", "(II)I"⟩, 18) := ⟨⟨by decide +kernel, by decide +kernel⟩, List.mem_of_getElem? (i := 882) (by decide +kernel), List.mem_of_getElem? (i := 1036) (by decide +kernel), List.mem_of_getElem? (i := 1037) (by decide +kernel)⟩
theorem lw_p50 : lw_okq (⟨"HeadDotsModel", "sum", "(I)I"⟩, 18) := ⟨⟨by decide +kernel, by decide +kernel⟩, List.mem_of_getElem? (i := 882) (by decide +kernel), List.mem_of_getElem? (i := 1040) (by decide +kernel), List.mem_of_getElem? (i := 1041) (by decide +kernel)⟩
theorem lw_p51 : lw_okq (⟨"HeadDotsModel", "hottestNow", "()I"⟩, 18) := ⟨⟨by decide +kernel, by decide +kernel⟩, List.mem_of_getElem? (i := 882) (by decide +kernel), List.mem_of_getElem? (i := 1048) (by decide +kernel), List.mem_of_getElem? (i := 1049) (by decide +kernel)⟩
theorem lw_p52 : lw_okq (⟨"HeadDotsModel", "paperNow", "(I)I"⟩, 18) := ⟨⟨by decide +kernel, by decide +kernel⟩, List.mem_of_getElem? (i := 882) (by decide +kernel), List.mem_of_getElem? (i := 1056) (by decide +kernel), List.mem_of_getElem? (i := 1057) (by decide +kernel)⟩
theorem lw_p53 : lw_okq (⟨"HeadDotsModel", "arePrints", "()Z"⟩, 18) := ⟨⟨by decide +kernel, by decide +kernel⟩, List.mem_of_getElem? (i := 882) (by decide +kernel), List.mem_of_getElem? (i := 1079) (by decide +kernel), List.mem_of_getElem? (i := 1080) (by decide +kernel)⟩
theorem lw_p54 : lw_okq (⟨"HeadDotsModel", "readPart", "()Z"⟩, 18) := ⟨⟨by decide +kernel, by decide +kernel⟩, List.mem_of_getElem? (i := 882) (by decide +kernel), List.mem_of_getElem? (i := 1083) (by decide +kernel), List.mem_of_getElem? (i := 1084) (by decide +kernel)⟩
theorem lw_p55 : lw_okq (⟨"HeadDotsModel", "takes", "(I)Z"⟩, 18) := ⟨⟨by decide +kernel, by decide +kernel⟩, List.mem_of_getElem? (i := 882) (by decide +kernel), List.mem_of_getElem? (i := 1087) (by decide +kernel), List.mem_of_getElem? (i := 1088) (by decide +kernel)⟩
theorem lw_p56 : lw_okq (⟨"HeadDotsModel", "sign", "()I"⟩, 18) := ⟨⟨by decide +kernel, by decide +kernel⟩, List.mem_of_getElem? (i := 882) (by decide +kernel), List.mem_of_getElem? (i := 1091) (by decide +kernel), List.mem_of_getElem? (i := 1092) (by decide +kernel)⟩
theorem lw_p57 : lw_okq (⟨"HeadDotsModel", "takesFour", "(IIII)Z"⟩, 18) := ⟨⟨by decide +kernel, by decide +kernel⟩, List.mem_of_getElem? (i := 882) (by decide +kernel), List.mem_of_getElem? (i := 1095) (by decide +kernel), List.mem_of_getElem? (i := 1096) (by decide +kernel)⟩
theorem lw_p58 : lw_okq (⟨"HeadDotsModel", "readLine", "()Z"⟩, 18) := ⟨⟨by decide +kernel, by decide +kernel⟩, List.mem_of_getElem? (i := 882) (by decide +kernel), List.mem_of_getElem? (i := 1099) (by decide +kernel), List.mem_of_getElem? (i := 1100) (by decide +kernel)⟩
theorem lw_p59 : lw_okq (⟨"HeadDotsModel", "readNumber", "(I)I"⟩, 18) := ⟨⟨by decide +kernel, by decide +kernel⟩, List.mem_of_getElem? (i := 882) (by decide +kernel), List.mem_of_getElem? (i := 1103) (by decide +kernel), List.mem_of_getElem? (i := 1104) (by decide +kernel)⟩
theorem lw_p60 : lw_okq (⟨"HeadDotsModel", "addPart", "(III)Z"⟩, 18) := ⟨⟨by decide +kernel, by decide +kernel⟩, List.mem_of_getElem? (i := 882) (by decide +kernel), List.mem_of_getElem? (i := 1107) (by decide +kernel), List.mem_of_getElem? (i := 1108) (by decide +kernel)⟩
theorem lw_p61 : lw_okq (⟨"HeadDotsModel", "readPaper", "()Z"⟩, 18) := ⟨⟨by decide +kernel, by decide +kernel⟩, List.mem_of_getElem? (i := 882) (by decide +kernel), List.mem_of_getElem? (i := 1111) (by decide +kernel), List.mem_of_getElem? (i := 1112) (by decide +kernel)⟩
theorem lw_p62 : lw_okq (⟨"HeadDotsModel", "readRest", "()Z"⟩, 18) := ⟨⟨by decide +kernel, by decide +kernel⟩, List.mem_of_getElem? (i := 882) (by decide +kernel), List.mem_of_getElem? (i := 1115) (by decide +kernel), List.mem_of_getElem? (i := 1116) (by decide +kernel)⟩
theorem lw_p63 : lw_okq (⟨"HeadDotsModel", "toldAt", "(II)I"⟩, 18) := ⟨⟨by decide +kernel, by decide +kernel⟩, List.mem_of_getElem? (i := 882) (by decide +kernel), List.mem_of_getElem? (i := 1127) (by decide +kernel), List.mem_of_getElem? (i := 1128) (by decide +kernel)⟩
def lw_privs_4 : List (MethodName × Nat) := [(⟨"HeadDotsModel", "keepLine", "(II)V"⟩, 18), (⟨"HeadDotsModel", "printSome", "(II)I"⟩, 18), (⟨"HeadDotsModel", "sum", "(I)I"⟩, 18), (⟨"HeadDotsModel", "hottestNow", "()I"⟩, 18), (⟨"HeadDotsModel", "paperNow", "(I)I"⟩, 18), (⟨"HeadDotsModel", "arePrints", "()Z"⟩, 18), (⟨"HeadDotsModel", "readPart", "()Z"⟩, 18), (⟨"HeadDotsModel", "takes", "(I)Z"⟩, 18), (⟨"HeadDotsModel", "sign", "()I"⟩, 18), (⟨"HeadDotsModel", "takesFour", "(IIII)Z"⟩, 18), (⟨"HeadDotsModel", "readLine", "()Z"⟩, 18), (⟨"HeadDotsModel", "readNumber", "(I)I"⟩, 18), (⟨"HeadDotsModel", "addPart", "(III)Z"⟩, 18), (⟨"HeadDotsModel", "readPaper", "()Z"⟩, 18), (⟨"HeadDotsModel", "readRest", "()Z"⟩, 18), (⟨"HeadDotsModel", "toldAt", "(II)I"⟩, 18)]
theorem lw_r4 : ∀ q ∈ lw_privs_4, lw_okq q := List.forall_mem_cons.mpr ⟨lw_p48, List.forall_mem_cons.mpr ⟨lw_p49, List.forall_mem_cons.mpr ⟨lw_p50, List.forall_mem_cons.mpr ⟨lw_p51, List.forall_mem_cons.mpr ⟨lw_p52, List.forall_mem_cons.mpr ⟨lw_p53, List.forall_mem_cons.mpr ⟨lw_p54, List.forall_mem_cons.mpr ⟨lw_p55, List.forall_mem_cons.mpr ⟨lw_p56, List.forall_mem_cons.mpr ⟨lw_p57, List.forall_mem_cons.mpr ⟨lw_p58, List.forall_mem_cons.mpr ⟨lw_p59, List.forall_mem_cons.mpr ⟨lw_p60, List.forall_mem_cons.mpr ⟨lw_p61, List.forall_mem_cons.mpr ⟨lw_p62, List.forall_mem_cons.mpr ⟨lw_p63, fun _ h => absurd h List.not_mem_nil⟩⟩⟩⟩⟩⟩⟩⟩⟩⟩⟩⟩⟩⟩⟩⟩
theorem lw_p64 : lw_okq (⟨"HeadDotsModel", "ofDot", "(II)I"⟩, 18) := ⟨⟨by decide +kernel, by decide +kernel⟩, List.mem_of_getElem? (i := 882) (by decide +kernel), List.mem_of_getElem? (i := 1135) (by decide +kernel), List.mem_of_getElem? (i := 1136) (by decide +kernel)⟩
theorem lw_p65 : lw_okq (⟨"HeadDotsModel", "waitOf", "(I)I"⟩, 18) := ⟨⟨by decide +kernel, by decide +kernel⟩, List.mem_of_getElem? (i := 882) (by decide +kernel), List.mem_of_getElem? (i := 1139) (by decide +kernel), List.mem_of_getElem? (i := 1140) (by decide +kernel)⟩
theorem lw_p66 : lw_okq (⟨"HeadDotsModel", "number", "(I)I"⟩, 18) := ⟨⟨by decide +kernel, by decide +kernel⟩, List.mem_of_getElem? (i := 882) (by decide +kernel), List.mem_of_getElem? (i := 1151) (by decide +kernel), List.mem_of_getElem? (i := 1152) (by decide +kernel)⟩
theorem lw_p67 : lw_okq (⟨"HeadDotsModel", "wouldBring", "(II)I"⟩, 18) := ⟨⟨by decide +kernel, by decide +kernel⟩, List.mem_of_getElem? (i := 882) (by decide +kernel), List.mem_of_getElem? (i := 1159) (by decide +kernel), List.mem_of_getElem? (i := 1160) (by decide +kernel)⟩
theorem lw_p68 : lw_okq (⟨"HeadDotsModel", "putAside", "()V"⟩, 18) := ⟨⟨by decide +kernel, by decide +kernel⟩, List.mem_of_getElem? (i := 882) (by decide +kernel), List.mem_of_getElem? (i := 1163) (by decide +kernel), List.mem_of_getElem? (i := 1164) (by decide +kernel)⟩
theorem lw_p69 : lw_okq (⟨"HeadDotsModel", "putBack", "()V"⟩, 18) := ⟨⟨by decide +kernel, by decide +kernel⟩, List.mem_of_getElem? (i := 882) (by decide +kernel), List.mem_of_getElem? (i := 1167) (by decide +kernel), List.mem_of_getElem? (i := 1168) (by decide +kernel)⟩
theorem lw_p70 : lw_okq (⟨"HeadDotsModel", "better", "(I)I"⟩, 18) := ⟨⟨by decide +kernel, by decide +kernel⟩, List.mem_of_getElem? (i := 882) (by decide +kernel), List.mem_of_getElem? (i := 1175) (by decide +kernel), List.mem_of_getElem? (i := 1176) (by decide +kernel)⟩
theorem lw_p71 : lw_okq (⟨"HeadDotsModel", "timeToCool", "(I)I"⟩, 18) := ⟨⟨by decide +kernel, by decide +kernel⟩, List.mem_of_getElem? (i := 882) (by decide +kernel), List.mem_of_getElem? (i := 1183) (by decide +kernel), List.mem_of_getElem? (i := 1184) (by decide +kernel)⟩
theorem lw_p72 : lw_okq (⟨"HeadDotsModel", "leastDark", "(I)I"⟩, 18) := ⟨⟨by decide +kernel, by decide +kernel⟩, List.mem_of_getElem? (i := 882) (by decide +kernel), List.mem_of_getElem? (i := 1191) (by decide +kernel), List.mem_of_getElem? (i := 1192) (by decide +kernel)⟩
theorem lw_p73 : lw_okq (⟨"HeadDotsModel", "isDarkBy", "(II)Z"⟩, 18) := ⟨⟨by decide +kernel, by decide +kernel⟩, List.mem_of_getElem? (i := 882) (by decide +kernel), List.mem_of_getElem? (i := 1195) (by decide +kernel), List.mem_of_getElem? (i := 1196) (by decide +kernel)⟩
theorem lw_p74 : lw_okq (⟨"HeadDotsModel", "share", "()D"⟩, 18) := ⟨⟨by decide +kernel, by decide +kernel⟩, List.mem_of_getElem? (i := 882) (by decide +kernel), List.mem_of_getElem? (i := 1203) (by decide +kernel), List.mem_of_getElem? (i := 1204) (by decide +kernel)⟩
theorem lw_p75 : lw_okq (⟨"HeadDotsModel", "mean", "()F"⟩, 18) := ⟨⟨by decide +kernel, by decide +kernel⟩, List.mem_of_getElem? (i := 882) (by decide +kernel), List.mem_of_getElem? (i := 1211) (by decide +kernel), List.mem_of_getElem? (i := 1212) (by decide +kernel)⟩
theorem lw_p76 : lw_okq (⟨"HeadDotsModel", "mix", "(J)V"⟩, 18) := ⟨⟨by decide +kernel, by decide +kernel⟩, List.mem_of_getElem? (i := 882) (by decide +kernel), List.mem_of_getElem? (i := 1221) (by decide +kernel), List.mem_of_getElem? (i := 1222) (by decide +kernel)⟩
theorem lw_p77 : lw_okq (⟨"HeadDotsModel", "mixStrip", "()V"⟩, 18) := ⟨⟨by decide +kernel, by decide +kernel⟩, List.mem_of_getElem? (i := 882) (by decide +kernel), List.mem_of_getElem? (i := 1226) (by decide +kernel), List.mem_of_getElem? (i := 1227) (by decide +kernel)⟩
def lw_privs_5 : List (MethodName × Nat) := [(⟨"HeadDotsModel", "ofDot", "(II)I"⟩, 18), (⟨"HeadDotsModel", "waitOf", "(I)I"⟩, 18), (⟨"HeadDotsModel", "number", "(I)I"⟩, 18), (⟨"HeadDotsModel", "wouldBring", "(II)I"⟩, 18), (⟨"HeadDotsModel", "putAside", "()V"⟩, 18), (⟨"HeadDotsModel", "putBack", "()V"⟩, 18), (⟨"HeadDotsModel", "better", "(I)I"⟩, 18), (⟨"HeadDotsModel", "timeToCool", "(I)I"⟩, 18), (⟨"HeadDotsModel", "leastDark", "(I)I"⟩, 18), (⟨"HeadDotsModel", "isDarkBy", "(II)Z"⟩, 18), (⟨"HeadDotsModel", "share", "()D"⟩, 18), (⟨"HeadDotsModel", "mean", "()F"⟩, 18), (⟨"HeadDotsModel", "mix", "(J)V"⟩, 18), (⟨"HeadDotsModel", "mixStrip", "()V"⟩, 18)]
theorem lw_r5 : ∀ q ∈ lw_privs_5, lw_okq q := List.forall_mem_cons.mpr ⟨lw_p64, List.forall_mem_cons.mpr ⟨lw_p65, List.forall_mem_cons.mpr ⟨lw_p66, List.forall_mem_cons.mpr ⟨lw_p67, List.forall_mem_cons.mpr ⟨lw_p68, List.forall_mem_cons.mpr ⟨lw_p69, List.forall_mem_cons.mpr ⟨lw_p70, List.forall_mem_cons.mpr ⟨lw_p71, List.forall_mem_cons.mpr ⟨lw_p72, List.forall_mem_cons.mpr ⟨lw_p73, List.forall_mem_cons.mpr ⟨lw_p74, List.forall_mem_cons.mpr ⟨lw_p75, List.forall_mem_cons.mpr ⟨lw_p76, List.forall_mem_cons.mpr ⟨lw_p77, fun _ h => absurd h List.not_mem_nil⟩⟩⟩⟩⟩⟩⟩⟩⟩⟩⟩⟩⟩⟩
def lw_privs : List (MethodName × Nat) := lw_privs_1 ++ (lw_privs_2 ++ (lw_privs_3 ++ (lw_privs_4 ++ (lw_privs_5))))
def lw_tbl : List Cond := k2_sels lw_privs ++ tables_1
theorem lw_privs_ok : ∀ q ∈ lw_privs, lw_okq q := by
  show ∀ q ∈ lw_privs_1 ++ (lw_privs_2 ++ (lw_privs_3 ++ (lw_privs_4 ++ (lw_privs_5)))), lw_okq q
  exact List.forall_mem_append.mpr ⟨lw_r1, List.forall_mem_append.mpr ⟨lw_r2, List.forall_mem_append.mpr ⟨lw_r3, List.forall_mem_append.mpr ⟨lw_r4, lw_r5⟩⟩⟩⟩
/-- the streams that the claim lets the run draw from -/
abbrev lw_cs : List Choice := [Jvm.Choice.named "NaN.bits"]
theorem lw_bits : nanBits ∈ lw_cs := by first | decide | exact List.mem_cons_self | simp [lw_cs, nanBits]
-- ===== end of PART A; then your names; then what follows =====
/-! ===== BEGIN words of one list among another's, by their places ===== -/
theorem goodIn_r {big : List Cond} (ws : List Cond) (ps : List Nat) (hp : ws = ps.filterMap (fun i => big[i]?)) (h : ws.all goodWord = true) : GoodIn big ws := by
  intro w hw
  have h1 := List.all_eq_true.mp h w hw
  rw [hp] at hw
  obtain ⟨i, -, hi⟩ := List.mem_filterMap.mp hw
  have hm : w ∈ big := by first | exact List.mem_of_getElem? hi | exact List.getElem?_mem hi
  exact ⟨hm, good_of_word h1⟩
theorem goodIn_app {big a b : List Cond} (ha : GoodIn big a) (hb : GoodIn big b) : GoodIn big (a ++ b) := fun w h => (List.mem_append.mp h).elim (ha w) (hb w)
theorem goodIn_ca {big a b : List Cond} {c : Cond} (ha : GoodIn big (c :: a)) (hb : GoodIn big b) : GoodIn big (c :: (a ++ b)) := fun w h => (List.mem_cons.mp h).elim (fun e => ha w (List.mem_cons.mpr (Or.inl e))) (fun h => (List.mem_append.mp h).elim (fun h => ha w (List.mem_cons.mpr (Or.inr h))) (hb w))
theorem goodIn_sub {big ws : List Cond} (hm : ∀ w ∈ ws, w ∈ big) (h : ws.all goodWord = true) : GoodIn big ws := fun w hw => ⟨hm w hw, good_of_word (List.all_eq_true.mp h w hw)⟩
/-! ===== END ===== -/

/-! ===== BEGIN exceptions that leave a method, and their catching by the caller (launches without stack traces) ===== -/
section VXA
/-! The laws vx_back, vx_callV, vx_callS, vx_callSW, vx_throw0, vx_throwS follow proofs of the library, with one case more: JvmDerived/Free/Laws.lean (Back.of_free), Shelf42/LK1.lean (callV, callS), Shelf/KitTraced.lean (throwNew0V, throwNewS). -/
/-- where a method has thrown q: the class by its name, the cell, what was written, the world -/
def vx_T (XC : String → State → State → Prop) (st : State) (q : Addr) (t : State) (mc ms : Nat) (free : Addr → Prop) : Prop :=
  ∃ (E : String) (ce : Cell) (L : List Loc), XC E st t ∧ t.heap[q]? = some ce ∧ ce.vm = .none ∧ st.vm.findClass E = some ce.cls ∧ st.WarmedH t.vm ∧ st.sameButNew ({ t with vm := st.vm } : State) L mc ms ∧ ∀ z ∈ L, free z.base
def vx_Q (Qc : Array Value → State → Outcome → State → Prop) (XC : String → State → State → Prop) (mc ms : Nat) (free : Addr → Prop) : Array Value → State → Outcome → State → Prop := fun a st o t =>
  (Qc a st o t ∧ ∃ L, FrameEnd st o t L mc ms ∧ ∀ q ∈ L, free q.base) ∨ ∃ q, o = .threw q ∧ vx_T XC st q t mc ms free
/-- a callee that returns or throws -/
def vx_Met (l : Launch) (y : MethodName) (ws : List Cond) (rm : Room) (Pc : Array Value → State → Prop) (Qc : Array Value → State → Outcome → State → Prop) (XC : String → State → State → Prop) (mc ms : Nat) (free : Addr → Prop) : Prop :=
  MetFree l y (headSpec ws rm) Pc (fun _ _ _ _ _ => True) (vx_Q Qc XC mc ms free)
def vx_Post (XC : String → State → State → Prop) (mc ms : Nat) (free : Addr → Prop) : Pt → Array Value → Addr → Pt → Prop := fun A a q B =>
  ∃ (g : JFrame) (mk : MethodId) (t : State) (L : List Loc) (E : String) (ce : Cell), B.U.heap = t.heap ∧ B.U.vm = t.vm ∧ XC E (A.U.calling g mk a) t ∧ t.heap[q]? = some ce ∧ ce.vm = .none ∧ A.U.vm.findClass E = some ce.cls ∧ B.locs = A.locs ++ L ∧ (∀ z ∈ L, free z.base) ∧ B.cells = A.cells + mc ∧ B.slots = A.slots + ms
def vx_Back (l : Launch) (R : Room) (p : Program) (e : Env) (below : List Frame) (s : State) (sargs : Array Value) (y : MethodName) (len W9 : Nat)
    (Pre : Pt → Array Value → Prop) (Post : Pt → Array Value → Option Value → Pt → Prop) (PostX : Pt → Array Value → Addr → Pt → Prop) : Prop :=
  ∀ (m : MethodId) (meth : Method) (c : Code) (A : Pt) (g : JFrame) (ig : Instr) (mk : MethodId) (a : Array Value),
    Stand p l e R s m sargs below meth c A.U A.locs A.cells A.slots → g.method = m → g.locals.size = c.maxLocals → decode c.code g.pc = .ok (ig, len) →
    2 * g.monitorRoom + (g.stack.map fun v => v.category).sum ≤ W9 → A.U.methodNamed? y = some mk → Pre A a →
    (∃ (v : Option Value) (B : Pt), Stand p l e R s m sargs below meth c B.U B.locs B.cells B.slots ∧ Post A a v B ∧
      Steps p.tables e below (doInvoke e (A.U.setTop g) [] mk a).1 (B.U.setTop { g with pc := g.pc + len, stack := v.toList ++ g.stack })) ∨
    (∃ (q : Addr) (B : Pt), Stand p l e R s m sargs below meth c B.U B.locs B.cells B.slots ∧ PostX A a q B ∧
      Steps p.tables e below (doInvoke e (A.U.setTop g) [] mk a).1 ((B.U.setTop g).pushFrame (.throwing q)))
section Payer
variable {l : Launch} {R : Room} {p : Program} {e : Env} {below : List Frame} {s : State} {sargs : Array Value} {y : MethodName} {len W9 : Nat}
theorem vx_back {ws : List Cond} {rm : Room} {Pc : Array Value → State → Prop} {Qc : Array Value → State → Outcome → State → Prop} {XC : String → State → State → Prop} {mc ms : Nat} {free : Addr → Prop} {bytes : ByteArray} {maxL : Nat} {ret : Option FieldType}
    (hM : vx_Met l y ws rm Pc Qc XC mc ms free) (hblind : FrameBlind Pc) (hrc : rm.cells = mc) (hrs : rm.slots = ms)
    (hframes : rm.frames + 1 ≤ R.frames) (hlocals : W9 + (maxL + 11) + rm.locals ≤ R.locals)
    (hws : ∀ w ∈ ws, ∀ a' U, s.WarmedH U.vm → w.before a' U = true) (hcode : Cond.code y bytes maxL ret ∈ ws) (hinit : ∀ a' U, s.WarmedH U.vm → (Cond.initialized y.cls).before a' U = true) :
    vx_Back l R p e below s sargs y len W9 (PreOf R mc ms Pc) (PostOf Qc mc ms free) (vx_Post XC mc ms free) := by
  intro m meth c A g ig mk a X hg hsize hdg hW hn hp
  have h1 : (headSpec ws rm).pre.before a A.U = true := atoms_intro fun w hw => hws w hw _ _ X.warmed
  have h2 : (Cond.code y bytes maxL ret).before a A.U = true := hws _ hcode _ _ X.warmed
  have h3 : (Cond.initialized y.cls).before a A.U = true := hinit _ _ X.warmed
  have h4 : A.cells + (headSpec ws rm).room.cells ≤ R.cells := by rw [show (headSpec ws rm).room.cells = mc from hrc]; exact hp.1
  have h5 : A.slots + (headSpec ws rm).room.slots ≤ R.slots := by rw [show (headSpec ws rm).room.slots = ms from hrs]; exact hp.2.1
  have hPc : Pc a (A.U.calling g mk a) := hblind _ _ _ _ hp.2.2
  obtain ⟨U, Ls, c0, s0⟩ := A
  dsimp only [Pt.U, Pt.locs, Pt.cells, Pt.slots] at h1 h2 h3 h4 h5 X hn hPc ⊢
  obtain ⟨methY, cY, hmY, hcY, -, hlY, -, -, -, -⟩ := Cond.code_spec hn h2
  obtain ⟨kY, hkY, -⟩ := className_of_methodNamed hn
  have hinitY : kY.init = .initialized := Cond.initialized_spec (findClass_of_methodNamed hn) hkY h3
  have h : At U g.method c below := by rw [hg]; exact X.here
  have hlocals9 : W9 + (maxL + 11) + (headSpec ws rm).room.locals ≤ R.locals := hlocals
  have happ : (headSpec ws rm).appliesLoose y e.platform (U.calling g mk a) = true :=
    Spec.appliesLoose_calling (g := g) h hdg hn hkY hinitY
      (X.room_calling (g := g) (R' := (headSpec ws rm).room) hsize hmY hcY hframes (by rw [hlY]; omega) h4 h5) h1
  obtain ⟨mid, hmid⟩ := h.above
  have hfr : (U.setTop g).frames = (.java g :: mid) ++ below := by rw [State.frames_setTop' g h.top, hmid]; rfl
  obtain ⟨o, s₂, hsteps, -, hend, hq⟩ := Steps.callFree hM p X.admits X.cas X.clock (acts := []) hfr happ hPc trivial
  have hq' : vx_Q Qc XC mc ms free a (U.calling g mk a) o s₂ := hq
  rw [State.frames_setTop' g h.top] at hend
  obtain ⟨g₀, hg0⟩ := Option.isSome_iff_exists.mp h.top
  obtain ⟨r, hr⟩ := State.topJava?_eq_some.mp hg0
  have hr' : (({ U with heap := s₂.heap, slotsUsed := s₂.slotsUsed } : State).setVm s₂.vm).frames = .java g₀ :: r := hr
  rcases hq' with ⟨hqc, L, hfe, hL⟩ | ⟨q, rfl, E, ce, L, hx, hce, hcv, hcl, hW₂, hsm, hL⟩
  · obtain ⟨⟨v, rfl⟩, hW₂, e2, q2, q3, q4, q5, q6⟩ := id hfe
    have e3 : s₂ = ({ (U.calling g mk a).setFrames s₂.frames with heap := s₂.heap, slotsUsed := s₂.slotsUsed } : State).setVm s₂.vm := by
      have : s₂ = ({ s₂ with vm := (U.calling g mk a).vm } : State).setVm s₂.vm := rfl
      rw [e2] at this
      exact this
    obtain ⟨c₂, i₂, len₂, hc₂, hd₂, hf₂⟩ := hend
    have hW' : U.WarmedH s₂.vm := hW₂
    have hcc : c₂ = c := by
      have h1 : s₂.code? g.method = U.code? g.method := by
        rw [State.code?_eq, State.code?_eq, hW'.alike.method?]
      exact Option.some.inj (hc₂.symm.trans (h1.trans h.code))
    subst hcc
    have hlen : len₂ = len := by rw [hdg] at hd₂; cases hd₂; rfl
    subst hlen
    have hs₂ : s₂ = (({ U with heap := s₂.heap, slotsUsed := s₂.slotsUsed } : State).setVm s₂.vm).setTop { g with pc := g.pc + len₂, stack := v.toList ++ g.stack } := by
      refine e3.trans ?_
      rw [hf₂, State.calling_eq h.top, State.setFrames_setFrames, State.setTop_of_frames _ hr', hr]
      rfl
    have hsame : U.sameButNew ({ U with heap := s₂.heap, slotsUsed := s₂.slotsUsed } : State) L mc ms := by
      refine ⟨?_, q2, q3, q4, q5, q6⟩
      obtain ⟨t, ht, -⟩ := State.frames_cons hr
      show ({ U with heap := s₂.heap, slotsUsed := s₂.slotsUsed } : State) = { U.setFrames U.frames with heap := s₂.heap, slotsUsed := s₂.slotsUsed }
      rw [State.setFrames_self ht]
    subst hg
    refine Or.inl ⟨v, ⟨(({ U with heap := s₂.heap, slotsUsed := s₂.slotsUsed } : State).setVm s₂.vm), Ls ++ L, c0 + mc, s0 + ms⟩,
      ⟨X.admits, X.cas, X.clock, X.frames, X.room, X.hears, X.method, X.code, (X.here.setHeapUsed s₂.heap s₂.slotsUsed).setVm hW'.alike, X.tail, State.WarmedH.trans X.warmed hW', X.limits, X.bytes, X.same.trans (hsame.setVm s.vm)⟩,
      ⟨g, mk, s₂, L, rfl, rfl, hqc, rfl, hL, rfl, rfl⟩, ?_⟩
    show Steps p.tables e below _ ((({ U with heap := s₂.heap, slotsUsed := s₂.slotsUsed } : State).setVm s₂.vm).setTop { g with pc := g.pc + len₂, stack := v.toList ++ g.stack })
    rw [← hs₂]
    exact hsteps
  · obtain ⟨e2, q2, q3, q4, q5, q6⟩ := id hsm
    have e3 : s₂ = ({ (U.calling g mk a).setFrames s₂.frames with heap := s₂.heap, slotsUsed := s₂.slotsUsed } : State).setVm s₂.vm := by
      have : s₂ = ({ s₂ with vm := (U.calling g mk a).vm } : State).setVm s₂.vm := rfl
      rw [e2] at this
      exact this
    have hf₂ : s₂.frames = .throwing q :: .java g :: U.frames.tail := hend
    have hW' : U.WarmedH s₂.vm := hW₂
    have hs₂ : s₂ = ((({ U with heap := s₂.heap, slotsUsed := s₂.slotsUsed } : State).setVm s₂.vm).setTop g).pushFrame (.throwing q) := by
      refine e3.trans ?_
      rw [hf₂, State.calling_eq h.top, State.setFrames_setFrames, State.pushFrame, State.frames_setTop _ hr', State.setTop_of_frames _ hr', State.setFrames_setFrames, hr]
      rfl
    have hsame : U.sameButNew ({ U with heap := s₂.heap, slotsUsed := s₂.slotsUsed } : State) L mc ms := by
      refine ⟨?_, q2, q3, q4, q5, q6⟩
      obtain ⟨t, ht, -⟩ := State.frames_cons hr
      show ({ U with heap := s₂.heap, slotsUsed := s₂.slotsUsed } : State) = { U.setFrames U.frames with heap := s₂.heap, slotsUsed := s₂.slotsUsed }
      rw [State.setFrames_self ht]
    subst hg
    refine Or.inr ⟨q, ⟨(({ U with heap := s₂.heap, slotsUsed := s₂.slotsUsed } : State).setVm s₂.vm), Ls ++ L, c0 + mc, s0 + ms⟩,
      ⟨X.admits, X.cas, X.clock, X.frames, X.room, X.hears, X.method, X.code, (X.here.setHeapUsed s₂.heap s₂.slotsUsed).setVm hW'.alike, X.tail, State.WarmedH.trans X.warmed hW', X.limits, X.bytes, X.same.trans (hsame.setVm s.vm)⟩,
      ⟨g, mk, s₂, L, E, ce, rfl, rfl, hx, hce, hcv, hcl, rfl, hL, rfl, rfl⟩, ?_⟩
    show Steps p.tables e below _ (((({ U with heap := s₂.heap, slotsUsed := s₂.slotsUsed } : State).setVm s₂.vm).setTop g).pushFrame (.throwing q))
    rw [← hs₂]
    exact hsteps
end Payer
section Calls
variable {p : Program} {l : Launch} {e : Env} {R : Room} {s : State} {m : MethodId} {args : Array Value} {below : List Frame} {meth : Method} {c : Code} {T : State} {locs : List Loc} {cells slots : Nat}
theorem vx_callV (X : Stand p l e R s m args below meth c T locs cells slots) (hexec : p.tables.exec = Jvm.exec) {own C : String} {index : Nat} {y : MethodName} {bytes : ByteArray} {maxL : Nat} {ret : Option FieldType}
    (hown : s.vm.findClass own = some m.cls) (hlink : (Cond.methodLink own index y).before args s = true) (hinst : (Cond.instanceMethod y).before args s = true) (hsel : (Cond.selects C y y).before args s = true)
    (hcode : (Cond.code y bytes maxL ret).before args s = true) (hy : y.cls ≠ "java/lang/invoke/MethodHandle" ∧ y.cls ≠ "java/lang/invoke/VarHandle")
    {W9 : Nat} {Pre : Pt → Array Value → Prop} {Post : Pt → Array Value → Option Value → Pt → Prop} {PostX : Pt → Array Value → Addr → Pt → Prop} (hK : vx_Back l R p e below s args y 3 W9 Pre Post PostX)
    {b : Addr} {cellB : Cell} (hcell : T.heap[b]? = some cellB) (hobj : cellB.vm.isStatics = false) (hcls : s.vm.findClass C = some cellB.cls)
    {g : JFrame} (hg : g.method = m) (hsize : g.locals.size = c.maxLocals) {argsL rest : List Value} (hlen : ∀ sig, parseMethodDescriptor y.desc = some sig → argsL.length = sig.parameters.length)
    (hstack : g.stack = argsL.reverse ++ .ref b :: rest) (hW : 2 * g.monitorRoom + (rest.map fun v => v.category).sum ≤ W9) (hdg : decode c.code g.pc = .ok (.invokevirtual index, 3))
    (hpre : ∀ vm₁, s.WarmedH vm₁ → Pre ⟨T.setVm vm₁, locs, cells, slots⟩ (Value.ref b :: argsL).toArray) :
    (∃ (v : Option Value) (vm₁ : Vm) (B : Pt), s.WarmedH vm₁ ∧ Stand p l e R s m args below meth c B.U B.locs B.cells B.slots ∧ Post ⟨T.setVm vm₁, locs, cells, slots⟩ (Value.ref b :: argsL).toArray v B ∧
      ∀ target, Steps p.tables e below (B.U.setTop { g with pc := g.pc + 3, stack := v.toList ++ rest }) target → Steps p.tables e below (T.setTop g) target) ∨
    (∃ (q : Addr) (vm₁ : Vm) (B : Pt), s.WarmedH vm₁ ∧ Stand p l e R s m args below meth c B.U B.locs B.cells B.slots ∧ PostX ⟨T.setVm vm₁, locs, cells, slots⟩ (Value.ref b :: argsL).toArray q B ∧
      Steps p.tables e below (T.setTop g) ((B.U.setTop { g with stack := rest }).pushFrame (.throwing q))) := by
  obtain ⟨mk, methM, hnamed, hmethM, hstM, habM⟩ := Cond.instanceMethod_spec hinst
  obtain ⟨methM', cM, hmethM', -, -, -, -, -, -, hsigM⟩ := Cond.code_spec hnamed hcode
  cases hmethM.symm.trans hmethM'
  obtain ⟨c2, r2, m2, q1, q2, q3, q4, kP, hkP, hkPi⟩ := Cond.selects_spec hsel
  cases hcls.symm.trans q1
  cases (State.methodFound?_of_named hnamed hy).symm.trans q2
  cases hnamed.symm.trans q3
  have hselP : selectMethod e.platform s.vm cellB.cls mk = .method mk := by rw [Launch.admits_selectMethod X.admits]; exact q4
  obtain ⟨vm₁, X₁, hstep₁⟩ := X.invokevirtual hexec hown hlink hnamed hmethM hstM hkP hkPi hy (a := b) (cell := cellB) hcell
    (fun z h => by rw [h] at hobj; cases hobj) hselP hmethM habM hkP hkPi (g := g) hg (argsL := argsL) (rest := rest) (hlen _ hsigM) hstack hdg
  rcases hK m meth c ⟨T.setVm vm₁, locs, cells, slots⟩ { g with stack := rest } (.invokevirtual index) mk (Value.ref b :: argsL).toArray X₁ hg hsize hdg hW (X₁.named hnamed) (hpre vm₁ X₁.warmed) with ⟨v, B, X', hpost, hsteps⟩ | ⟨q, B, X', hpost, hsteps⟩
  · exact Or.inl ⟨v, vm₁, B, X₁.warmed, X', hpost, fun target h => hstep₁ _ fun acts => by rw [doInvoke_state]; exact hsteps.trans h⟩
  · exact Or.inr ⟨q, vm₁, B, X₁.warmed, X', hpost, hstep₁ _ fun acts => by rw [doInvoke_state]; exact hsteps⟩
theorem vx_callS (X : Stand p l e R s m args below meth c T locs cells slots) (hexec : p.tables.exec = Jvm.exec) {own : String} {index : Nat} {y : MethodName} {bytes : ByteArray} {maxL : Nat} {ret : Option FieldType}
    (hown : s.vm.findClass own = some m.cls) (hlink : (Cond.methodLink own index y).before args s = true) (hstat : (Cond.static y).before args s = true) (hinit : (Cond.initialized y.cls).before args s = true)
    (hcode : (Cond.code y bytes maxL ret).before args s = true) (hy : y.cls ≠ "java/lang/invoke/MethodHandle" ∧ y.cls ≠ "java/lang/invoke/VarHandle")
    {W9 : Nat} {Pre : Pt → Array Value → Prop} {Post : Pt → Array Value → Option Value → Pt → Prop} {PostX : Pt → Array Value → Addr → Pt → Prop} (hK : vx_Back l R p e below s args y 3 W9 Pre Post PostX)
    {g : JFrame} (hg : g.method = m) (hsize : g.locals.size = c.maxLocals) {argsL rest : List Value} (hlen : ∀ sig, parseMethodDescriptor y.desc = some sig → argsL.length = sig.parameters.length)
    (hstack : g.stack = argsL.reverse ++ rest) (hW : 2 * g.monitorRoom + (rest.map fun v => v.category).sum ≤ W9) (hdg : decode c.code g.pc = .ok (.invokestatic index, 3))
    (hpre : ∀ vm₁, s.WarmedH vm₁ → Pre ⟨T.setVm vm₁, locs, cells, slots⟩ argsL.toArray) :
    (∃ (v : Option Value) (vm₁ : Vm) (B : Pt), s.WarmedH vm₁ ∧ Stand p l e R s m args below meth c B.U B.locs B.cells B.slots ∧ Post ⟨T.setVm vm₁, locs, cells, slots⟩ argsL.toArray v B ∧
      ∀ target, Steps p.tables e below (B.U.setTop { g with pc := g.pc + 3, stack := v.toList ++ rest }) target → Steps p.tables e below (T.setTop g) target) ∨
    (∃ (q : Addr) (vm₁ : Vm) (B : Pt), s.WarmedH vm₁ ∧ Stand p l e R s m args below meth c B.U B.locs B.cells B.slots ∧ PostX ⟨T.setVm vm₁, locs, cells, slots⟩ argsL.toArray q B ∧
      Steps p.tables e below (T.setTop g) ((B.U.setTop { g with stack := rest }).pushFrame (.throwing q))) := by
  obtain ⟨mk, hnamed⟩ := Cond.code_named hcode
  obtain ⟨methM, cM, hmethM, -, -, -, -, -, -, hsigM⟩ := Cond.code_spec hnamed hcode
  have hstatic : methM.isStatic = true := Cond.static_spec hnamed hmethM hstat
  obtain ⟨kP, hkP, -⟩ := className_of_methodNamed hnamed
  have hinitP : kP.init = .initialized := Cond.initialized_spec (findClass_of_methodNamed hnamed) hkP hinit
  obtain ⟨vm₁, X₁, hstep₁⟩ := X.invokestatic hexec hown hlink hnamed hmethM hstatic hkP hinitP hy (g := g) hg (argsL := argsL) (rest := rest) (hlen _ hsigM) hstack hdg
  rcases hK m meth c ⟨T.setVm vm₁, locs, cells, slots⟩ { g with stack := rest } (.invokestatic index) mk argsL.toArray X₁ hg hsize hdg hW (X₁.named hnamed) (hpre vm₁ X₁.warmed) with ⟨v, B, X', hpost, hsteps⟩ | ⟨q, B, X', hpost, hsteps⟩
  · exact Or.inl ⟨v, vm₁, B, X₁.warmed, X', hpost, fun target h => hstep₁ _ fun acts => by rw [doInvoke_state]; exact hsteps.trans h⟩
  · exact Or.inr ⟨q, vm₁, B, X₁.warmed, X', hpost, hstep₁ _ fun acts => by rw [doInvoke_state]; exact hsteps⟩
end Calls
theorem vx_cls {s : State} {T : State} {vm₁ : Vm} {E : String} {k : ClassId} (hW : s.WarmedH vm₁) (h : (T.setVm vm₁).vm.findClass E = some k) : s.vm.findClass E = some k := by
  have h1 : vm₁.findClass E = some k := h
  rw [hW.alike.findClass] at h1
  exact h1
/-- the method's frame g, with q thrown over it -/
def vx_W (p : Program) (l : Launch) (e : Env) (R : Room) (s : State) (m : MethodId) (args : Array Value) (below : List Frame) (meth : Method) (c : Code) (H : Heap) (locs : List Loc) (cells slots : Nat) (Q : State → Prop) (g : JFrame) (q : Addr) : Prop :=
  ∀ T : State, T.heap = H → Stand p l e R s m args below meth c T locs cells slots → ∃ t, Steps p.tables e below ((T.setTop g).pushFrame (.throwing q)) t ∧ Q t
def vx_Run (p : Program) (l : Launch) (e : Env) (R : Room) (s : State) (m : MethodId) (args : Array Value) (below : List Frame) (meth : Method) (c : Code) (H : Heap) (locs : List Loc) (cells slots mc ms : Nat) (g : JFrame) (rest : List Value) (Qa : State → Outcome → State → Prop) (XC : String → State → State → Prop) (free : Addr → Prop) : Prop :=
  ∀ T : State, T.heap = H → Stand p l e R s m args below meth c T locs cells slots →
    (∃ (v : Option Value) (st₀ t T' : State) (L : List Loc), st₀.heap = H ∧ Stand p l e R s m args below meth c T' (locs ++ L) (cells + mc) (slots + ms) ∧ (∀ q ∈ L, free q.base) ∧ T'.heap = t.heap ∧ T'.vm = t.vm ∧ Qa st₀ (.returned v) t ∧
      Goes p e below T g T' { g with pc := g.pc + 3, stack := v.toList ++ rest }) ∨
    (∃ (q : Addr) (st₀ t T' : State) (L : List Loc) (E : String) (ce : Cell), st₀.heap = H ∧ Stand p l e R s m args below meth c T' (locs ++ L) (cells + mc) (slots + ms) ∧ (∀ z ∈ L, free z.base) ∧ T'.heap = t.heap ∧ T'.vm = t.vm ∧ XC E st₀ t ∧ t.heap[q]? = some ce ∧ ce.vm = .none ∧ s.vm.findClass E = some ce.cls ∧
      Steps p.tables e below (T.setTop g) ((T'.setTop { g with stack := rest }).pushFrame (.throwing q)))
def vx_X {S : Type} (px : S → Prop) (B : String → S → State → Prop) (A : Nat → Prop) : String → State → State → Prop := fun E st t => ∃ u : S, px u ∧ B E u t ∧ va_F A st t
section Runs
variable {p : Program} {l : Launch} {e : Env} {R : Room} {s : State} {m : MethodId} {args : Array Value} {below : List Frame} {meth : Method} {c : Code} {H : Heap} {locs : List Loc} {cells slots : Nat}
variable {y : MethodName} {bytes cc : ByteArray} {maxL nL mc ms n index : Nat} {ret : Option FieldType} {ws : List Cond} {rm : Room} {Pc : Array Value → State → Prop} {Qc : Array Value → State → Outcome → State → Prop} {XC : String → State → State → Prop} {free : Addr → Prop} {Ts : List Cond} {own C : String} {b : Addr} {As rest : List Value} {g : JFrame}
theorem vx_callBack (cb : CallB R s args own index y bytes maxL ret ws rm mc ms n) (hM : vx_Met l y ws rm Pc Qc XC mc ms free) (hbl : FrameBlind Pc) : vx_Back l R p e below s args y 3 8 (PreOf R mc ms Pc) (PostOf Qc mc ms free) (vx_Post XC mc ms free) := by
  obtain ⟨hrc, hrs, hfr, hlo, hws, hcw, -, hini, -⟩ := cb
  exact vx_back (bytes := bytes) (maxL := maxL) (ret := ret) hM hbl hrc hrs hfr hlo hws hcw (fun a' U hW => word_at hW (Or.inl (by first | rfl | simp [Cond.onTables, Cond.keeps, Cond.steady])) hini)
theorem vx_runV (S : CallFix p m c cc nL s args Ts own) (hM : vx_Met l y ws rm Pc Qc XC mc ms free) (cw : CallW R s args own C index y bytes maxL ret ws rm mc ms n) (hp : PreV s H C b Pc As)
    (hg : g.method = m) (hn : As.length = n) (hsize : g.locals.size = nL) (hstack : g.stack = As.reverse ++ .ref b :: rest) (hW : 2 * g.monitorRoom + (rest.map fun v => v.category).sum ≤ 8) (hdg : decode cc g.pc = .ok (.invokevirtual index, 3)) (hf : cells + mc ≤ R.cells ∧ slots + ms ≤ R.slots) :
    vx_Run p l e R s m args below meth c H locs cells slots mc ms g rest (Qc (Value.ref b :: As).toArray) XC free := by
  have hK : vx_Back l R p e below s args y 3 8 (PreOf R mc ms Pc) (PostOf Qc mc ms free) (vx_Post XC mc ms free) := vx_callBack cw.1 hM hp.1
  obtain ⟨⟨-, -, -, -, -, -, hcode, -, hy, hlen, hl⟩, hin, hse⟩ := cw
  obtain ⟨hx, hb, hml, ho, -⟩ := S
  obtain ⟨-, ⟨cellB, hcB, hoB, hclB⟩, hPc⟩ := hp
  intro T hT X
  rcases vx_callV X hx (C := C) (bytes := bytes) (maxL := maxL) (ret := ret) ho hl hin hse hcode hy hK (by rw [hT]; exact hcB) hoB hclB hg (hsize.trans hml.symm) (argsL := As) (rest := rest) (fun sig h => hn.trans (hlen sig h)) hstack hW (by rw [hb]; exact hdg)
    (fun vm₁ hW₁ => ⟨hf.1, hf.2, hPc (T.setVm vm₁) hT hW₁⟩) with ⟨v, vm₁, ⟨U', l2, c2, s2⟩, hW₁, X', ⟨g', mk, t, L, e1, e2, hq, h1, hL, h2, h3⟩, st⟩ | ⟨q, vm₁, ⟨U', l2, c2, s2⟩, hW₁, X', ⟨g', mk, t, L, E, ce, e1, e2, hq, hce, hcv, hcl, h1, hL, h2, h3⟩, st⟩
  · dsimp only [Pt.U, Pt.locs, Pt.cells, Pt.slots] at X' e1 e2 h1 h2 h3 st
    subst h1; subst h2; subst h3
    exact Or.inl ⟨v, (T.setVm vm₁).calling g' mk (Value.ref b :: As).toArray, t, U', L, hT, X', hL, e1, e2, hq, st⟩
  · dsimp only [Pt.U, Pt.locs, Pt.cells, Pt.slots] at X' e1 e2 h1 h2 h3 st hcl
    subst h1; subst h2; subst h3
    exact Or.inr ⟨q, (T.setVm vm₁).calling g' mk (Value.ref b :: As).toArray, t, U', L, E, ce, hT, X', hL, e1, e2, hq, hce, hcv, vx_cls hW₁ hcl, st⟩
theorem vx_runS (S : CallFix p m c cc nL s args Ts own) (hM : vx_Met l y ws rm Pc Qc XC mc ms free) (cw : CallB R s args own index y bytes maxL ret ws rm mc ms n ∧ (Cond.static y).before args s = true) (hp : PreS s H Pc As)
    (hg : g.method = m) (hn : As.length = n) (hsize : g.locals.size = nL) (hstack : g.stack = As.reverse ++ rest) (hW : 2 * g.monitorRoom + (rest.map fun v => v.category).sum ≤ 8) (hdg : decode cc g.pc = .ok (.invokestatic index, 3)) (hf : cells + mc ≤ R.cells ∧ slots + ms ≤ R.slots) :
    vx_Run p l e R s m args below meth c H locs cells slots mc ms g rest (Qc As.toArray) XC free := by
  have hK : vx_Back l R p e below s args y 3 8 (PreOf R mc ms Pc) (PostOf Qc mc ms free) (vx_Post XC mc ms free) := vx_callBack cw.1 hM hp.1
  obtain ⟨⟨-, -, -, -, -, -, hcode, hini, hy, hlen, hl⟩, hstt⟩ := cw
  obtain ⟨hx, hb, hml, ho, -⟩ := S
  intro T hT X
  rcases vx_callS X hx (bytes := bytes) (maxL := maxL) (ret := ret) ho hl hstt hini hcode hy hK hg (hsize.trans hml.symm) (argsL := As) (rest := rest) (fun sig h => hn.trans (hlen sig h)) hstack hW (by rw [hb]; exact hdg)
    (fun vm₁ hW₁ => ⟨hf.1, hf.2, hp.2 (T.setVm vm₁) hT hW₁⟩) with ⟨v, vm₁, ⟨U', l2, c2, s2⟩, hW₁, X', ⟨g', mk, t, L, e1, e2, hq, h1, hL, h2, h3⟩, st⟩ | ⟨q, vm₁, ⟨U', l2, c2, s2⟩, hW₁, X', ⟨g', mk, t, L, E, ce, e1, e2, hq, hce, hcv, hcl, h1, hL, h2, h3⟩, st⟩
  · dsimp only [Pt.U, Pt.locs, Pt.cells, Pt.slots] at X' e1 e2 h1 h2 h3 st
    subst h1; subst h2; subst h3
    exact Or.inl ⟨v, (T.setVm vm₁).calling g' mk As.toArray, t, U', L, hT, X', hL, e1, e2, hq, st⟩
  · dsimp only [Pt.U, Pt.locs, Pt.cells, Pt.slots] at X' e1 e2 h1 h2 h3 st hcl
    subst h1; subst h2; subst h3
    exact Or.inr ⟨q, (T.setVm vm₁).calling g' mk As.toArray, t, U', L, E, ce, hT, X', hL, e1, e2, hq, hce, hcv, vx_cls hW₁ hcl, st⟩
end Runs
section Rows
variable {p : Program} {l : Launch} {e : Env} {R : Room} {s : State} {m : MethodId} {args : Array Value} {below : List Frame} {meth : Method} {c : Code} {H : Heap} {locs : List Loc} {cells slots : Nat} {Q : State → Prop}
variable {mc ms : Nat} {free : Addr → Prop} {A0 A1 : Nat → Prop} {H0 : Heap} {a : Array Value} {pc : Nat} {ls : Array Slot} {st0 rest : List Value}
theorem vx_keep {st₀ t T' : State} {L : List Loc} (h0 : st₀.heap = H) (e1 : T'.heap = t.heap) (hS : va_S A0 H0 H locs) (hA : ∀ q, q < H.size → A1 q → A0 q) (hf : ∀ q, free q → A0 q) (hL : ∀ q ∈ L, free q.base) (hF : va_F A1 st₀ t) :
    H.size ≤ T'.heap.size ∧ (∀ q : Nat, q < H.size → ¬ A1 q → T'.heap[q]? = H[q]?) ∧ va_S A0 H0 T'.heap (locs ++ L) := by
  obtain ⟨hz, hk⟩ := hF
  rw [h0] at hz hk
  exact ⟨by rw [e1]; exact hz, fun q h1 h2 => by rw [e1]; exact hk q h1 h2,
    ⟨Nat.le_trans hS.1 (by rw [e1]; exact hz), fun q h1 h2 => by rw [e1, hk q (Nat.lt_of_lt_of_le h1 hS.1) (fun z => h2 (hA q (Nat.lt_of_lt_of_le h1 hS.1) z))]; exact hS.2.1 q h1 h2, fun q hq => by
      rcases List.mem_append.mp hq with h | h
      · exact hS.2.2 q h
      · exact hf _ (hL q h)⟩⟩
theorem vx_calli {S SX : Type} {post : Int32 → S → Prop} {px : SX → Prop} {B : S → State → Prop} {BX : String → SX → State → Prop} {AX : Nat → Prop} (hr : vx_Run p l e R s m args below meth c H locs cells slots mc ms (F0 m pc ls st0) rest (va_Qi post B A1 a) (vx_X px BX AX) free) (hS : va_S A0 H0 H locs) (hA : ∀ q, q < H.size → A1 q → A0 q) (hf : ∀ q, free q → A0 q) (hAX : ∀ q, q < H.size → AX q → A0 q)
    (kx : ∀ (E : String) (ce : Cell) (q9 : Addr) (u : SX) (t : State) (H1 : Heap) (locs1 : List Loc), t.heap = H1 → s.vm.Alike t.vm → px u → BX E u t → H.size ≤ H1.size → (∀ q : Nat, q < H.size → ¬ AX q → H1[q]? = H[q]?) → va_S A0 H0 H1 locs1 → H1[q9]? = some ce → ce.vm = .none → s.vm.findClass E = some ce.cls → vx_W p l e R s m args below meth c H1 locs1 (cells + mc) (slots + ms) Q (F0 m pc ls rest) q9)
    (kk : ∀ (r : Int32) (u : S) (t : State) (H1 : Heap) (locs1 : List Loc), t.heap = H1 → s.vm.Alike t.vm → post r u → B u t → H.size ≤ H1.size → (∀ q : Nat, q < H.size → ¬ A1 q → H1[q]? = H[q]?) → va_S A0 H0 H1 locs1 → W p l e R s m args below meth c H1 locs1 (cells + mc) (slots + ms) Q (F0 m (pc + 3) ls (.int r :: rest))) : W p l e R s m args below meth c H locs cells slots Q (F0 m pc ls st0) := by
  intro T hT X
  rcases hr T hT X with ⟨v, st₀, t, T', L, h0, X', hL, e1, e2, ⟨⟨r, u, hv, hp, hb⟩, hF⟩, st⟩ | ⟨q, st₀, t, T', L, E, ce, h0, X', hL, e1, e2, ⟨u, hp, hb, hF⟩, hce, hcv, hcl, st⟩
  · cases hv
    obtain ⟨k1, k2, k3⟩ := vx_keep h0 e1 hS hA hf hL hF
    obtain ⟨t2, a1, b1⟩ := kk r u t T'.heap (locs ++ L) e1.symm (by rw [← e2]; exact X'.warmed.alike) hp hb k1 k2 k3 T' rfl X'
    exact ⟨t2, st t2 a1, b1⟩
  · obtain ⟨k1, k2, k3⟩ := vx_keep h0 e1 hS hAX hf hL hF
    obtain ⟨t2, a1, b1⟩ := kx E ce q u t T'.heap (locs ++ L) e1.symm (by rw [← e2]; exact X'.warmed.alike) hp hb k1 k2 k3 (by rw [e1]; exact hce) hcv hcl T' rfl X'
    exact ⟨t2, st.trans a1, b1⟩
theorem vx_calll {S SX : Type} {post : Int64 → S → Prop} {px : SX → Prop} {B : S → State → Prop} {BX : String → SX → State → Prop} {AX : Nat → Prop} (hr : vx_Run p l e R s m args below meth c H locs cells slots mc ms (F0 m pc ls st0) rest (va_Ql post B A1 a) (vx_X px BX AX) free) (hS : va_S A0 H0 H locs) (hA : ∀ q, q < H.size → A1 q → A0 q) (hf : ∀ q, free q → A0 q) (hAX : ∀ q, q < H.size → AX q → A0 q)
    (kx : ∀ (E : String) (ce : Cell) (q9 : Addr) (u : SX) (t : State) (H1 : Heap) (locs1 : List Loc), t.heap = H1 → s.vm.Alike t.vm → px u → BX E u t → H.size ≤ H1.size → (∀ q : Nat, q < H.size → ¬ AX q → H1[q]? = H[q]?) → va_S A0 H0 H1 locs1 → H1[q9]? = some ce → ce.vm = .none → s.vm.findClass E = some ce.cls → vx_W p l e R s m args below meth c H1 locs1 (cells + mc) (slots + ms) Q (F0 m pc ls rest) q9)
    (kk : ∀ (r : Int64) (u : S) (t : State) (H1 : Heap) (locs1 : List Loc), t.heap = H1 → s.vm.Alike t.vm → post r u → B u t → H.size ≤ H1.size → (∀ q : Nat, q < H.size → ¬ A1 q → H1[q]? = H[q]?) → va_S A0 H0 H1 locs1 → W p l e R s m args below meth c H1 locs1 (cells + mc) (slots + ms) Q (F0 m (pc + 3) ls (.long r :: rest))) : W p l e R s m args below meth c H locs cells slots Q (F0 m pc ls st0) := by
  intro T hT X
  rcases hr T hT X with ⟨v, st₀, t, T', L, h0, X', hL, e1, e2, ⟨⟨r, u, hv, hp, hb⟩, hF⟩, st⟩ | ⟨q, st₀, t, T', L, E, ce, h0, X', hL, e1, e2, ⟨u, hp, hb, hF⟩, hce, hcv, hcl, st⟩
  · cases hv
    obtain ⟨k1, k2, k3⟩ := vx_keep h0 e1 hS hA hf hL hF
    obtain ⟨t2, a1, b1⟩ := kk r u t T'.heap (locs ++ L) e1.symm (by rw [← e2]; exact X'.warmed.alike) hp hb k1 k2 k3 T' rfl X'
    exact ⟨t2, st t2 a1, b1⟩
  · obtain ⟨k1, k2, k3⟩ := vx_keep h0 e1 hS hAX hf hL hF
    obtain ⟨t2, a1, b1⟩ := kx E ce q u t T'.heap (locs ++ L) e1.symm (by rw [← e2]; exact X'.warmed.alike) hp hb k1 k2 k3 (by rw [e1]; exact hce) hcv hcl T' rfl X'
    exact ⟨t2, st.trans a1, b1⟩
theorem vx_callf {S SX : Type} {post : UInt32 → S → Prop} {px : SX → Prop} {B : S → State → Prop} {BX : String → SX → State → Prop} {AX : Nat → Prop} (hr : vx_Run p l e R s m args below meth c H locs cells slots mc ms (F0 m pc ls st0) rest (va_Qf post B A1 a) (vx_X px BX AX) free) (hS : va_S A0 H0 H locs) (hA : ∀ q, q < H.size → A1 q → A0 q) (hf : ∀ q, free q → A0 q) (hAX : ∀ q, q < H.size → AX q → A0 q)
    (kx : ∀ (E : String) (ce : Cell) (q9 : Addr) (u : SX) (t : State) (H1 : Heap) (locs1 : List Loc), t.heap = H1 → s.vm.Alike t.vm → px u → BX E u t → H.size ≤ H1.size → (∀ q : Nat, q < H.size → ¬ AX q → H1[q]? = H[q]?) → va_S A0 H0 H1 locs1 → H1[q9]? = some ce → ce.vm = .none → s.vm.findClass E = some ce.cls → vx_W p l e R s m args below meth c H1 locs1 (cells + mc) (slots + ms) Q (F0 m pc ls rest) q9)
    (kk : ∀ (r : UInt32) (u : S) (t : State) (H1 : Heap) (locs1 : List Loc), t.heap = H1 → s.vm.Alike t.vm → post r u → B u t → H.size ≤ H1.size → (∀ q : Nat, q < H.size → ¬ A1 q → H1[q]? = H[q]?) → va_S A0 H0 H1 locs1 → W p l e R s m args below meth c H1 locs1 (cells + mc) (slots + ms) Q (F0 m (pc + 3) ls (.float r :: rest))) : W p l e R s m args below meth c H locs cells slots Q (F0 m pc ls st0) := by
  intro T hT X
  rcases hr T hT X with ⟨v, st₀, t, T', L, h0, X', hL, e1, e2, ⟨⟨r, u, hv, hp, hb⟩, hF⟩, st⟩ | ⟨q, st₀, t, T', L, E, ce, h0, X', hL, e1, e2, ⟨u, hp, hb, hF⟩, hce, hcv, hcl, st⟩
  · cases hv
    obtain ⟨k1, k2, k3⟩ := vx_keep h0 e1 hS hA hf hL hF
    obtain ⟨t2, a1, b1⟩ := kk r u t T'.heap (locs ++ L) e1.symm (by rw [← e2]; exact X'.warmed.alike) hp hb k1 k2 k3 T' rfl X'
    exact ⟨t2, st t2 a1, b1⟩
  · obtain ⟨k1, k2, k3⟩ := vx_keep h0 e1 hS hAX hf hL hF
    obtain ⟨t2, a1, b1⟩ := kx E ce q u t T'.heap (locs ++ L) e1.symm (by rw [← e2]; exact X'.warmed.alike) hp hb k1 k2 k3 (by rw [e1]; exact hce) hcv hcl T' rfl X'
    exact ⟨t2, st.trans a1, b1⟩
theorem vx_calld {S SX : Type} {post : UInt64 → S → Prop} {px : SX → Prop} {B : S → State → Prop} {BX : String → SX → State → Prop} {AX : Nat → Prop} (hr : vx_Run p l e R s m args below meth c H locs cells slots mc ms (F0 m pc ls st0) rest (va_Qd post B A1 a) (vx_X px BX AX) free) (hS : va_S A0 H0 H locs) (hA : ∀ q, q < H.size → A1 q → A0 q) (hf : ∀ q, free q → A0 q) (hAX : ∀ q, q < H.size → AX q → A0 q)
    (kx : ∀ (E : String) (ce : Cell) (q9 : Addr) (u : SX) (t : State) (H1 : Heap) (locs1 : List Loc), t.heap = H1 → s.vm.Alike t.vm → px u → BX E u t → H.size ≤ H1.size → (∀ q : Nat, q < H.size → ¬ AX q → H1[q]? = H[q]?) → va_S A0 H0 H1 locs1 → H1[q9]? = some ce → ce.vm = .none → s.vm.findClass E = some ce.cls → vx_W p l e R s m args below meth c H1 locs1 (cells + mc) (slots + ms) Q (F0 m pc ls rest) q9)
    (kk : ∀ (r : UInt64) (u : S) (t : State) (H1 : Heap) (locs1 : List Loc), t.heap = H1 → s.vm.Alike t.vm → post r u → B u t → H.size ≤ H1.size → (∀ q : Nat, q < H.size → ¬ A1 q → H1[q]? = H[q]?) → va_S A0 H0 H1 locs1 → W p l e R s m args below meth c H1 locs1 (cells + mc) (slots + ms) Q (F0 m (pc + 3) ls (.double r :: rest))) : W p l e R s m args below meth c H locs cells slots Q (F0 m pc ls st0) := by
  intro T hT X
  rcases hr T hT X with ⟨v, st₀, t, T', L, h0, X', hL, e1, e2, ⟨⟨r, u, hv, hp, hb⟩, hF⟩, st⟩ | ⟨q, st₀, t, T', L, E, ce, h0, X', hL, e1, e2, ⟨u, hp, hb, hF⟩, hce, hcv, hcl, st⟩
  · cases hv
    obtain ⟨k1, k2, k3⟩ := vx_keep h0 e1 hS hA hf hL hF
    obtain ⟨t2, a1, b1⟩ := kk r u t T'.heap (locs ++ L) e1.symm (by rw [← e2]; exact X'.warmed.alike) hp hb k1 k2 k3 T' rfl X'
    exact ⟨t2, st t2 a1, b1⟩
  · obtain ⟨k1, k2, k3⟩ := vx_keep h0 e1 hS hAX hf hL hF
    obtain ⟨t2, a1, b1⟩ := kx E ce q u t T'.heap (locs ++ L) e1.symm (by rw [← e2]; exact X'.warmed.alike) hp hb k1 k2 k3 (by rw [e1]; exact hce) hcv hcl T' rfl X'
    exact ⟨t2, st.trans a1, b1⟩
theorem vx_callv {S SX : Type} {post : S → Prop} {px : SX → Prop} {B : S → State → Prop} {BX : String → SX → State → Prop} {AX : Nat → Prop} (hr : vx_Run p l e R s m args below meth c H locs cells slots mc ms (F0 m pc ls st0) rest (va_Qv post B A1 a) (vx_X px BX AX) free) (hS : va_S A0 H0 H locs) (hA : ∀ q, q < H.size → A1 q → A0 q) (hf : ∀ q, free q → A0 q) (hAX : ∀ q, q < H.size → AX q → A0 q)
    (kx : ∀ (E : String) (ce : Cell) (q9 : Addr) (u : SX) (t : State) (H1 : Heap) (locs1 : List Loc), t.heap = H1 → s.vm.Alike t.vm → px u → BX E u t → H.size ≤ H1.size → (∀ q : Nat, q < H.size → ¬ AX q → H1[q]? = H[q]?) → va_S A0 H0 H1 locs1 → H1[q9]? = some ce → ce.vm = .none → s.vm.findClass E = some ce.cls → vx_W p l e R s m args below meth c H1 locs1 (cells + mc) (slots + ms) Q (F0 m pc ls rest) q9)
    (kk : ∀ (u : S) (t : State) (H1 : Heap) (locs1 : List Loc), t.heap = H1 → s.vm.Alike t.vm → post u → B u t → H.size ≤ H1.size → (∀ q : Nat, q < H.size → ¬ A1 q → H1[q]? = H[q]?) → va_S A0 H0 H1 locs1 → W p l e R s m args below meth c H1 locs1 (cells + mc) (slots + ms) Q (F0 m (pc + 3) ls (rest))) : W p l e R s m args below meth c H locs cells slots Q (F0 m pc ls st0) := by
  intro T hT X
  rcases hr T hT X with ⟨v, st₀, t, T', L, h0, X', hL, e1, e2, ⟨⟨u, hv, hp, hb⟩, hF⟩, st⟩ | ⟨q, st₀, t, T', L, E, ce, h0, X', hL, e1, e2, ⟨u, hp, hb, hF⟩, hce, hcv, hcl, st⟩
  · cases hv
    obtain ⟨k1, k2, k3⟩ := vx_keep h0 e1 hS hA hf hL hF
    obtain ⟨t2, a1, b1⟩ := kk u t T'.heap (locs ++ L) e1.symm (by rw [← e2]; exact X'.warmed.alike) hp hb k1 k2 k3 T' rfl X'
    exact ⟨t2, st t2 a1, b1⟩
  · obtain ⟨k1, k2, k3⟩ := vx_keep h0 e1 hS hAX hf hL hF
    obtain ⟨t2, a1, b1⟩ := kx E ce q u t T'.heap (locs ++ L) e1.symm (by rw [← e2]; exact X'.warmed.alike) hp hb k1 k2 k3 (by rw [e1]; exact hce) hcv hcl T' rfl X'
    exact ⟨t2, st.trans a1, b1⟩
/-- caught by the row x of this method's table; the rows ahead don't take it -/
theorem vx_catch {own name : String} {E : String} {ce : Cell} {q : Addr} (hown : s.vm.findClass own = some m.cls) (pre : List ExceptionTableEntry) (x : ExceptionTableEntry) (suf : List ExceptionTableEntry) (hsplit : c.exceptionTable.toList = pre ++ x :: suf)
    (hpass : ∀ z ∈ pre, covers z pc = false ∨ (z.catchType ≠ 0 ∧ ∃ nm : String, (Cond.classLink own z.catchType nm).before args s = true ∧ va_Nc E nm s)) (hx : covers x pc = true) (h0 : x.catchType ≠ 0)
    (hlink : (Cond.classLink own x.catchType name).before args s = true) (hcast : (Cond.castable E name).before args s = true) (hcell : H[q]? = some ce) (hv : ce.vm = .none) (hcl : s.vm.findClass E = some ce.cls)
    (kk : W p l e R s m args below meth c H locs cells slots Q (F0 m x.handlerPc ls [.ref q])) : vx_W p l e R s m args below meth c H locs cells slots Q (F0 m pc ls rest) q := by
  intro T hT X
  have hpl : e.platform.magicAccessors = ({} : Platform).magicAccessors := by rw [X.admits.platform]
  obtain ⟨c3, c4, hc3, hc4, hasg⟩ := Cond.castable_spec hcast
  cases Option.some.inj (hc3.symm.trans hcl)
  obtain ⟨c5, hc5, hcl5⟩ := Cond.classLink_spec hown hlink e.platform hpl
  cases Option.some.inj (hc4.symm.trans hc5)
  obtain ⟨vm', X', st⟩ := X.thenCaughtThrough q (g := F0 m pc ls rest) rfl (Steps.refl _) (by rw [hT]; exact hcell) (by rw [hv]; rfl) (by obtain ⟨k9, h9, -⟩ := Vm.findClass_spec hcl; exact ⟨k9, h9⟩) pre x suf hsplit
    (fun z hz => by
      rcases hpass z hz with h | ⟨hz0, nm, hl1, hn1⟩
      · exact Or.inl h
      · obtain ⟨c6, hc6, hcl6⟩ := Cond.classLink_spec hown hl1 e.platform hpl
        obtain ⟨a8, b8, h1, h2, h3⟩ := hn1
        cases Option.some.inj (h1.symm.trans hcl)
        cases Option.some.inj (h2.symm.trans hc6)
        exact Or.inr ⟨hz0, _, hcl6, h3⟩) hx (Or.inr ⟨h0, c4, hcl5, hasg⟩)
  obtain ⟨t, a1, b1⟩ := kk (T.setVm vm') hT X'
  exact ⟨t, st.trans a1, b1⟩
end Rows
section Ends
variable {p : Program} {l : Launch} {e : Env} {R : Room} {s : State} {m : MethodId} {args : Array Value} {below : List Frame} {meth : Method} {c : Code} {H : Heap} {locs : List Loc} {cells slots : Nat} {Q : State → Prop}
variable {mc ms : Nat} {free : Addr → Prop} {A0 A1 : Nat → Prop} {H0 : Heap} {a : Array Value} {ls : Array Slot} {st0 rest : List Value}
variable {Qc : Array Value → State → Outcome → State → Prop} {XC : String → State → State → Prop}
/-- what a body that may throw owes at its end -/
def vx_MQ (below : List Frame) (Qc : Array Value → State → Outcome → State → Prop) (XC : String → State → State → Prop) (a : Array Value) (s : State) (mc ms : Nat) (free : Addr → Prop) : State → Prop := fun t =>
  ∃ o, t.status = .running ∧ Ended t below o ∧ vx_Q Qc XC mc ms free a s o t
theorem vx_ret {g : JFrame} {mc ms : Nat} (k : W p l e R s m args below meth c H locs cells slots (MQ below Qc args s mc ms free) g) : W p l e R s m args below meth c H locs cells slots (vx_MQ below Qc XC args s mc ms free) g := by
  intro T hT X
  obtain ⟨t, a1, o, b1, b2, b3, b4⟩ := k T hT X
  exact ⟨t, a1, o, b1, b2, Or.inl ⟨b3, b4⟩⟩
/-- not caught here: it goes on to the caller -/
theorem vx_widen {g : JFrame} {q : Addr} {k n : Nat} (h1 : cells ≤ k) (h2 : slots ≤ n) (kk : vx_W p l e R s m args below meth c H locs k n Q g q) : vx_W p l e R s m args below meth c H locs cells slots Q g q := fun T hT X => kk T hT (stand_widen X h1 h2)
theorem vx_out {pc : Nat} {E : String} {ce : Cell} {q : Addr} {mc ms : Nat} (hout : ∀ x ∈ c.exceptionTable.toList, covers x pc = false) (hlocks : meth.locks = false) (hcell : H[q]? = some ce) (hv : ce.vm = .none) (hcl : s.vm.findClass E = some ce.cls)
    (hx : ∀ t : State, t.heap = H → s.vm.Alike t.vm → XC E s t) (hf : ∀ z ∈ locs, free z.base) (hc : cells ≤ mc) (hs : slots ≤ ms) :
    vx_W p l e R s m args below meth c H locs cells slots (vx_MQ below Qc XC args s mc ms free) (F0 m pc ls rest) q := by
  intro T hT X
  obtain ⟨st1, hrun, hend, hW, hsm⟩ := X.leaveThrown q (g := F0 m pc ls rest) rfl rfl rfl hout hlocks
  have hcell9 : (T.setFrames (.throwing q :: below)).heap[q]? = some ce := by
    show T.heap[q]? = some ce
    rw [hT]; exact hcell
  exact ⟨_, st1, .threw q, hrun, hend, Or.inr ⟨q, rfl, E, ce, locs, hx _ hT hW.alike, hcell9, hv, hcl, hW, hsm.mono hc hs, hf⟩⟩
theorem vx_frame {U : State} {k n : Nat} (h : s.sameButNew ({ U with vm := s.vm } : State) locs k n) : s.heap.size ≤ U.heap.size ∧ ∀ q : Nat, q < s.heap.size → (∀ z ∈ locs, z.base ≠ q) → U.heap[q]? = s.heap[q]? := by
  obtain ⟨-, h2, -, -, -, h6⟩ := h
  refine ⟨h2, fun q hq hz => ?_⟩
  obtain ⟨c9, e1, e2, e3, e4⟩ := h6 q _ (Array.getElem?_eq_getElem hq)
  have hs : c9.slots = (s.heap[q]).slots := Array.ext_getElem? fun i => e4 i fun hm => hz _ hm rfl
  have h9 : c9 = s.heap[q] := by
    rw [hs] at e2
    exact e2
  have e5 : U.heap[q]? = some c9 := e1
  rw [e5, h9, Array.getElem?_eq_getElem hq]
/-- the words of a throw but the four that speak of the heap -/
def vx_no (w : Cond) : Bool := decide (w ≠ .isRef (.static Bundle.tN "UNASSIGNED_STACK" Bundle.steD)) && decide (w ≠ .isRef (.static Bundle.tN "SUPPRESSED_SENTINEL" Bundle.listD)) && decide (w ≠ .laysStatic Bundle.tN "UNASSIGNED_STACK" Bundle.steD) && decide (w ≠ .laysStatic Bundle.tN "SUPPRESSED_SENTINEL" Bundle.listD)
def vx_at0 (own : String) (ic : Nat) (X : String) (names : List String) : List Cond := (Bundle.ownAtoms0 own ic X names).filter vx_no
def vx_atS (own : String) (ic : Nat) (X : String) (names : List String) : List Cond := (Bundle.ownAtoms own ic X names).filter vx_no
/-- a word that the tables alone decide, or a good one -/
def vx_ot (w : Cond) : Bool := w.onTables || goodWord w
theorem vx_ot_at {args a' : Array Value} {s U : State} {w : Cond} (hW : s.WarmedH U.vm) (hvm : s.vm = U.vm) (hg : vx_ot w = true) (h : w.before args s = true) : w.before a' U = true := by
  simp only [vx_ot, Bool.or_eq_true] at hg
  rcases hg with hg | hg
  · exact va_tabs hg hvm h
  · exact word_at hW (good_of_word hg) h
/-- a list's words: the good ones out of the method's own list, the others by premises of their own -/
theorem vx_hat {args : Array Value} {s : State} {L B : List Cond} (h1 : ∀ w ∈ L.filter goodWord, w.before args s = true) (h2 : ∀ w ∈ L.filter (fun w => !goodWord w), w ∈ B) (h3 : ∀ w ∈ B, w.before args s = true) : ∀ w ∈ L, w.before args s = true := by
  intro w hw
  by_cases g : goodWord w = true
  · exact h1 w (List.mem_filter.mpr ⟨hw, g⟩)
  · refine h3 w (h2 w (List.mem_filter.mpr ⟨hw, ?_⟩))
    show (!goodWord w) = true
    cases hgw : goodWord w
    · rfl
    · exact absurd hgw g
theorem vx_c {args : Array Value} {s : State} {w : Cond} {B : List Cond} (h : w.before args s = true) (t : ∀ w ∈ B, w.before args s = true) : ∀ w' ∈ w :: B, w'.before args s = true := fun w' h' => (List.mem_cons.mp h').elim (fun e => by rw [e]; exact h) (t w')
theorem vx_n {args : Array Value} {s : State} : ∀ w ∈ ([] : List Cond), w.before args s = true := fun _ h => nomatch h
theorem vx_own {args : Array Value} {s : State} {L : List Cond} (h1 : ∀ w ∈ L.filter vx_no, w.before args s = true)
    (hU : (Cond.isRef (.static Bundle.tN "UNASSIGNED_STACK" Bundle.steD)).before args s = true) (hN : (Cond.isRef (.static Bundle.tN "SUPPRESSED_SENTINEL" Bundle.listD)).before args s = true)
    (lU : (Cond.laysStatic Bundle.tN "UNASSIGNED_STACK" Bundle.steD).before args s = true) (lN : (Cond.laysStatic Bundle.tN "SUPPRESSED_SENTINEL" Bundle.listD).before args s = true) : ∀ w ∈ L, w.before args s = true := by
  intro w hw
  by_cases e1 : w = .isRef (.static Bundle.tN "UNASSIGNED_STACK" Bundle.steD)
  · rw [e1]; exact hU
  · by_cases e2 : w = .isRef (.static Bundle.tN "SUPPRESSED_SENTINEL" Bundle.listD)
    · rw [e2]; exact hN
    · by_cases e3 : w = .laysStatic Bundle.tN "UNASSIGNED_STACK" Bundle.steD
      · rw [e3]; exact lU
      · by_cases e4 : w = .laysStatic Bundle.tN "SUPPRESSED_SENTINEL" Bundle.listD
        · rw [e4]; exact lN
        · exact h1 w (List.mem_filter.mpr ⟨hw, by unfold vx_no; rw [decide_eq_true e1, decide_eq_true e2, decide_eq_true e3, decide_eq_true e4]; rfl⟩)
/-- where a static field lies, its class's statics cell in H -/
def vx_L (C n d : String) (A : Nat → Prop) (U : State) (H : Heap) : Prop := ∃ (c : ClassId) (k : Class) (i : Nat) (f : Field) (a : Nat) (cell : Cell), U.vm.findClass C = some c ∧ U.fieldFound? C n d = some (c, k, i, f) ∧ f.isStatic = true ∧ k.statics = some a ∧ H[a]? = some cell ∧ cell.vm.isStatics = true ∧ cell.cls = c ∧ f.slot < cell.slots.size ∧ k.staticTypes[f.slot]? = some f.type ∧ ¬ A a
theorem vx_L.moved {C n d : String} {A : Nat → Prop} {u U : State} {H : Heap} (hvm : u.vm.Alike U.vm) (h : vx_L C n d A u H) : vx_L C n d A U H := by
  obtain ⟨c, k, i, f, a, cell, h1, h2, h3, h4, h5, h6, h7, h8, h9, h10⟩ := h
  obtain ⟨k', hi', he⟩ := State.fieldFound?_setVm hvm h2
  exact ⟨c, k', i, f, a, cell, by rw [hvm.findClass]; exact h1, hi', h3, by rw [he]; exact h4, h5, h6, h7, h8, by rw [he]; exact h9, h10⟩
theorem vx_L.kept {C n d : String} {A : Nat → Prop} {U : State} {H H1 : Heap} (h : vx_L C n d A U H) (hq : ∀ a : Nat, a < H.size → ¬ A a → H1[a]? = H[a]?) : vx_L C n d A U H1 := by
  obtain ⟨c, k, i, f, a, cell, h1, h2, h3, h4, h5, h6, h7, h8, h9, h10⟩ := h
  exact ⟨c, k, i, f, a, cell, h1, h2, h3, h4, by rw [hq a (Array.getElem?_eq_some_iff.mp h5).1 h10]; exact h5, h6, h7, h8, h9, h10⟩
theorem vx_L.narrow {C n d : String} {A B : Nat → Prop} {U : State} {H : Heap} (h : vx_L C n d A U H) (hAB : ∀ q, B q → A q) : vx_L C n d B U H := by
  obtain ⟨c, k, i, f, a, cell, h1, h2, h3, h4, h5, h6, h7, h8, h9, h10⟩ := h
  exact ⟨c, k, i, f, a, cell, h1, h2, h3, h4, h5, h6, h7, h8, h9, fun z => h10 (hAB _ z)⟩
theorem vx_L.word {C n d : String} {A : Nat → Prop} {s : State} {args : Array Value} (h : vx_L C n d A s s.heap) : (Cond.laysStatic C n d).before args s = true := by
  obtain ⟨c, k, i, f, a, cell, h1, h2, h3, h4, h5, h6, h7, h8, h9, -⟩ := h
  show (Cond.laysStatic C n d).holds args s none s [] = true
  exact Cond.laysStatic_of h1 h2 h3 h4 h5 h6 h7 h8 h9
/-- .. and what it holds: null or some reference -/
def vx_Zq (C n d : String) (A : Nat → Prop) (U : State) (H : Heap) : Prop := va_Zq C n d A U H ∧ vx_L C n d A U H
theorem vx_Zq.moved {C n d : String} {A : Nat → Prop} {u U : State} {H : Heap} (hvm : u.vm.Alike U.vm) (h : vx_Zq C n d A u H) : vx_Zq C n d A U H := ⟨va_Zq.moved hvm h.1, vx_L.moved hvm h.2⟩
theorem vx_Zq.kept {C n d : String} {A : Nat → Prop} {U : State} {H H1 : Heap} (h : vx_Zq C n d A U H) (hq : ∀ a : Nat, a < H.size → ¬ A a → H1[a]? = H[a]?) : vx_Zq C n d A U H1 := ⟨va_Zq.kept h.1 hq, vx_L.kept h.2 hq⟩
theorem vx_Zq.narrow {C n d : String} {A B : Nat → Prop} {U : State} {H : Heap} (h : vx_Zq C n d A U H) (hAB : ∀ q, B q → A q) : vx_Zq C n d B U H := ⟨va_Zq.narrow h.1 hAB, vx_L.narrow h.2 hAB⟩
theorem vx_Zqof {args : Array Value} {s : State} {C n d : String} {A : Nat → Prop} (hl : (Cond.laysStatic C n d).before args s = true) (hini : (Cond.initialized C).before args s = true) (h : (Cond.isRef (.static C n d)).before args s = true) (hA : ∀ a : Nat, a < s.heap.size → ¬ A a) : vx_Zq C n d A s s.heap := by
  refine ⟨va_Zqof hl hini h hA, ?_⟩
  obtain ⟨c, k, i, f, a, cell, h1, h2, h3, h4, h5, h6, h7, h8, h9⟩ := Cond.laysStatic_spec hl
  exact ⟨c, k, i, f, a, cell, h1, h2, h3, h4, h5, h6, h7, h8, h9, hA a (Array.getElem?_eq_some_iff.mp h5).1⟩
theorem vx_isRef {C n d : String} {v : Value} {A : Nat → Prop} {s : State} {args : Array Value} (h : va_Z C n d v A s s.heap) (hv : v.isRef = true) : (Cond.isRef (.static C n d)).before args s = true := by
  obtain ⟨cf, kf, fi, f, a, cell, h1, h2, h3, h4, h5, h6, h7, -⟩ := h
  have he : (Term.static C n d).eval args s none [] s = some v := by
    simp [Term.eval, State.fieldNamed?, h1, h2, h4, h5, h6, h7]
  simp only [Cond.before, Cond.holds, Cond.value, he]
  cases v <;> simp_all [Value.isRef]
theorem vx_isRefq {C n d : String} {A : Nat → Prop} {s : State} {args : Array Value} (h : va_Zq C n d A s s.heap) : (Cond.isRef (.static C n d)).before args s = true := by
  rcases h with h | ⟨t, h⟩
  · exact vx_isRef h rfl
  · exact vx_isRef h rfl
/-- the same frame, seen from here: as if the method were called anew in this heap -/
theorem vx_rebase {T : State} (X : Stand p l e R s m args below meth c T locs cells slots) {R' : Room} (hf : R'.frames ≤ R.frames) (hl : R'.locals ≤ R.locals) (hc : cells + R'.cells ≤ R.cells) (hs : slots + R'.slots ≤ R.slots) :
    Stand p l e R' ((T.setVm s.vm).setFrames (.invoking m args :: below)) m args below meth c T [] 0 0 := by
  have htop : (T.setVm s.vm).topJava?.isSome := X.here.top
  have hF : ((T.setVm s.vm).setFrames (.invoking m args :: below)).frames = .invoking m args :: below := State.frames_setFrames _ (State.cur_lt_of_top htop)
  obtain ⟨g₀, hg0⟩ := Option.isSome_iff_exists.mp htop
  obtain ⟨r, hr⟩ := State.topJava?_eq_some.mp hg0
  have hl9 : e.platform.stackLimits (T.setVm s.vm).me = e.platform.stackLimits s.me := X.limits
  have hb9 : (T.setVm s.vm).me.stackBytes = s.me.stackBytes := X.bytes
  refine ⟨X.admits, X.cas, X.clock, hF, ?_, X.hears, X.method, X.code, X.here, X.tail, X.warmed, ?_, ?_, ?_⟩
  · have h := X.room
    have hU : ((T.setVm s.vm).setFrames (.invoking m args :: below)).localsInUse = s.localsInUse := by
      rw [State.localsInUse_invoking hF (meth := meth) (c := c) X.method X.code, State.localsInUse_invoking X.frames X.method X.code]
    simp only [State.hasRoom, Bool.and_eq_true, decide_eq_true_eq] at h ⊢
    obtain ⟨⟨⟨⟨h1, h2, h3, h4, h5, h6⟩, h7⟩, h8⟩, h9⟩ := h
    rw [X.frames, List.length_cons] at h2 h3
    have q1 := X.heapSize
    have q2 := X.used
    simp only [hF, hU, List.length_cons, State.stackLimits_setFrames, State.stackBytes_setFrames, hl9, hb9]
    refine ⟨⟨⟨⟨by omega, by omega, by omega, by omega, by omega, h6⟩, ?_⟩, ?_⟩, X.book⟩
    · show T.heap.size + R'.cells ≤ e.platform.maxCells
      omega
    · show T.slotsUsed + R'.slots ≤ e.platform.maxSlots
      omega
  · rw [State.stackLimits_setFrames]; rfl
  · rw [State.stackBytes_setFrames]; rfl
  · refine ⟨?_, Nat.le_refl _, Nat.le_refl _, ?_, ?_, fun a c9 h9 => ⟨c9, h9, rfl, rfl, fun _ _ => rfl⟩⟩
    · obtain ⟨t, ht, -⟩ := State.frames_cons hr
      show T.setVm s.vm = { ((T.setVm s.vm).setFrames (.invoking m args :: below)).setFrames (T.setVm s.vm).frames with heap := T.heap, slotsUsed := T.slotsUsed }
      rw [State.setFrames_setFrames, State.setFrames_self ht]
      rfl
    · show T.slotsUsed = T.slotsUsed + ((T.heap.toList.drop T.heap.size).map (·.slots.size)).sum
      rw [List.drop_eq_nil_of_le (Nat.le_of_eq Array.length_toList)]
      rfl
    · show ((T.heap.toList.drop T.heap.size).map (·.slots.size)).sum ≤ 0
      rw [List.drop_eq_nil_of_le (Nat.le_of_eq Array.length_toList)]
      exact Nat.le_refl _
/-- 'throw new E()': new; dup; invokespecial; athrow -/
theorem vx_throw0 {cc : ByteArray} {pc : Nat} (hexec : p.tables.exec = Jvm.exec) (hb : c.code = cc) (hl : l.stackTraces = false) {own cls : String} {names : List String} {ik ic mc ms : Nat} {A : Nat → Prop}
    (hown : s.vm.findClass own = some m.cls) (hcls : Bundle.fit cls = true) (hnames : ∀ n ∈ names, Bundle.fit n = true)
    (hk : (Cond.classLink own ik cls).before args s = true) (hini : (Cond.initialized cls).before args s = true) (hat : ∀ w ∈ vx_at0 own ic cls names, w.before args s = true)
    (hgood : ∀ w ∈ Cond.classLink own ik cls :: Cond.initialized cls :: vx_at0 own ic cls names, vx_ot w = true)
    (hU : vx_Zq Bundle.tN "UNASSIGNED_STACK" Bundle.steD A s s.heap) (hN : vx_Zq Bundle.tN "SUPPRESSED_SENTINEL" Bundle.listD A s s.heap) (hS : va_S A s.heap H locs) (hsize : ls.size = c.maxLocals)
    (d0 : decode cc pc = .ok (.new ik, 3)) (d3 : decode cc (pc + 3) = .ok (.dup, 1)) (d4 : decode cc (pc + 4) = .ok (.invokespecial ic, 3)) (d7 : decode cc (pc + 7) = .ok (.athrow, 1))
    (hout : ∀ x ∈ c.exceptionTable.toList, covers x (pc + 7) = false)
    (hRframes : names.length + 3 < R.frames) (hRlocals : (rest.map fun v => v.category).sum + (13 * (names.length + 1) + 42) ≤ R.locals) (hRcells : cells + 1 ≤ R.cells) (hRslots : slots + 6 ≤ R.slots) (hlocks : meth.locks = false)
    (hx : ∀ t : State, s.vm.Alike t.vm → H.size ≤ t.heap.size → (∀ q : Nat, q < H.size → t.heap[q]? = H[q]?) → XC cls s t)
    (hf : ∀ z ∈ locs, free z.base) (hc : cells + 1 ≤ mc) (hs : slots + 6 ≤ ms) :
    W p l e R s m args below meth c H locs cells slots (vx_MQ below Qc XC args s mc ms free) (F0 m pc ls rest) := by
  intro T hT X
  have htr : e.platform.stackTraces = false := (show e.platform.stackTraces = l.stackTraces by rw [X.admits.platform]).trans hl
  have Y := vx_rebase X (R' := { frames := R.frames, locals := R.locals, cells := 1, slots := 6 }) (Nat.le_refl _) (Nat.le_refl _) hRcells hRslots
  obtain ⟨s', hA⟩ : ∃ z, z = (T.setVm s.vm).setFrames (.invoking m args :: below) := ⟨_, rfl⟩
  rw [← hA] at Y
  have hvm : s'.vm = s.vm := by rw [hA]; rfl
  have hhp : s'.heap = H := by rw [hA]; exact hT
  have hW0 : s.WarmedH s'.vm := by rw [hvm]; exact State.WarmedH.refl s
  have hat' : ∀ w ∈ vx_at0 own ic cls names, w.before args s' = true := fun w hw => vx_ot_at hW0 hvm.symm (hgood w (List.mem_cons_of_mem _ (List.mem_cons_of_mem _ hw))) (hat w hw)
  have hk' : (Cond.classLink own ik cls).before args s' = true := vx_ot_at hW0 hvm.symm (hgood _ List.mem_cons_self) hk
  have hini' : (Cond.initialized cls).before args s' = true := vx_ot_at hW0 hvm.symm (hgood _ (List.mem_cons_of_mem _ List.mem_cons_self)) hini
  have hU' : vx_Zq Bundle.tN "UNASSIGNED_STACK" Bundle.steD A s' s'.heap := by rw [hhp]; exact vx_Zq.moved hW0.alike (hU.kept hS.2.1)
  have hN' : vx_Zq Bundle.tN "SUPPRESSED_SENTINEL" Bundle.listD A s' s'.heap := by rw [hhp]; exact vx_Zq.moved hW0.alike (hN.kept hS.2.1)
  have h : ∀ w ∈ Bundle.ownAtoms0 own ic cls names, w.before args s' = true := vx_own hat' (vx_isRefq hU'.1) (vx_isRefq hN'.1) hU'.2.word hN'.2.word
  have hown' : s'.vm.findClass own = some m.cls := by rw [hvm]; exact hown
  have hins : (Cond.instantiable cls 6).before args s' = true := h _ (by simp [Bundle.ownAtoms0])
  obtain ⟨vm₁, cX, kX, hfX, hkX, -, -, X₁, st1⟩ := Y.newCold hexec (own := own) (C := cls) (index := ik) (n := 6) hown' hk' hins hini'
    (g := F0 m pc ls rest) rfl (by rw [hb]; exact d0) (Nat.le_refl _) (Nat.le_refl _)
  generalize hT1 : (T.setVm vm₁).pushCell { cls := cX, slots := kX.instanceTypes.map defaultValue, vm := .none } = T1 at X₁ st1
  have hcat : (Value.ref T.heap.size).category = 1 := rfl
  have hcellA : T1.heap[T.heap.size]? = some (freshCell cX kX) := by rw [← hT1]; exact State.heap_pushCell_size _ _
  have d3' : decode c.code (pc + 3) = .ok (.dup, 1) := by rw [hb]; exact d3
  obtain ⟨U, hsteps, hrun, hend, hW, hsame, ce, hce, hO⟩ := X₁.ctorThrow0 hexec htr (own := own) (cls := cls) (names := names) (ic := ic) hown' hcls hnames h (fun x hx => nomatch hx) hfX hkX hcellA (by rw [hhp, hT]; exact Nat.le_refl _)
    (g := { method := m, pc := pc + 4, locals := ls, stack := .ref T.heap.size :: .ref T.heap.size :: rest, locked := none }) rfl hsize rfl rfl (rest := rest) rfl
    (by rw [hb]; exact d4) (by rw [hb]; exact d7) hout hRframes (by simp only [List.map_cons, List.sum_cons, hcat]; omega) hlocks
  obtain ⟨f1, f2⟩ := vx_frame hsame
  rw [hhp] at f1 f2
  have hWs : s.WarmedH U.vm := State.WarmedH.trans hW0 hW
  have hcl : s.vm.findClass cls = some ce.cls := by
    have h9 := hO.cls
    rw [hvm] at h9
    exact h9
  have hall : s.sameButNew ({ U with vm := s.vm } : State) locs mc ms := by
    subst hA
    obtain ⟨e1, e2⟩ := hsame
    rw [State.setFrames_setFrames] at e1
    have h2 : (T.setVm s.vm).sameButNew ({ U with vm := s.vm } : State) [] (0 + 1) (0 + 6) := ⟨e1, e2⟩
    have h3 := X.same.trans h2
    rw [List.append_nil] at h3
    exact h3.mono hc hs
  refine ⟨U, ?_, .threw T.heap.size, hrun, hend, Or.inr ⟨T.heap.size, rfl, cls, ce, locs, hx U hWs.alike f1 (fun q hq => f2 q hq (fun z hz => nomatch hz)), hce, hO.vm, hcl, hWs, hall, hf⟩⟩
  refine st1 _ ?_
  show Steps p.tables e below (T1.setTop { method := m, pc := pc + 3, locals := ls, stack := .ref T.heap.size :: rest, locked := none }) _
  jvm_step X₁.here [X₁.here.top, hexec, d3', Value.category]
  exact hsteps
/-- 'throw new E("text")': new; dup; ldc; invokespecial; athrow -/
theorem vx_throwS {cc : ByteArray} {pc : Nat} (hexec : p.tables.exec = Jvm.exec) (hb : c.code = cc) (hl : l.stackTraces = false) {own cls text : String} {names : List String} {ik is ic mc ms sa : Nat} {A : Nat → Prop}
    (hown : s.vm.findClass own = some m.cls) (hcls : Bundle.fit cls = true) (hnames : ∀ n ∈ names, Bundle.fit n = true)
    (hk : (Cond.classLink own ik cls).before args s = true) (hini : (Cond.initialized cls).before args s = true) (hstr : vk_R own is text sa s) (hat : ∀ w ∈ vx_atS own ic cls names, w.before args s = true)
    (hgood : ∀ w ∈ Cond.classLink own ik cls :: Cond.initialized cls :: vx_atS own ic cls names, vx_ot w = true)
    (hU : vx_Zq Bundle.tN "UNASSIGNED_STACK" Bundle.steD A s s.heap) (hN : vx_Zq Bundle.tN "SUPPRESSED_SENTINEL" Bundle.listD A s s.heap) (hS : va_S A s.heap H locs) (hsize : ls.size = c.maxLocals)
    (d0 : decode cc pc = .ok (.new ik, 3)) (d3 : decode cc (pc + 3) = .ok (.dup, 1)) (d4 : decode cc (pc + 4) = .ok (.ldc is, 2)) (d6 : decode cc (pc + 6) = .ok (.invokespecial ic, 3)) (d9 : decode cc (pc + 9) = .ok (.athrow, 1))
    (hout : ∀ x ∈ c.exceptionTable.toList, covers x (pc + 9) = false)
    (hRframes : names.length + 3 < R.frames) (hRlocals : (rest.map fun v => v.category).sum + (13 * (names.length + 1) + 43) ≤ R.locals) (hRcells : cells + 1 ≤ R.cells) (hRslots : slots + 6 ≤ R.slots) (hlocks : meth.locks = false)
    (hx : ∀ t : State, s.vm.Alike t.vm → H.size ≤ t.heap.size → (∀ q : Nat, q < H.size → t.heap[q]? = H[q]?) → XC cls s t)
    (hf : ∀ z ∈ locs, free z.base) (hc : cells + 1 ≤ mc) (hs : slots + 6 ≤ ms) :
    W p l e R s m args below meth c H locs cells slots (vx_MQ below Qc XC args s mc ms free) (F0 m pc ls rest) := by
  intro T hT X
  have htr : e.platform.stackTraces = false := (show e.platform.stackTraces = l.stackTraces by rw [X.admits.platform]).trans hl
  have Y := vx_rebase X (R' := { frames := R.frames, locals := R.locals, cells := 1, slots := 6 }) (Nat.le_refl _) (Nat.le_refl _) hRcells hRslots
  obtain ⟨s', hA⟩ : ∃ z, z = (T.setVm s.vm).setFrames (.invoking m args :: below) := ⟨_, rfl⟩
  rw [← hA] at Y
  have hvm : s'.vm = s.vm := by rw [hA]; rfl
  have hhp : s'.heap = H := by rw [hA]; exact hT
  have hW0 : s.WarmedH s'.vm := by rw [hvm]; exact State.WarmedH.refl s
  have hat' : ∀ w ∈ vx_atS own ic cls names, w.before args s' = true := fun w hw => vx_ot_at hW0 hvm.symm (hgood w (List.mem_cons_of_mem _ (List.mem_cons_of_mem _ hw))) (hat w hw)
  have hk' : (Cond.classLink own ik cls).before args s' = true := vx_ot_at hW0 hvm.symm (hgood _ List.mem_cons_self) hk
  have hini' : (Cond.initialized cls).before args s' = true := vx_ot_at hW0 hvm.symm (hgood _ (List.mem_cons_of_mem _ List.mem_cons_self)) hini
  have hU' : vx_Zq Bundle.tN "UNASSIGNED_STACK" Bundle.steD A s' s'.heap := by rw [hhp]; exact vx_Zq.moved hW0.alike (hU.kept hS.2.1)
  have hN' : vx_Zq Bundle.tN "SUPPRESSED_SENTINEL" Bundle.listD A s' s'.heap := by rw [hhp]; exact vx_Zq.moved hW0.alike (hN.kept hS.2.1)
  have h : ∀ w ∈ Bundle.ownAtoms own ic cls names, w.before args s' = true := vx_own hat' (vx_isRefq hU'.1) (vx_isRefq hN'.1) hU'.2.word hN'.2.word
  have hown' : s'.vm.findClass own = some m.cls := by rw [hvm]; exact hown
  have hins : (Cond.instantiable cls 6).before args s' = true := h _ (by simp [Bundle.ownAtoms])
  obtain ⟨vm₁, cX, kX, hfX, hkX, -, -, X₁, st1⟩ := Y.newCold hexec (own := own) (C := cls) (index := ik) (n := 6) hown' hk' hins hini'
    (g := F0 m pc ls rest) rfl (by rw [hb]; exact d0) (Nat.le_refl _) (Nat.le_refl _)
  generalize hT1 : (T.setVm vm₁).pushCell { cls := cX, slots := kX.instanceTypes.map defaultValue, vm := .none } = T1 at X₁ st1
  have hcat : (Value.ref T.heap.size).category = 1 := rfl
  have hcellA : T1.heap[T.heap.size]? = some (freshCell cX kX) := by rw [← hT1]; exact State.heap_pushCell_size _ _
  have d3' : decode c.code (pc + 3) = .ok (.dup, 1) := by rw [hb]; exact d3
  have d4' : decode c.code (pc + 4) = .ok (.ldc is, 2) := by rw [hb]; exact d4
  have hstr' : vk_R own is text sa s' := vk_R.warm hW0 hstr
  obtain ⟨U, hsteps, hrun, hend, hW, hsame, ce, hce, hO⟩ := X₁.ctorThrowS hexec htr (own := own) (cls := cls) (names := names) (ic := ic) hown' hcls hnames h (fun x hx => nomatch hx) hfX hkX hcellA (by rw [hhp, hT]; exact Nat.le_refl _) (msg := .ref sa) rfl
    (g := { method := m, pc := pc + 6, locals := ls, stack := .ref sa :: .ref T.heap.size :: .ref T.heap.size :: rest, locked := none }) rfl hsize rfl rfl (rest := rest) rfl
    (by rw [hb]; exact d6) (by rw [hb]; exact d9) hout hRframes (by simp only [List.map_cons, List.sum_cons, hcat]; omega) hlocks
  obtain ⟨f1, f2⟩ := vx_frame hsame
  rw [hhp] at f1 f2
  have hWs : s.WarmedH U.vm := State.WarmedH.trans hW0 hW
  have hcl : s.vm.findClass cls = some ce.cls := by
    have h9 := hO.cls
    rw [hvm] at h9
    exact h9
  have hall : s.sameButNew ({ U with vm := s.vm } : State) locs mc ms := by
    subst hA
    obtain ⟨e1, e2⟩ := hsame
    rw [State.setFrames_setFrames] at e1
    have h2 : (T.setVm s.vm).sameButNew ({ U with vm := s.vm } : State) [] (0 + 1) (0 + 6) := ⟨e1, e2⟩
    have h3 := X.same.trans h2
    rw [List.append_nil] at h3
    exact h3.mono hc hs
  refine ⟨U, ?_, .threw T.heap.size, hrun, hend, Or.inr ⟨T.heap.size, rfl, cls, ce, locs, hx U hWs.alike f1 (fun q hq => f2 q hq (fun z hz => nomatch hz)), hce, hO.vm, hcl, hWs, hall, hf⟩⟩
  refine st1 _ ?_
  show Steps p.tables e below (T1.setTop { method := m, pc := pc + 3, locals := ls, stack := .ref T.heap.size :: rest, locked := none }) _
  jvm_step X₁.here [X₁.here.top, hexec, d3', Value.category]
  exact X₁.ldcString hexec (own := own) (text := text) (index := is) (a := sa) hown' hstr'.1 hstr'.2
    (g := { method := m, pc := pc + 4, locals := ls, stack := .ref T.heap.size :: .ref T.heap.size :: rest, locked := none }) rfl d4' _ hsteps
/-- 'throw new E("text")', the text by a wide index -/
theorem vx_throwSW {cc : ByteArray} {pc : Nat} (hexec : p.tables.exec = Jvm.exec) (hb : c.code = cc) (hl : l.stackTraces = false) {own cls text : String} {names : List String} {ik is ic mc ms sa : Nat} {A : Nat → Prop}
    (hown : s.vm.findClass own = some m.cls) (hcls : Bundle.fit cls = true) (hnames : ∀ n ∈ names, Bundle.fit n = true)
    (hk : (Cond.classLink own ik cls).before args s = true) (hini : (Cond.initialized cls).before args s = true) (hstr : vk_R own is text sa s) (hat : ∀ w ∈ vx_atS own ic cls names, w.before args s = true)
    (hgood : ∀ w ∈ Cond.classLink own ik cls :: Cond.initialized cls :: vx_atS own ic cls names, vx_ot w = true)
    (hU : vx_Zq Bundle.tN "UNASSIGNED_STACK" Bundle.steD A s s.heap) (hN : vx_Zq Bundle.tN "SUPPRESSED_SENTINEL" Bundle.listD A s s.heap) (hS : va_S A s.heap H locs) (hsize : ls.size = c.maxLocals)
    (d0 : decode cc pc = .ok (.new ik, 3)) (d3 : decode cc (pc + 3) = .ok (.dup, 1)) (d4 : decode cc (pc + 4) = .ok (.ldc_w is, 3)) (d7 : decode cc (pc + 7) = .ok (.invokespecial ic, 3)) (d10 : decode cc (pc + 10) = .ok (.athrow, 1))
    (hout : ∀ x ∈ c.exceptionTable.toList, covers x (pc + 10) = false)
    (hRframes : names.length + 3 < R.frames) (hRlocals : (rest.map fun v => v.category).sum + (13 * (names.length + 1) + 43) ≤ R.locals) (hRcells : cells + 1 ≤ R.cells) (hRslots : slots + 6 ≤ R.slots) (hlocks : meth.locks = false)
    (hx : ∀ t : State, s.vm.Alike t.vm → H.size ≤ t.heap.size → (∀ q : Nat, q < H.size → t.heap[q]? = H[q]?) → XC cls s t)
    (hf : ∀ z ∈ locs, free z.base) (hc : cells + 1 ≤ mc) (hs : slots + 6 ≤ ms) :
    W p l e R s m args below meth c H locs cells slots (vx_MQ below Qc XC args s mc ms free) (F0 m pc ls rest) := by
  intro T hT X
  have htr : e.platform.stackTraces = false := (show e.platform.stackTraces = l.stackTraces by rw [X.admits.platform]).trans hl
  have Y := vx_rebase X (R' := { frames := R.frames, locals := R.locals, cells := 1, slots := 6 }) (Nat.le_refl _) (Nat.le_refl _) hRcells hRslots
  obtain ⟨s', hA⟩ : ∃ z, z = (T.setVm s.vm).setFrames (.invoking m args :: below) := ⟨_, rfl⟩
  rw [← hA] at Y
  have hvm : s'.vm = s.vm := by rw [hA]; rfl
  have hhp : s'.heap = H := by rw [hA]; exact hT
  have hW0 : s.WarmedH s'.vm := by rw [hvm]; exact State.WarmedH.refl s
  have hat' : ∀ w ∈ vx_atS own ic cls names, w.before args s' = true := fun w hw => vx_ot_at hW0 hvm.symm (hgood w (List.mem_cons_of_mem _ (List.mem_cons_of_mem _ hw))) (hat w hw)
  have hk' : (Cond.classLink own ik cls).before args s' = true := vx_ot_at hW0 hvm.symm (hgood _ List.mem_cons_self) hk
  have hini' : (Cond.initialized cls).before args s' = true := vx_ot_at hW0 hvm.symm (hgood _ (List.mem_cons_of_mem _ List.mem_cons_self)) hini
  have hU' : vx_Zq Bundle.tN "UNASSIGNED_STACK" Bundle.steD A s' s'.heap := by rw [hhp]; exact vx_Zq.moved hW0.alike (hU.kept hS.2.1)
  have hN' : vx_Zq Bundle.tN "SUPPRESSED_SENTINEL" Bundle.listD A s' s'.heap := by rw [hhp]; exact vx_Zq.moved hW0.alike (hN.kept hS.2.1)
  have h : ∀ w ∈ Bundle.ownAtoms own ic cls names, w.before args s' = true := vx_own hat' (vx_isRefq hU'.1) (vx_isRefq hN'.1) hU'.2.word hN'.2.word
  have hown' : s'.vm.findClass own = some m.cls := by rw [hvm]; exact hown
  have hins : (Cond.instantiable cls 6).before args s' = true := h _ (by simp [Bundle.ownAtoms])
  obtain ⟨vm₁, cX, kX, hfX, hkX, -, -, X₁, st1⟩ := Y.newCold hexec (own := own) (C := cls) (index := ik) (n := 6) hown' hk' hins hini'
    (g := F0 m pc ls rest) rfl (by rw [hb]; exact d0) (Nat.le_refl _) (Nat.le_refl _)
  generalize hT1 : (T.setVm vm₁).pushCell { cls := cX, slots := kX.instanceTypes.map defaultValue, vm := .none } = T1 at X₁ st1
  have hcat : (Value.ref T.heap.size).category = 1 := rfl
  have hcellA : T1.heap[T.heap.size]? = some (freshCell cX kX) := by rw [← hT1]; exact State.heap_pushCell_size _ _
  have d3' : decode c.code (pc + 3) = .ok (.dup, 1) := by rw [hb]; exact d3
  have d4' : decode c.code (pc + 4) = .ok (.ldc_w is, 3) := by rw [hb]; exact d4
  have hstr' : vk_R own is text sa s' := vk_R.warm hW0 hstr
  obtain ⟨U, hsteps, hrun, hend, hW, hsame, ce, hce, hO⟩ := X₁.ctorThrowS hexec htr (own := own) (cls := cls) (names := names) (ic := ic) hown' hcls hnames h (fun x hx => nomatch hx) hfX hkX hcellA (by rw [hhp, hT]; exact Nat.le_refl _) (msg := .ref sa) rfl
    (g := { method := m, pc := pc + 7, locals := ls, stack := .ref sa :: .ref T.heap.size :: .ref T.heap.size :: rest, locked := none }) rfl hsize rfl rfl (rest := rest) rfl
    (by rw [hb]; exact d7) (by rw [hb]; exact d10) hout hRframes (by simp only [List.map_cons, List.sum_cons, hcat]; omega) hlocks
  obtain ⟨f1, f2⟩ := vx_frame hsame
  rw [hhp] at f1 f2
  have hWs : s.WarmedH U.vm := State.WarmedH.trans hW0 hW
  have hcl : s.vm.findClass cls = some ce.cls := by
    have h9 := hO.cls
    rw [hvm] at h9
    exact h9
  have hall : s.sameButNew ({ U with vm := s.vm } : State) locs mc ms := by
    subst hA
    obtain ⟨e1, e2⟩ := hsame
    rw [State.setFrames_setFrames] at e1
    have h2 : (T.setVm s.vm).sameButNew ({ U with vm := s.vm } : State) [] (0 + 1) (0 + 6) := ⟨e1, e2⟩
    have h3 := X.same.trans h2
    rw [List.append_nil] at h3
    exact h3.mono hc hs
  refine ⟨U, ?_, .threw T.heap.size, hrun, hend, Or.inr ⟨T.heap.size, rfl, cls, ce, locs, hx U hWs.alike f1 (fun q hq => f2 q hq (fun z hz => nomatch hz)), hce, hO.vm, hcl, hWs, hall, hf⟩⟩
  refine st1 _ ?_
  show Steps p.tables e below (T1.setTop { method := m, pc := pc + 3, locals := ls, stack := .ref T.heap.size :: rest, locked := none }) _
  jvm_step X₁.here [X₁.here.top, hexec, d3', Value.category]
  exact X₁.ldcStringW hexec (own := own) (text := text) (index := is) (a := sa) hown' hstr'.1 hstr'.2
    (g := { method := m, pc := pc + 4, locals := ls, stack := .ref T.heap.size :: .ref T.heap.size :: rest, locked := none }) rfl d4' _ hsteps
end Ends
section Bodies
variable {l : Launch}
theorem vx_ofW {y : MethodName} {ws ws' : List Cond} {rm : Room} {Pc : Array Value → State → Prop} {Qc : Array Value → State → Outcome → State → Prop} {XC : String → State → State → Prop} {mc ms : Nat} {free : Addr → Prop} {cc : ByteArray} {maxL : Nat} {ret : Option FieldType}
    (hy : plainName y.cls = true) (hw : ws = Cond.code y cc maxL ret :: ws')
    (body : ∀ p e s m args below meth c s₁, BodyLoose p l y (headSpec ws rm) cc maxL ret e s m args below meth c s₁ → c.maxLocals = maxL → (∀ x ∈ c.exceptionTable.toList, False) → Pc args s →
      W p l e (headSpec ws rm).room s m args below meth c s.heap [] 0 0 (vx_MQ below Qc XC args s mc ms free) (entryFrame m args maxL)) : vx_Met l y ws rm Pc Qc XC mc ms free := by
  refine MetFree.of_bodyS (code := cc) (maxLocals := maxL) (ret := ret) hy ?_ ?_
  · intro args s m h hn
    obtain ⟨meth, c, h1, h2, h3, h4, h5, h6, -, -⟩ := Cond.code_spec hn (atoms_spec (ws := ws) h _ (by rw [hw]; exact List.mem_cons_self))
    exact ⟨meth, c, h1, h2, h3, h4, h5, h6⟩
  · intro p e s m args below meth c s₁ B hml hP _
    have hh0 : s₁.heap = s.heap := by rw [B.state]; rfl
    have ht : ∀ x ∈ c.exceptionTable.toList, False := by
      obtain ⟨meth9, c9, h1, h2, -, -, -, -, h7, -⟩ := Cond.code_spec B.named (atoms_spec (ws := ws) B.pre _ (by rw [hw]; exact List.mem_cons_self))
      cases Option.some.inj (h1.symm.trans B.method)
      cases Option.some.inj (h2.symm.trans (Stand.of_body B).code)
      intro x hx
      rw [Array.isEmpty_iff.mp h7] at hx
      cases hx
    obtain ⟨t, a1, o, b1, b2, b3⟩ := body p e s m args below meth c s₁ B hml ht hP s₁ hh0 (Stand.of_body B)
    exact ⟨t, o, a1, b1, b2, b3⟩
/-- the table of a body with handlers -/
theorem vx_table {p : Program} {x y : MethodName} {S : Spec} {cc bytes : ByteArray} {maxL maxL' : Nat} {ret ret' : Option FieldType} {e : Env} {s s₁ : State} {m : MethodId} {args : Array Value} {below : List Frame} {meth : Method} {c : Code} {hh : List (Nat × Nat × Nat × Nat)}
    (B : BodyLoose p l y S cc maxL ret e s m args below meth c s₁) (h : (Cond.codeWith y bytes maxL' ret' hh).before args s = true) : c.exceptionTable.toList = tableOf hh := by
  obtain ⟨m9, meth9, c9, hn9, h1, h2, -, -, h6, -⟩ := Cond.codeWith_spec h
  cases Option.some.inj (hn9.symm.trans B.named)
  cases Option.some.inj (h1.symm.trans B.method)
  cases Option.some.inj (h2.symm.trans (Stand.of_body B).code)
  rw [← h6, table_eq]
end Bodies
end VXA
/-! ===== END ===== -/
/-! ===== BEGIN a static call of a method with an exception table ===== -/
section VXS
variable {p : Program} {l : Launch} {e : Env} {R : Room} {s : State} {m : MethodId} {args : Array Value} {below : List Frame} {meth : Method} {c : Code} {T : State} {H : Heap} {locs : List Loc} {cells slots : Nat}
abbrev vx_CSW (R : Room) (s : State) (args : Array Value) (own : String) (index : Nat) (y : MethodName) (bytes : ByteArray) (maxL : Nat) (ret : Option FieldType) (hh : List (Nat × Nat × Nat × Nat)) (ws : List Cond) (rm : Room) (mc ms n : Nat) : Prop :=
  (rm.cells = mc ∧ rm.slots = ms ∧ rm.frames + 1 ≤ R.frames ∧ 8 + (maxL + 11) + rm.locals ≤ R.locals ∧ (∀ w ∈ ws, ∀ (a' : Array Value) (U : State), s.WarmedH U.vm → w.before a' U = true) ∧ Cond.codeWith y bytes maxL ret hh ∈ ws) ∧
  (Cond.codeWith y bytes maxL ret hh).before args s = true ∧ (Cond.initialized y.cls).before args s = true ∧ (y.cls ≠ "java/lang/invoke/MethodHandle" ∧ y.cls ≠ "java/lang/invoke/VarHandle") ∧
  (∀ sig, parseMethodDescriptor y.desc = some sig → n = sig.parameters.length) ∧ (Cond.methodLink own index y).before args s = true ∧ (Cond.static y).before args s = true
theorem vx_cwSW {own : String} {index maxL mc ms : Nat} {y : MethodName} {bytes : ByteArray} {ret : Option FieldType} {hh : List (Nat × Nat × Nat × Nat)} {Ts ws ws' : List Cond} {rm : Room} (n : Nat) (ht : ∀ w ∈ Ts, w.before args s = true) (hT : GoodIn Ts (va_wsS own index y ws)) (hw : ws = Cond.codeWith y bytes maxL ret hh :: ws') (hrc : rm.cells = mc) (hrs : rm.slots = ms)
    (hd : y.cls ≠ "java/lang/invoke/MethodHandle" ∧ y.cls ≠ "java/lang/invoke/VarHandle" ∧ (parseMethodDescriptor y.desc).map (fun d => d.parameters.length) = some n) (hR : rm.frames + 1 ≤ R.frames ∧ 8 + (maxL + 11) + rm.locals ≤ R.locals) :
    vx_CSW R s args own index y bytes maxL ret hh ws rm mc ms n := by
  have ok : ∀ w ∈ va_wsS own index y ws, w.before args s = true := fun w h => ht w (hT w h).1
  have hG : GoodIn Ts ws := fun w h => hT w (by unfold va_wsS; exact List.mem_append_right _ h)
  have hc : Cond.codeWith y bytes maxL ret hh ∈ ws := by rw [hw]; exact List.mem_cons_self
  refine ⟨⟨hrc, hrs, hR.1, hR.2, pay_in ht hG, hc⟩, ht _ (hG _ hc).1, ok _ (by simp [va_wsS]), ⟨hd.1, hd.2.1⟩, fun sig h => ?_, ok _ (by simp [va_wsS]), ok _ (by simp [va_wsS])⟩
  have h2 := hd.2.2
  rw [h] at h2
  exact (Option.some.inj h2).symm
theorem vx_callSW (X : Stand p l e R s m args below meth c T locs cells slots) (hexec : p.tables.exec = Jvm.exec) {own : String} {index : Nat} {y : MethodName} {bytes : ByteArray} {maxL : Nat} {ret : Option FieldType} {hh : List (Nat × Nat × Nat × Nat)}
    (hown : s.vm.findClass own = some m.cls) (hlink : (Cond.methodLink own index y).before args s = true) (hstat : (Cond.static y).before args s = true) (hinit : (Cond.initialized y.cls).before args s = true)
    (hcode : (Cond.codeWith y bytes maxL ret hh).before args s = true) (hy : y.cls ≠ "java/lang/invoke/MethodHandle" ∧ y.cls ≠ "java/lang/invoke/VarHandle")
    {W9 : Nat} {Pre : Pt → Array Value → Prop} {Post : Pt → Array Value → Option Value → Pt → Prop} (hK : Back l R p e below s args y 3 W9 Pre Post)
    {g : JFrame} (hg : g.method = m) (hsize : g.locals.size = c.maxLocals) {argsL rest : List Value} (hlen : ∀ sig, parseMethodDescriptor y.desc = some sig → argsL.length = sig.parameters.length)
    (hstack : g.stack = argsL.reverse ++ rest) (hW : 2 * g.monitorRoom + (rest.map fun v => v.category).sum ≤ W9) (hdg : decode c.code g.pc = .ok (.invokestatic index, 3))
    (hpre : ∀ vm₁, s.WarmedH vm₁ → Pre ⟨T.setVm vm₁, locs, cells, slots⟩ argsL.toArray) :
    ∃ (v : Option Value) (vm₁ : Vm) (B : Pt), s.WarmedH vm₁ ∧ Stand p l e R s m args below meth c B.U B.locs B.cells B.slots ∧ Post ⟨T.setVm vm₁, locs, cells, slots⟩ argsL.toArray v B ∧
      ∀ target, Steps p.tables e below (B.U.setTop { g with pc := g.pc + 3, stack := v.toList ++ rest }) target → Steps p.tables e below (T.setTop g) target := by
  obtain ⟨mk, methM, cM, hnamed, hmethM, -, -, -, -, -, -, hsigM⟩ := Cond.codeWith_spec hcode
  have hstatic : methM.isStatic = true := Cond.static_spec hnamed hmethM hstat
  obtain ⟨kP, hkP, -⟩ := className_of_methodNamed hnamed
  have hinitP : kP.init = .initialized := Cond.initialized_spec (findClass_of_methodNamed hnamed) hkP hinit
  obtain ⟨vm₁, X₁, hstep₁⟩ := X.invokestatic hexec hown hlink hnamed hmethM hstatic hkP hinitP hy (g := g) hg (argsL := argsL) (rest := rest) (hlen _ hsigM) hstack hdg
  obtain ⟨v, B, X', hpost, hsteps⟩ := hK m meth c ⟨T.setVm vm₁, locs, cells, slots⟩ { g with stack := rest } (.invokestatic index) mk argsL.toArray X₁ hg hsize hdg hW (X₁.named hnamed) (hpre vm₁ X₁.warmed)
  exact ⟨v, vm₁, B, X₁.warmed, X', hpost, fun target h => hstep₁ _ fun acts => by rw [doInvoke_state]; exact hsteps.trans h⟩
theorem vx_runSW {y : MethodName} {bytes cc : ByteArray} {maxL nL mc ms n index : Nat} {ret : Option FieldType} {hh : List (Nat × Nat × Nat × Nat)} {ws : List Cond} {rm : Room} {Pc : Array Value → State → Prop} {Qc : Array Value → State → Outcome → State → Prop} {free : Addr → Prop} {Ts : List Cond} {own : String} {As rest : List Value} {g : JFrame}
    (S : CallFix p m c cc nL s args Ts own) (hM : Met l y ws rm Pc Qc mc ms free) (cw : vx_CSW R s args own index y bytes maxL ret hh ws rm mc ms n) (hp : PreS s H Pc As)
    (hg : g.method = m) (hn : As.length = n) (hsize : g.locals.size = nL) (hstack : g.stack = As.reverse ++ rest) (hW : 2 * g.monitorRoom + (rest.map fun v => v.category).sum ≤ 8) (hdg : decode cc g.pc = .ok (.invokestatic index, 3)) (hf : cells + mc ≤ R.cells ∧ slots + ms ≤ R.slots) :
    va_Run p l e R s m args below meth c H locs cells slots mc ms g rest (Qc As.toArray) (free) := by
  obtain ⟨⟨hrc, hrs, hfr, hlo, hws, hcw⟩, hcode, hini, hy, hlen, hl, hstt⟩ := cw
  have hK : Back l R p e below s args y 3 8 (PreOf R mc ms Pc) (PostOf Qc mc ms free) := va_backW (hh := hh) (bytes := bytes) (maxL := maxL) (ret := ret) hM hp.1 hrc hrs hfr hlo hws hcw (fun a' U hW => word_at hW (Or.inl (by first | rfl | simp [Cond.onTables, Cond.keeps, Cond.steady])) hini)
  obtain ⟨hx, hb, hml, ho, -⟩ := S
  intro T hT X
  obtain ⟨v, vm₁, ⟨U', l2, c2, s2⟩, hW₁, X', ⟨g', mk, t, L, e1, e2, hq, h1, hL, h2, h3⟩, st⟩ := vx_callSW X hx (hh := hh) (bytes := bytes) (maxL := maxL) (ret := ret) ho hl hstt hini hcode hy hK hg (hsize.trans hml.symm) (argsL := As) (rest := rest) (fun sig h => hn.trans (hlen sig h)) hstack hW (by rw [hb]; exact hdg)
    (fun vm₁ hW₁ => ⟨hf.1, hf.2, hp.2 (T.setVm vm₁) hT hW₁⟩)
  dsimp only [Pt.U, Pt.locs, Pt.cells, Pt.slots] at X' e1 e2 h1 h2 h3 st
  subst h1; subst h2; subst h3
  exact ⟨v, (T.setVm vm₁).calling g' mk As.toArray, t, U', L, hT, X', hL, e1, e2, hq, st⟩
/-- not caught here, past rows that name other classes: it goes on to the caller -/
theorem vx_outP {p : Program} {l : Launch} {e : Env} {R : Room} {s : State} {m : MethodId} {args : Array Value} {below : List Frame} {meth : Method} {c : Code} {H : Heap} {locs : List Loc} {cells slots : Nat} {free : Addr → Prop} {ls : Array Slot} {rest : List Value} {Qc : Array Value → State → Outcome → State → Prop} {XC : String → State → State → Prop}
    {pc : Nat} {own E : String} {ce : Cell} {q : Addr} {mc ms : Nat} (hown : s.vm.findClass own = some m.cls) (hlocks : meth.locks = false)
    (hpass : ∀ z ∈ c.exceptionTable.toList, covers z pc = false ∨ (z.catchType ≠ 0 ∧ ∃ nm : String, (Cond.classLink own z.catchType nm).before args s = true ∧ va_Nc E nm s)) (hcell : H[q]? = some ce) (hv : ce.vm = .none) (hcl : s.vm.findClass E = some ce.cls)
    (hx : ∀ t : State, t.heap = H → s.vm.Alike t.vm → XC E s t) (hf : ∀ z ∈ locs, free z.base) (hc : cells ≤ mc) (hs : slots ≤ ms) :
    vx_W p l e R s m args below meth c H locs cells slots (vx_MQ below Qc XC args s mc ms free) (F0 m pc ls rest) q := by
  intro T hT X
  have hpl : e.platform.magicAccessors = ({} : Platform).magicAccessors := by rw [X.admits.platform]
  obtain ⟨vm', hW', X', st⟩ := X.outThrough hlocks q (g := F0 m pc ls rest) rfl rfl rfl (cell := ce) (by rw [hT]; exact hcell) (by rw [hv]; rfl)
    (by obtain ⟨k9, h9, -⟩ := Vm.findClass_spec hcl; exact ⟨k9, h9⟩) (fun z hz => by
      rcases hpass z hz with h | ⟨hz0, nm, hl1, hn1⟩
      · exact Or.inl h
      · obtain ⟨c6, hc6, hcl6⟩ := Cond.classLink_spec hown hl1 e.platform hpl
        obtain ⟨a8, b8, h1, h2, h3⟩ := hn1
        cases Option.some.inj (h1.symm.trans hcl)
        cases Option.some.inj (h2.symm.trans hc6)
        exact Or.inr ⟨hz0, _, hcl6, h3⟩)
  obtain ⟨g₀, hfr⟩ := X'.frames_eq
  have hcell9 : ((T.setVm vm').setFrames (.throwing q :: below)).heap[q]? = some ce := by
    show T.heap[q]? = some ce
    rw [hT]; exact hcell
  have hend : Ended ((T.setVm vm').setFrames (.throwing q :: below)) below (.threw q) := State.frames_setFrames _ (State.cur_lt_of_frames hfr)
  refine ⟨(T.setVm vm').setFrames (.throwing q :: below), ?_, .threw q, X'.here.running, hend, Or.inr ⟨q, rfl, E, ce, locs, hx _ hT (X'.ends _).1.alike, hcell9, hv, hcl, (X'.ends _).1, (X'.ends _).2.mono hc hs, hf⟩⟩
  rw [X.pushThrowing_eq]
  exact st
/-- a thing of a world lies in the heap -/
theorem vx_lt {D : va_G} {cl : List vw_C} {ws : va_W} {H1 : Heap} (h : va_P D cl ws H1) {k : Nat} {q : Nat × va_E} (hk : ws[k]? = some q) : q.1 < H1.size := (h k q hk).lt
end VXS
/-! ===== END ===== -/
/-! ===== BEGIN methods with a table of their own: called by a name, returning or throwing ===== -/
section VXH
/-! vx_backW, vx_callVX, vx_callSX, vx_callVW, vx_runVW, vx_runVX, vx_runSX, vx_ofWH follow the same proofs as their sisters above (Free/Laws.lean, Shelf42/LK1.lean); vx_outP calls Shelf42/NT130.lean (outThrough). -/
section
variable {l : Launch} {R : Room} {p : Program} {e : Env} {below : List Frame} {s : State} {sargs : Array Value} {y : MethodName} {len W9 : Nat}
theorem vx_backW {ws : List Cond} {rm : Room} {Pc : Array Value → State → Prop} {Qc : Array Value → State → Outcome → State → Prop} {XC : String → State → State → Prop} {mc ms : Nat} {free : Addr → Prop} {bytes : ByteArray} {maxL : Nat} {ret : Option FieldType} {hh : List (Nat × Nat × Nat × Nat)}
    (hM : vx_Met l y ws rm Pc Qc XC mc ms free) (hblind : FrameBlind Pc) (hrc : rm.cells = mc) (hrs : rm.slots = ms)
    (hframes : rm.frames + 1 ≤ R.frames) (hlocals : W9 + (maxL + 11) + rm.locals ≤ R.locals)
    (hws : ∀ w ∈ ws, ∀ a' U, s.WarmedH U.vm → w.before a' U = true) (hcode : Cond.codeWith y bytes maxL ret hh ∈ ws) (hinit : ∀ a' U, s.WarmedH U.vm → (Cond.initialized y.cls).before a' U = true) :
    vx_Back l R p e below s sargs y len W9 (PreOf R mc ms Pc) (PostOf Qc mc ms free) (vx_Post XC mc ms free) := by
  intro m meth c A g ig mk a X hg hsize hdg hW hn hp
  have h1 : (headSpec ws rm).pre.before a A.U = true := atoms_intro fun w hw => hws w hw _ _ X.warmed
  have h2 : (Cond.codeWith y bytes maxL ret hh).before a A.U = true := hws _ hcode _ _ X.warmed
  have h3 : (Cond.initialized y.cls).before a A.U = true := hinit _ _ X.warmed
  have h4 : A.cells + (headSpec ws rm).room.cells ≤ R.cells := by rw [show (headSpec ws rm).room.cells = mc from hrc]; exact hp.1
  have h5 : A.slots + (headSpec ws rm).room.slots ≤ R.slots := by rw [show (headSpec ws rm).room.slots = ms from hrs]; exact hp.2.1
  have hPc : Pc a (A.U.calling g mk a) := hblind _ _ _ _ hp.2.2
  obtain ⟨U, Ls, c0, s0⟩ := A
  dsimp only [Pt.U, Pt.locs, Pt.cells, Pt.slots] at h1 h2 h3 h4 h5 X hn hPc ⊢
  obtain ⟨m9, methY, cY, hn9, hmY, hcY, -, hlY, -⟩ := Cond.codeWith_spec h2
  cases Option.some.inj (hn9.symm.trans hn)
  obtain ⟨kY, hkY, -⟩ := className_of_methodNamed hn
  have hinitY : kY.init = .initialized := Cond.initialized_spec (findClass_of_methodNamed hn) hkY h3
  have h : At U g.method c below := by rw [hg]; exact X.here
  have hlocals9 : W9 + (maxL + 11) + (headSpec ws rm).room.locals ≤ R.locals := hlocals
  have happ : (headSpec ws rm).appliesLoose y e.platform (U.calling g mk a) = true :=
    Spec.appliesLoose_calling (g := g) h hdg hn hkY hinitY
      (X.room_calling (g := g) (R' := (headSpec ws rm).room) hsize hmY hcY hframes (by rw [hlY]; omega) h4 h5) h1
  obtain ⟨mid, hmid⟩ := h.above
  have hfr : (U.setTop g).frames = (.java g :: mid) ++ below := by rw [State.frames_setTop' g h.top, hmid]; rfl
  obtain ⟨o, s₂, hsteps, -, hend, hq⟩ := Steps.callFree hM p X.admits X.cas X.clock (acts := []) hfr happ hPc trivial
  have hq' : vx_Q Qc XC mc ms free a (U.calling g mk a) o s₂ := hq
  rw [State.frames_setTop' g h.top] at hend
  obtain ⟨g₀, hg0⟩ := Option.isSome_iff_exists.mp h.top
  obtain ⟨r, hr⟩ := State.topJava?_eq_some.mp hg0
  have hr' : (({ U with heap := s₂.heap, slotsUsed := s₂.slotsUsed } : State).setVm s₂.vm).frames = .java g₀ :: r := hr
  rcases hq' with ⟨hqc, L, hfe, hL⟩ | ⟨q, rfl, E, ce, L, hx, hce, hcv, hcl, hW₂, hsm, hL⟩
  · obtain ⟨⟨v, rfl⟩, hW₂, e2, q2, q3, q4, q5, q6⟩ := id hfe
    have e3 : s₂ = ({ (U.calling g mk a).setFrames s₂.frames with heap := s₂.heap, slotsUsed := s₂.slotsUsed } : State).setVm s₂.vm := by
      have : s₂ = ({ s₂ with vm := (U.calling g mk a).vm } : State).setVm s₂.vm := rfl
      rw [e2] at this
      exact this
    obtain ⟨c₂, i₂, len₂, hc₂, hd₂, hf₂⟩ := hend
    have hW' : U.WarmedH s₂.vm := hW₂
    have hcc : c₂ = c := by
      have h1 : s₂.code? g.method = U.code? g.method := by
        rw [State.code?_eq, State.code?_eq, hW'.alike.method?]
      exact Option.some.inj (hc₂.symm.trans (h1.trans h.code))
    subst hcc
    have hlen : len₂ = len := by rw [hdg] at hd₂; cases hd₂; rfl
    subst hlen
    have hs₂ : s₂ = (({ U with heap := s₂.heap, slotsUsed := s₂.slotsUsed } : State).setVm s₂.vm).setTop { g with pc := g.pc + len₂, stack := v.toList ++ g.stack } := by
      refine e3.trans ?_
      rw [hf₂, State.calling_eq h.top, State.setFrames_setFrames, State.setTop_of_frames _ hr', hr]
      rfl
    have hsame : U.sameButNew ({ U with heap := s₂.heap, slotsUsed := s₂.slotsUsed } : State) L mc ms := by
      refine ⟨?_, q2, q3, q4, q5, q6⟩
      obtain ⟨t, ht, -⟩ := State.frames_cons hr
      show ({ U with heap := s₂.heap, slotsUsed := s₂.slotsUsed } : State) = { U.setFrames U.frames with heap := s₂.heap, slotsUsed := s₂.slotsUsed }
      rw [State.setFrames_self ht]
    subst hg
    refine Or.inl ⟨v, ⟨(({ U with heap := s₂.heap, slotsUsed := s₂.slotsUsed } : State).setVm s₂.vm), Ls ++ L, c0 + mc, s0 + ms⟩,
      ⟨X.admits, X.cas, X.clock, X.frames, X.room, X.hears, X.method, X.code, (X.here.setHeapUsed s₂.heap s₂.slotsUsed).setVm hW'.alike, X.tail, State.WarmedH.trans X.warmed hW', X.limits, X.bytes, X.same.trans (hsame.setVm s.vm)⟩,
      ⟨g, mk, s₂, L, rfl, rfl, hqc, rfl, hL, rfl, rfl⟩, ?_⟩
    show Steps p.tables e below _ ((({ U with heap := s₂.heap, slotsUsed := s₂.slotsUsed } : State).setVm s₂.vm).setTop { g with pc := g.pc + len₂, stack := v.toList ++ g.stack })
    rw [← hs₂]
    exact hsteps
  · obtain ⟨e2, q2, q3, q4, q5, q6⟩ := id hsm
    have e3 : s₂ = ({ (U.calling g mk a).setFrames s₂.frames with heap := s₂.heap, slotsUsed := s₂.slotsUsed } : State).setVm s₂.vm := by
      have : s₂ = ({ s₂ with vm := (U.calling g mk a).vm } : State).setVm s₂.vm := rfl
      rw [e2] at this
      exact this
    have hf₂ : s₂.frames = .throwing q :: .java g :: U.frames.tail := hend
    have hW' : U.WarmedH s₂.vm := hW₂
    have hs₂ : s₂ = ((({ U with heap := s₂.heap, slotsUsed := s₂.slotsUsed } : State).setVm s₂.vm).setTop g).pushFrame (.throwing q) := by
      refine e3.trans ?_
      rw [hf₂, State.calling_eq h.top, State.setFrames_setFrames, State.pushFrame, State.frames_setTop _ hr', State.setTop_of_frames _ hr', State.setFrames_setFrames, hr]
      rfl
    have hsame : U.sameButNew ({ U with heap := s₂.heap, slotsUsed := s₂.slotsUsed } : State) L mc ms := by
      refine ⟨?_, q2, q3, q4, q5, q6⟩
      obtain ⟨t, ht, -⟩ := State.frames_cons hr
      show ({ U with heap := s₂.heap, slotsUsed := s₂.slotsUsed } : State) = { U.setFrames U.frames with heap := s₂.heap, slotsUsed := s₂.slotsUsed }
      rw [State.setFrames_self ht]
    subst hg
    refine Or.inr ⟨q, ⟨(({ U with heap := s₂.heap, slotsUsed := s₂.slotsUsed } : State).setVm s₂.vm), Ls ++ L, c0 + mc, s0 + ms⟩,
      ⟨X.admits, X.cas, X.clock, X.frames, X.room, X.hears, X.method, X.code, (X.here.setHeapUsed s₂.heap s₂.slotsUsed).setVm hW'.alike, X.tail, State.WarmedH.trans X.warmed hW', X.limits, X.bytes, X.same.trans (hsame.setVm s.vm)⟩,
      ⟨g, mk, s₂, L, E, ce, rfl, rfl, hx, hce, hcv, hcl, rfl, hL, rfl, rfl⟩, ?_⟩
    show Steps p.tables e below _ (((({ U with heap := s₂.heap, slotsUsed := s₂.slotsUsed } : State).setVm s₂.vm).setTop g).pushFrame (.throwing q))
    rw [← hs₂]
    exact hsteps
end
variable {p : Program} {l : Launch} {e : Env} {R : Room} {s : State} {m : MethodId} {args : Array Value} {below : List Frame} {meth : Method} {c : Code} {T : State} {H : Heap} {locs : List Loc} {cells slots : Nat}
theorem vx_callVX (X : Stand p l e R s m args below meth c T locs cells slots) (hexec : p.tables.exec = Jvm.exec) {own C : String} {index : Nat} {y : MethodName} {bytes : ByteArray} {maxL : Nat} {ret : Option FieldType} {hh : List (Nat × Nat × Nat × Nat)}
    (hown : s.vm.findClass own = some m.cls) (hlink : (Cond.methodLink own index y).before args s = true) (hinst : (Cond.instanceMethod y).before args s = true) (hsel : (Cond.selects C y y).before args s = true)
    (hcode : (Cond.codeWith y bytes maxL ret hh).before args s = true) (hy : y.cls ≠ "java/lang/invoke/MethodHandle" ∧ y.cls ≠ "java/lang/invoke/VarHandle")
    {W9 : Nat} {Pre : Pt → Array Value → Prop} {Post : Pt → Array Value → Option Value → Pt → Prop} {PostX : Pt → Array Value → Addr → Pt → Prop} (hK : vx_Back l R p e below s args y 3 W9 Pre Post PostX)
    {b : Addr} {cellB : Cell} (hcell : T.heap[b]? = some cellB) (hobj : cellB.vm.isStatics = false) (hcls : s.vm.findClass C = some cellB.cls)
    {g : JFrame} (hg : g.method = m) (hsize : g.locals.size = c.maxLocals) {argsL rest : List Value} (hlen : ∀ sig, parseMethodDescriptor y.desc = some sig → argsL.length = sig.parameters.length)
    (hstack : g.stack = argsL.reverse ++ .ref b :: rest) (hW : 2 * g.monitorRoom + (rest.map fun v => v.category).sum ≤ W9) (hdg : decode c.code g.pc = .ok (.invokevirtual index, 3))
    (hpre : ∀ vm₁, s.WarmedH vm₁ → Pre ⟨T.setVm vm₁, locs, cells, slots⟩ (Value.ref b :: argsL).toArray) :
    (∃ (v : Option Value) (vm₁ : Vm) (B : Pt), s.WarmedH vm₁ ∧ Stand p l e R s m args below meth c B.U B.locs B.cells B.slots ∧ Post ⟨T.setVm vm₁, locs, cells, slots⟩ (Value.ref b :: argsL).toArray v B ∧
      ∀ target, Steps p.tables e below (B.U.setTop { g with pc := g.pc + 3, stack := v.toList ++ rest }) target → Steps p.tables e below (T.setTop g) target) ∨
    (∃ (q : Addr) (vm₁ : Vm) (B : Pt), s.WarmedH vm₁ ∧ Stand p l e R s m args below meth c B.U B.locs B.cells B.slots ∧ PostX ⟨T.setVm vm₁, locs, cells, slots⟩ (Value.ref b :: argsL).toArray q B ∧
      Steps p.tables e below (T.setTop g) ((B.U.setTop { g with stack := rest }).pushFrame (.throwing q))) := by
  obtain ⟨mk, methM, hnamed, hmethM, hstM, habM⟩ := Cond.instanceMethod_spec hinst
  obtain ⟨m8, methM', cM, hn8, hmethM', -, -, -, -, -, -, hsigM⟩ := Cond.codeWith_spec hcode
  cases Option.some.inj (hn8.symm.trans hnamed)
  cases hmethM.symm.trans hmethM'
  obtain ⟨c2, r2, m2, q1, q2, q3, q4, kP, hkP, hkPi⟩ := Cond.selects_spec hsel
  cases hcls.symm.trans q1
  cases (State.methodFound?_of_named hnamed hy).symm.trans q2
  cases hnamed.symm.trans q3
  have hselP : selectMethod e.platform s.vm cellB.cls mk = .method mk := by rw [Launch.admits_selectMethod X.admits]; exact q4
  obtain ⟨vm₁, X₁, hstep₁⟩ := X.invokevirtual hexec hown hlink hnamed hmethM hstM hkP hkPi hy (a := b) (cell := cellB) hcell
    (fun z h => by rw [h] at hobj; cases hobj) hselP hmethM habM hkP hkPi (g := g) hg (argsL := argsL) (rest := rest) (hlen _ hsigM) hstack hdg
  rcases hK m meth c ⟨T.setVm vm₁, locs, cells, slots⟩ { g with stack := rest } (.invokevirtual index) mk (Value.ref b :: argsL).toArray X₁ hg hsize hdg hW (X₁.named hnamed) (hpre vm₁ X₁.warmed) with ⟨v, B, X', hpost, hsteps⟩ | ⟨q, B, X', hpost, hsteps⟩
  · exact Or.inl ⟨v, vm₁, B, X₁.warmed, X', hpost, fun target h => hstep₁ _ fun acts => by rw [doInvoke_state]; exact hsteps.trans h⟩
  · exact Or.inr ⟨q, vm₁, B, X₁.warmed, X', hpost, hstep₁ _ fun acts => by rw [doInvoke_state]; exact hsteps⟩
theorem vx_callSX (X : Stand p l e R s m args below meth c T locs cells slots) (hexec : p.tables.exec = Jvm.exec) {own : String} {index : Nat} {y : MethodName} {bytes : ByteArray} {maxL : Nat} {ret : Option FieldType} {hh : List (Nat × Nat × Nat × Nat)}
    (hown : s.vm.findClass own = some m.cls) (hlink : (Cond.methodLink own index y).before args s = true) (hstat : (Cond.static y).before args s = true) (hinit : (Cond.initialized y.cls).before args s = true)
    (hcode : (Cond.codeWith y bytes maxL ret hh).before args s = true) (hy : y.cls ≠ "java/lang/invoke/MethodHandle" ∧ y.cls ≠ "java/lang/invoke/VarHandle")
    {W9 : Nat} {Pre : Pt → Array Value → Prop} {Post : Pt → Array Value → Option Value → Pt → Prop} {PostX : Pt → Array Value → Addr → Pt → Prop} (hK : vx_Back l R p e below s args y 3 W9 Pre Post PostX)
    {g : JFrame} (hg : g.method = m) (hsize : g.locals.size = c.maxLocals) {argsL rest : List Value} (hlen : ∀ sig, parseMethodDescriptor y.desc = some sig → argsL.length = sig.parameters.length)
    (hstack : g.stack = argsL.reverse ++ rest) (hW : 2 * g.monitorRoom + (rest.map fun v => v.category).sum ≤ W9) (hdg : decode c.code g.pc = .ok (.invokestatic index, 3))
    (hpre : ∀ vm₁, s.WarmedH vm₁ → Pre ⟨T.setVm vm₁, locs, cells, slots⟩ argsL.toArray) :
    (∃ (v : Option Value) (vm₁ : Vm) (B : Pt), s.WarmedH vm₁ ∧ Stand p l e R s m args below meth c B.U B.locs B.cells B.slots ∧ Post ⟨T.setVm vm₁, locs, cells, slots⟩ argsL.toArray v B ∧
      ∀ target, Steps p.tables e below (B.U.setTop { g with pc := g.pc + 3, stack := v.toList ++ rest }) target → Steps p.tables e below (T.setTop g) target) ∨
    (∃ (q : Addr) (vm₁ : Vm) (B : Pt), s.WarmedH vm₁ ∧ Stand p l e R s m args below meth c B.U B.locs B.cells B.slots ∧ PostX ⟨T.setVm vm₁, locs, cells, slots⟩ argsL.toArray q B ∧
      Steps p.tables e below (T.setTop g) ((B.U.setTop { g with stack := rest }).pushFrame (.throwing q))) := by
  obtain ⟨mk, methM, cM, hnamed, hmethM, -, -, -, -, -, -, hsigM⟩ := Cond.codeWith_spec hcode
  have hstatic : methM.isStatic = true := Cond.static_spec hnamed hmethM hstat
  obtain ⟨kP, hkP, -⟩ := className_of_methodNamed hnamed
  have hinitP : kP.init = .initialized := Cond.initialized_spec (findClass_of_methodNamed hnamed) hkP hinit
  obtain ⟨vm₁, X₁, hstep₁⟩ := X.invokestatic hexec hown hlink hnamed hmethM hstatic hkP hinitP hy (g := g) hg (argsL := argsL) (rest := rest) (hlen _ hsigM) hstack hdg
  rcases hK m meth c ⟨T.setVm vm₁, locs, cells, slots⟩ { g with stack := rest } (.invokestatic index) mk argsL.toArray X₁ hg hsize hdg hW (X₁.named hnamed) (hpre vm₁ X₁.warmed) with ⟨v, B, X', hpost, hsteps⟩ | ⟨q, B, X', hpost, hsteps⟩
  · exact Or.inl ⟨v, vm₁, B, X₁.warmed, X', hpost, fun target h => hstep₁ _ fun acts => by rw [doInvoke_state]; exact hsteps.trans h⟩
  · exact Or.inr ⟨q, vm₁, B, X₁.warmed, X', hpost, hstep₁ _ fun acts => by rw [doInvoke_state]; exact hsteps⟩
theorem vx_callVW (X : Stand p l e R s m args below meth c T locs cells slots) (hexec : p.tables.exec = Jvm.exec) {own C : String} {index : Nat} {y : MethodName} {bytes : ByteArray} {maxL : Nat} {ret : Option FieldType} {hh : List (Nat × Nat × Nat × Nat)}
    (hown : s.vm.findClass own = some m.cls) (hlink : (Cond.methodLink own index y).before args s = true) (hinst : (Cond.instanceMethod y).before args s = true) (hsel : (Cond.selects C y y).before args s = true)
    (hcode : (Cond.codeWith y bytes maxL ret hh).before args s = true) (hy : y.cls ≠ "java/lang/invoke/MethodHandle" ∧ y.cls ≠ "java/lang/invoke/VarHandle")
    {W9 : Nat} {Pre : Pt → Array Value → Prop} {Post : Pt → Array Value → Option Value → Pt → Prop} (hK : Back l R p e below s args y 3 W9 Pre Post)
    {b : Addr} {cellB : Cell} (hcell : T.heap[b]? = some cellB) (hobj : cellB.vm.isStatics = false) (hcls : s.vm.findClass C = some cellB.cls)
    {g : JFrame} (hg : g.method = m) (hsize : g.locals.size = c.maxLocals) {argsL rest : List Value} (hlen : ∀ sig, parseMethodDescriptor y.desc = some sig → argsL.length = sig.parameters.length)
    (hstack : g.stack = argsL.reverse ++ .ref b :: rest) (hW : 2 * g.monitorRoom + (rest.map fun v => v.category).sum ≤ W9) (hdg : decode c.code g.pc = .ok (.invokevirtual index, 3))
    (hpre : ∀ vm₁, s.WarmedH vm₁ → Pre ⟨T.setVm vm₁, locs, cells, slots⟩ (Value.ref b :: argsL).toArray) :
    ∃ (v : Option Value) (vm₁ : Vm) (B : Pt), s.WarmedH vm₁ ∧ Stand p l e R s m args below meth c B.U B.locs B.cells B.slots ∧ Post ⟨T.setVm vm₁, locs, cells, slots⟩ (Value.ref b :: argsL).toArray v B ∧
      ∀ target, Steps p.tables e below (B.U.setTop { g with pc := g.pc + 3, stack := v.toList ++ rest }) target → Steps p.tables e below (T.setTop g) target := by
  obtain ⟨mk, methM, hnamed, hmethM, hstM, habM⟩ := Cond.instanceMethod_spec hinst
  obtain ⟨m8, methM', cM, hn8, hmethM', -, -, -, -, -, -, hsigM⟩ := Cond.codeWith_spec hcode
  cases Option.some.inj (hn8.symm.trans hnamed)
  cases hmethM.symm.trans hmethM'
  obtain ⟨c2, r2, m2, q1, q2, q3, q4, kP, hkP, hkPi⟩ := Cond.selects_spec hsel
  cases hcls.symm.trans q1
  cases (State.methodFound?_of_named hnamed hy).symm.trans q2
  cases hnamed.symm.trans q3
  have hselP : selectMethod e.platform s.vm cellB.cls mk = .method mk := by rw [Launch.admits_selectMethod X.admits]; exact q4
  obtain ⟨vm₁, X₁, hstep₁⟩ := X.invokevirtual hexec hown hlink hnamed hmethM hstM hkP hkPi hy (a := b) (cell := cellB) hcell
    (fun z h => by rw [h] at hobj; cases hobj) hselP hmethM habM hkP hkPi (g := g) hg (argsL := argsL) (rest := rest) (hlen _ hsigM) hstack hdg
  obtain ⟨v, B, X', hpost, hsteps⟩ := hK m meth c ⟨T.setVm vm₁, locs, cells, slots⟩ { g with stack := rest } (.invokevirtual index) mk (Value.ref b :: argsL).toArray X₁ hg hsize hdg hW (X₁.named hnamed) (hpre vm₁ X₁.warmed)
  exact ⟨v, vm₁, B, X₁.warmed, X', hpost, fun target h => hstep₁ _ fun acts => by rw [doInvoke_state]; exact hsteps.trans h⟩
abbrev vx_CVW (R : Room) (s : State) (args : Array Value) (own C : String) (index : Nat) (y : MethodName) (bytes : ByteArray) (maxL : Nat) (ret : Option FieldType) (hh : List (Nat × Nat × Nat × Nat)) (ws : List Cond) (rm : Room) (mc ms n : Nat) : Prop :=
  (rm.cells = mc ∧ rm.slots = ms ∧ rm.frames + 1 ≤ R.frames ∧ 8 + (maxL + 11) + rm.locals ≤ R.locals ∧ (∀ w ∈ ws, ∀ (a' : Array Value) (U : State), s.WarmedH U.vm → w.before a' U = true) ∧ Cond.codeWith y bytes maxL ret hh ∈ ws) ∧
  (Cond.codeWith y bytes maxL ret hh).before args s = true ∧ (Cond.initialized y.cls).before args s = true ∧ (y.cls ≠ "java/lang/invoke/MethodHandle" ∧ y.cls ≠ "java/lang/invoke/VarHandle") ∧
  (∀ sig, parseMethodDescriptor y.desc = some sig → n = sig.parameters.length) ∧ (Cond.methodLink own index y).before args s = true ∧ (Cond.instanceMethod y).before args s = true ∧ (Cond.selects C y y).before args s = true
theorem vx_cwVW {own C : String} {index maxL mc ms : Nat} {y : MethodName} {bytes : ByteArray} {ret : Option FieldType} {hh : List (Nat × Nat × Nat × Nat)} {Ts ws ws' : List Cond} {rm : Room} (n : Nat) (ht : ∀ w ∈ Ts, w.before args s = true) (hT : GoodIn Ts (wsV own index C y ws)) (hw : ws = Cond.codeWith y bytes maxL ret hh :: ws') (hrc : rm.cells = mc) (hrs : rm.slots = ms)
    (hd : y.cls = C ∧ y.cls ≠ "java/lang/invoke/MethodHandle" ∧ y.cls ≠ "java/lang/invoke/VarHandle" ∧ (parseMethodDescriptor y.desc).map (fun d => d.parameters.length) = some n) (hR : rm.frames + 1 ≤ R.frames ∧ 8 + (maxL + 11) + rm.locals ≤ R.locals) :
    vx_CVW R s args own C index y bytes maxL ret hh ws rm mc ms n := by
  obtain ⟨hC, hd⟩ := hd
  subst hC
  have ok : ∀ w ∈ wsV own index y.cls y ws, w.before args s = true := fun w h => ht w (hT w h).1
  have hG : GoodIn Ts ws := fun w h => hT w (by unfold wsV; exact List.mem_append_right _ h)
  have hc : Cond.codeWith y bytes maxL ret hh ∈ ws := by rw [hw]; exact List.mem_cons_self
  refine ⟨⟨hrc, hrs, hR.1, hR.2, pay_in ht hG, hc⟩, ht _ (hG _ hc).1, ok _ (by simp [wsV]), ⟨hd.1, hd.2.1⟩, fun sig h => ?_, ok _ (by simp [wsV]), ok _ (by simp [wsV]), ok _ (by simp [wsV])⟩
  have h2 := hd.2.2
  rw [h] at h2
  exact (Option.some.inj h2).symm
theorem vx_runVW {y : MethodName} {bytes cc : ByteArray} {maxL nL mc ms n index : Nat} {ret : Option FieldType} {hh : List (Nat × Nat × Nat × Nat)} {ws : List Cond} {rm : Room} {Pc : Array Value → State → Prop} {Qc : Array Value → State → Outcome → State → Prop} {free : Addr → Prop} {Ts : List Cond} {own C : String} {b : Addr} {As rest : List Value} {g : JFrame}
    (S : CallFix p m c cc nL s args Ts own) (hM : Met l y ws rm Pc Qc mc ms free) (cw : vx_CVW R s args own C index y bytes maxL ret hh ws rm mc ms n) (hp : PreV s H C b Pc As)
    (hg : g.method = m) (hn : As.length = n) (hsize : g.locals.size = nL) (hstack : g.stack = As.reverse ++ .ref b :: rest) (hW : 2 * g.monitorRoom + (rest.map fun v => v.category).sum ≤ 8) (hdg : decode cc g.pc = .ok (.invokevirtual index, 3)) (hf : cells + mc ≤ R.cells ∧ slots + ms ≤ R.slots) :
    va_Run p l e R s m args below meth c H locs cells slots mc ms g rest (Qc (Value.ref b :: As).toArray) free := by
  obtain ⟨⟨hrc, hrs, hfr, hlo, hws, hcw⟩, hcode, hini, hy, hlen, hl, hin, hse⟩ := cw
  have hK : Back l R p e below s args y 3 8 (PreOf R mc ms Pc) (PostOf Qc mc ms free) := va_backW (hh := hh) (bytes := bytes) (maxL := maxL) (ret := ret) hM hp.1 hrc hrs hfr hlo hws hcw (fun a' U hW => word_at hW (Or.inl (by first | rfl | simp [Cond.onTables, Cond.keeps, Cond.steady])) hini)
  obtain ⟨hx, hb, hml, ho, -⟩ := S
  obtain ⟨-, ⟨cellB, hcB, hoB, hclB⟩, hPc⟩ := hp
  intro T hT X
  obtain ⟨v, vm₁, ⟨U', l2, c2, s2⟩, hW₁, X', ⟨g', mk, t, L, e1, e2, hq, h1, hL, h2, h3⟩, st⟩ := vx_callVW X hx (C := C) (hh := hh) (bytes := bytes) (maxL := maxL) (ret := ret) ho hl hin hse hcode hy hK (by rw [hT]; exact hcB) hoB hclB hg (hsize.trans hml.symm) (argsL := As) (rest := rest) (fun sig h => hn.trans (hlen sig h)) hstack hW (by rw [hb]; exact hdg)
    (fun vm₁ hW₁ => ⟨hf.1, hf.2, hPc (T.setVm vm₁) hT hW₁⟩)
  dsimp only [Pt.U, Pt.locs, Pt.cells, Pt.slots] at X' e1 e2 h1 h2 h3 st
  subst h1; subst h2; subst h3
  exact ⟨v, (T.setVm vm₁).calling g' mk (Value.ref b :: As).toArray, t, U', L, hT, X', hL, e1, e2, hq, st⟩
section
variable {y : MethodName} {bytes cc : ByteArray} {maxL nL mc ms n index : Nat} {ret : Option FieldType} {ws : List Cond} {rm : Room} {Pc : Array Value → State → Prop} {Qc : Array Value → State → Outcome → State → Prop} {XC : String → State → State → Prop} {free : Addr → Prop} {Ts : List Cond} {own C : String} {b : Addr} {As rest : List Value} {g : JFrame}
theorem vx_runVX {hh : List (Nat × Nat × Nat × Nat)} (S : CallFix p m c cc nL s args Ts own) (hM : vx_Met l y ws rm Pc Qc XC mc ms free) (cw : vx_CVW R s args own C index y bytes maxL ret hh ws rm mc ms n) (hp : PreV s H C b Pc As)
    (hg : g.method = m) (hn : As.length = n) (hsize : g.locals.size = nL) (hstack : g.stack = As.reverse ++ .ref b :: rest) (hW : 2 * g.monitorRoom + (rest.map fun v => v.category).sum ≤ 8) (hdg : decode cc g.pc = .ok (.invokevirtual index, 3)) (hf : cells + mc ≤ R.cells ∧ slots + ms ≤ R.slots) :
    vx_Run p l e R s m args below meth c H locs cells slots mc ms g rest (Qc (Value.ref b :: As).toArray) XC free := by
  obtain ⟨⟨hrc, hrs, hfr, hlo, hws, hcw⟩, hcode, hini, hy, hlen, hl, hin, hse⟩ := cw
  have hK : vx_Back l R p e below s args y 3 8 (PreOf R mc ms Pc) (PostOf Qc mc ms free) (vx_Post XC mc ms free) := vx_backW (hh := hh) (bytes := bytes) (maxL := maxL) (ret := ret) hM hp.1 hrc hrs hfr hlo hws hcw (fun a' U hW => word_at hW (Or.inl (by first | rfl | simp [Cond.onTables, Cond.keeps, Cond.steady])) hini)
  obtain ⟨hx, hb, hml, ho, -⟩ := S
  obtain ⟨-, ⟨cellB, hcB, hoB, hclB⟩, hPc⟩ := hp
  intro T hT X
  rcases vx_callVX X hx (C := C) (hh := hh) (bytes := bytes) (maxL := maxL) (ret := ret) ho hl hin hse hcode hy hK (by rw [hT]; exact hcB) hoB hclB hg (hsize.trans hml.symm) (argsL := As) (rest := rest) (fun sig h => hn.trans (hlen sig h)) hstack hW (by rw [hb]; exact hdg)
    (fun vm₁ hW₁ => ⟨hf.1, hf.2, hPc (T.setVm vm₁) hT hW₁⟩) with ⟨v, vm₁, ⟨U', l2, c2, s2⟩, hW₁, X', ⟨g', mk, t, L, e1, e2, hq, h1, hL, h2, h3⟩, st⟩ | ⟨q, vm₁, ⟨U', l2, c2, s2⟩, hW₁, X', ⟨g', mk, t, L, E, ce, e1, e2, hq, hce, hcv, hcl, h1, hL, h2, h3⟩, st⟩
  · dsimp only [Pt.U, Pt.locs, Pt.cells, Pt.slots] at X' e1 e2 h1 h2 h3 st
    subst h1; subst h2; subst h3
    exact Or.inl ⟨v, (T.setVm vm₁).calling g' mk (Value.ref b :: As).toArray, t, U', L, hT, X', hL, e1, e2, hq, st⟩
  · dsimp only [Pt.U, Pt.locs, Pt.cells, Pt.slots] at X' e1 e2 h1 h2 h3 st hcl
    subst h1; subst h2; subst h3
    exact Or.inr ⟨q, (T.setVm vm₁).calling g' mk (Value.ref b :: As).toArray, t, U', L, E, ce, hT, X', hL, e1, e2, hq, hce, hcv, vx_cls hW₁ hcl, st⟩
theorem vx_runSX {hh : List (Nat × Nat × Nat × Nat)} (S : CallFix p m c cc nL s args Ts own) (hM : vx_Met l y ws rm Pc Qc XC mc ms free) (cw : vx_CSW R s args own index y bytes maxL ret hh ws rm mc ms n) (hp : PreS s H Pc As)
    (hg : g.method = m) (hn : As.length = n) (hsize : g.locals.size = nL) (hstack : g.stack = As.reverse ++ rest) (hW : 2 * g.monitorRoom + (rest.map fun v => v.category).sum ≤ 8) (hdg : decode cc g.pc = .ok (.invokestatic index, 3)) (hf : cells + mc ≤ R.cells ∧ slots + ms ≤ R.slots) :
    vx_Run p l e R s m args below meth c H locs cells slots mc ms g rest (Qc As.toArray) XC free := by
  obtain ⟨⟨hrc, hrs, hfr, hlo, hws, hcw⟩, hcode, hini, hy, hlen, hl, hstt⟩ := cw
  have hK : vx_Back l R p e below s args y 3 8 (PreOf R mc ms Pc) (PostOf Qc mc ms free) (vx_Post XC mc ms free) := vx_backW (hh := hh) (bytes := bytes) (maxL := maxL) (ret := ret) hM hp.1 hrc hrs hfr hlo hws hcw (fun a' U hW => word_at hW (Or.inl (by first | rfl | simp [Cond.onTables, Cond.keeps, Cond.steady])) hini)
  obtain ⟨hx, hb, hml, ho, -⟩ := S
  intro T hT X
  rcases vx_callSX X hx (hh := hh) (bytes := bytes) (maxL := maxL) (ret := ret) ho hl hstt hini hcode hy hK hg (hsize.trans hml.symm) (argsL := As) (rest := rest) (fun sig h => hn.trans (hlen sig h)) hstack hW (by rw [hb]; exact hdg)
    (fun vm₁ hW₁ => ⟨hf.1, hf.2, hp.2 (T.setVm vm₁) hT hW₁⟩) with ⟨v, vm₁, ⟨U', l2, c2, s2⟩, hW₁, X', ⟨g', mk, t, L, e1, e2, hq, h1, hL, h2, h3⟩, st⟩ | ⟨q, vm₁, ⟨U', l2, c2, s2⟩, hW₁, X', ⟨g', mk, t, L, E, ce, e1, e2, hq, hce, hcv, hcl, h1, hL, h2, h3⟩, st⟩
  · dsimp only [Pt.U, Pt.locs, Pt.cells, Pt.slots] at X' e1 e2 h1 h2 h3 st
    subst h1; subst h2; subst h3
    exact Or.inl ⟨v, (T.setVm vm₁).calling g' mk As.toArray, t, U', L, hT, X', hL, e1, e2, hq, st⟩
  · dsimp only [Pt.U, Pt.locs, Pt.cells, Pt.slots] at X' e1 e2 h1 h2 h3 st hcl
    subst h1; subst h2; subst h3
    exact Or.inr ⟨q, (T.setVm vm₁).calling g' mk As.toArray, t, U', L, E, ce, hT, X', hL, e1, e2, hq, hce, hcv, vx_cls hW₁ hcl, st⟩
end
end VXH
theorem vx_ofWH {l : Launch} {y : MethodName} {ws ws' : List Cond} {rm : Room} {Pc : Array Value → State → Prop} {Qc : Array Value → State → Outcome → State → Prop} {XC : String → State → State → Prop} {mc ms : Nat} {free : Addr → Prop} {cc : ByteArray} {maxL : Nat} {ret : Option FieldType} {hh : List (Nat × Nat × Nat × Nat)}
    (hy : plainName y.cls = true) (hw : ws = Cond.codeWith y cc maxL ret hh :: ws')
    (body : ∀ p e s m args below meth c s₁, BodyLoose p l y (headSpec ws rm) cc maxL ret e s m args below meth c s₁ → c.maxLocals = maxL → Pc args s →
      W p l e (headSpec ws rm).room s m args below meth c s.heap [] 0 0 (vx_MQ below Qc XC args s mc ms free) (entryFrame m args maxL)) : vx_Met l y ws rm Pc Qc XC mc ms free := by
  refine MetFree.of_bodyS (code := cc) (maxLocals := maxL) (ret := ret) hy ?_ ?_
  · intro args s m h hn
    obtain ⟨m9, meth, c, hn9, h1, h2, h3, h4, -, h5, h6, -⟩ := Cond.codeWith_spec (atoms_spec (ws := ws) h _ (by rw [hw]; exact List.mem_cons_self))
    cases hn.symm.trans hn9
    exact ⟨meth, c, h1, h2, h3, h4, h5, h6⟩
  · intro p e s m args below meth c s₁ B hml hP _
    have hh0 : s₁.heap = s.heap := by rw [B.state]; rfl
    obtain ⟨t, a1, o, b1, b2, b3⟩ := body p e s m args below meth c s₁ B hml hP s₁ hh0 (Stand.of_body B)
    exact ⟨t, o, a1, b1, b2, b3⟩
/-! ===== END ===== -/
end
section
def bigW : List Cond := lw_tbl.filter goodWord
theorem bw_in {w : Cond} (h : w ∈ tables_1) (hg : goodWord w = true) : w ∈ bigW := List.mem_filter.mpr ⟨List.mem_append_right _ h, hg⟩
theorem bws {w : Cond} (i : Nat) (h : (k2_sels lw_privs)[i]? = some w) (hg : goodWord w = true) : w ∈ bigW := List.mem_filter.mpr ⟨List.mem_append_left _ (List.mem_of_getElem? h), hg⟩
theorem bw1 {w : Cond} (i : Nat) (h : tables_1_1[i]? = some w) (hg : goodWord w = true) : w ∈ bigW := bw_in (List.mem_append_left _ (List.mem_of_getElem? h)) hg
theorem bw2 {w : Cond} (i : Nat) (h : tables_1_2[i]? = some w) (hg : goodWord w = true) : w ∈ bigW := bw_in (List.mem_append_right _ (List.mem_append_left _ (List.mem_of_getElem? h))) hg
theorem bw3 {w : Cond} (i : Nat) (h : tables_1_3[i]? = some w) (hg : goodWord w = true) : w ∈ bigW := bw_in (List.mem_append_right _ (List.mem_append_right _ (List.mem_append_left _ (List.mem_of_getElem? h)))) hg
theorem bw4 {w : Cond} (i : Nat) (h : tables_1_4[i]? = some w) (hg : goodWord w = true) : w ∈ bigW := bw_in (List.mem_append_right _ (List.mem_append_right _ (List.mem_append_right _ (List.mem_append_left _ (List.mem_of_getElem? h))))) hg
theorem bw5 {w : Cond} (i : Nat) (h : tables_1_5[i]? = some w) (hg : goodWord w = true) : w ∈ bigW := bw_in (List.mem_append_right _ (List.mem_append_right _ (List.mem_append_right _ (List.mem_append_right _ (List.mem_append_left _ (List.mem_of_getElem? h)))))) hg
theorem bw6 {w : Cond} (i : Nat) (h : tables_1_6[i]? = some w) (hg : goodWord w = true) : w ∈ bigW := bw_in (List.mem_append_right _ (List.mem_append_right _ (List.mem_append_right _ (List.mem_append_right _ (List.mem_append_right _ (List.mem_of_getElem? h)))))) hg
set_option maxRecDepth 20000 in
theorem wd_0 : (Cond.initialized "HeadDotsLaw") ∈ bigW := bw1 0 rfl rfl
set_option maxRecDepth 20000 in
theorem wd_1 : (Cond.initialized "HeadDots") ∈ bigW := bw1 1 rfl rfl
set_option maxRecDepth 20000 in
theorem wd_2 : (Cond.initialized "HeadDots$State") ∈ bigW := bw1 2 rfl rfl
set_option maxRecDepth 20000 in
theorem wd_3 : (Cond.initialized "java/lang/Math") ∈ bigW := bw1 3 rfl rfl
set_option maxRecDepth 20000 in
theorem wd_4 : (Cond.initialized "java/lang/System") ∈ bigW := bw1 4 rfl rfl
set_option maxRecDepth 20000 in
theorem wd_5 : (Cond.initialized "HeadDots$Strip") ∈ bigW := bw1 5 rfl rfl
set_option maxRecDepth 20000 in
theorem wd_6 : (Cond.initialized "HeadDots$Totals") ∈ bigW := bw1 6 rfl rfl
set_option maxRecDepth 20000 in
theorem wd_7 : (Cond.initialized "HeadDots$Buffer") ∈ bigW := bw1 7 rfl rfl
set_option maxRecDepth 20000 in
theorem wd_8 : (Cond.initialized "HeadDots$Reader") ∈ bigW := bw1 8 rfl rfl
set_option maxRecDepth 20000 in
theorem wd_9 : (Cond.initialized "HeadDotsModel") ∈ bigW := bw1 9 rfl rfl
set_option maxRecDepth 20000 in
theorem wd_13 : (Cond.initialized "java/lang/IllegalArgumentException") ∈ bigW := bw1 13 rfl rfl
set_option maxRecDepth 20000 in
theorem wd_14 : (Cond.initialized "java/lang/Integer") ∈ bigW := bw1 14 rfl rfl
set_option maxRecDepth 20000 in
theorem wd_15 : (Cond.initialized "java/lang/IndexOutOfBoundsException") ∈ bigW := bw1 15 rfl rfl
set_option maxRecDepth 20000 in
theorem wd_16 : (Cond.initialized "java/lang/IllegalStateException") ∈ bigW := bw1 16 rfl rfl
set_option maxRecDepth 20000 in
theorem wd_17 : (Cond.initialized "java/lang/String") ∈ bigW := bw1 17 rfl rfl
set_option maxRecDepth 20000 in
theorem wd_18 : (Cond.initialized "java/lang/StringLatin1") ∈ bigW := bw1 18 rfl rfl
set_option maxRecDepth 20000 in
theorem wd_19 : (Cond.initialized "jdk/internal/util/Preconditions") ∈ bigW := bw1 19 rfl rfl
set_option maxRecDepth 20000 in
theorem wd_20 : (Cond.initialized "java/lang/StringUTF16") ∈ bigW := bw1 20 rfl rfl
set_option maxRecDepth 20000 in
theorem wd_21 : (Cond.initialized "java/lang/Double") ∈ bigW := bw1 21 rfl rfl
set_option maxRecDepth 20000 in
theorem wd_22 : (Cond.initialized "java/lang/Float") ∈ bigW := bw1 22 rfl rfl
set_option maxRecDepth 20000 in
theorem wd_23 : (Cond.classLink "HeadDotsLaw" 8 "HeadDots") ∈ bigW := bw1 23 rfl rfl
set_option maxRecDepth 20000 in
theorem wd_24 : (Cond.instantiable "HeadDots" 8) ∈ bigW := bw1 24 rfl rfl
set_option maxRecDepth 20000 in
theorem wd_25 : (Cond.methodLink "HeadDotsLaw" 69 ({ cls := "HeadDots", name := "<init>", desc := "()V" } : MethodName)) ∈ bigW := bw1 25 rfl rfl
set_option maxRecDepth 20000 in
theorem wd_26 : (Cond.instanceMethod ({ cls := "HeadDots", name := "<init>", desc := "()V" } : MethodName)) ∈ bigW := bw1 26 rfl rfl
set_option maxRecDepth 20000 in
theorem wd_27 : (Cond.code ({ cls := "HeadDots", name := "<init>", desc := "()V" } : MethodName) prog_1_method_1_code 2 (Option.none : Option ClassFile.FieldType)) ∈ bigW := bw1 27 rfl rfl
set_option maxRecDepth 20000 in
theorem wd_28 : (Cond.methodLink "HeadDots" 1 ({ cls := "java/lang/Object", name := "<init>", desc := "()V" } : MethodName)) ∈ bigW := bw1 28 rfl rfl
set_option maxRecDepth 20000 in
theorem wd_29 : (Cond.instanceMethod ({ cls := "java/lang/Object", name := "<init>", desc := "()V" } : MethodName)) ∈ bigW := bw1 29 rfl rfl
set_option maxRecDepth 20000 in
theorem wd_30 : (Cond.code ({ cls := "java/lang/Object", name := "<init>", desc := "()V" } : MethodName) object_method_1_code 1 (Option.none : Option ClassFile.FieldType)) ∈ bigW := bw1 30 rfl rfl
set_option maxRecDepth 20000 in
theorem wd_31 : (Cond.classLink "HeadDots" 7 "HeadDots$State") ∈ bigW := bw1 31 rfl rfl
set_option maxRecDepth 20000 in
theorem wd_32 : (Cond.instantiable "HeadDots$State" 8) ∈ bigW := bw1 32 rfl rfl
set_option maxRecDepth 20000 in
theorem wd_33 : (Cond.methodLink "HeadDots" 9 ({ cls := "HeadDots$State", name := "<init>", desc := "()V" } : MethodName)) ∈ bigW := bw1 33 rfl rfl
set_option maxRecDepth 20000 in
theorem wd_34 : (Cond.instanceMethod ({ cls := "HeadDots$State", name := "<init>", desc := "()V" } : MethodName)) ∈ bigW := bw1 34 rfl rfl
set_option maxRecDepth 20000 in
theorem wd_35 : (Cond.code ({ cls := "HeadDots$State", name := "<init>", desc := "()V" } : MethodName) prog_4_method_1_code 1 (Option.none : Option ClassFile.FieldType)) ∈ bigW := bw1 35 rfl rfl
set_option maxRecDepth 20000 in
theorem wd_36 : (Cond.methodLink "HeadDots$State" 3 ({ cls := "java/lang/Object", name := "<init>", desc := "()V" } : MethodName)) ∈ bigW := bw1 36 rfl rfl
set_option maxRecDepth 20000 in
theorem wd_40 : (Cond.static ({ cls := "HeadDots", name := "copyRow", desc := "([I[I)V" } : MethodName)) ∈ bigW := bw1 40 rfl rfl
set_option maxRecDepth 20000 in
theorem wd_41 : (Cond.code ({ cls := "HeadDots", name := "copyRow", desc := "([I[I)V" } : MethodName) prog_1_method_46_code 2 (Option.none : Option ClassFile.FieldType)) ∈ bigW := bw1 41 rfl rfl
set_option maxRecDepth 20000 in
theorem wd_42 : (Cond.methodLink "HeadDots" 313 Lib.Math.min.name) ∈ bigW := bw1 42 (by decide +kernel) (by decide +kernel)
set_option maxRecDepth 20000 in
theorem wd_43 : (Cond.static Lib.Math.min.name) ∈ bigW := bw1 43 (by decide +kernel) (by decide +kernel)
set_option maxRecDepth 20000 in
theorem wd_44 : (Cond.code Lib.Math.min.name Lib.Math.min.code 2 (some .int)) ∈ bigW := bw1 44 (by decide +kernel) (by decide +kernel)
set_option maxRecDepth 20000 in
theorem wd_45 : (Cond.methodLink "HeadDots" 316 ({ cls := "java/lang/System", name := "arraycopy", desc := "(Ljava/lang/Object;ILjava/lang/Object;II)V" } : MethodName)) ∈ bigW := bw1 45 rfl rfl
set_option maxRecDepth 20000 in
theorem wd_46 : (Cond.static ({ cls := "java/lang/System", name := "arraycopy", desc := "(Ljava/lang/Object;ILjava/lang/Object;II)V" } : MethodName)) ∈ bigW := bw1 46 rfl rfl
set_option maxRecDepth 20000 in
theorem wd_47 : (Cond.native ({ cls := "java/lang/System", name := "arraycopy", desc := "(Ljava/lang/Object;ILjava/lang/Object;II)V" } : MethodName)) ∈ bigW := bw1 47 rfl rfl
set_option maxRecDepth 20000 in
theorem wd_48 : (Cond.classLink "HeadDots$State" 28 "HeadDots$Strip") ∈ bigW := bw1 48 rfl rfl
set_option maxRecDepth 20000 in
theorem wd_49 : (Cond.instantiable "HeadDots$Strip" 4) ∈ bigW := bw1 49 rfl rfl
set_option maxRecDepth 20000 in
theorem wd_50 : (Cond.methodLink "HeadDots$State" 30 ({ cls := "HeadDots$Strip", name := "<init>", desc := "()V" } : MethodName)) ∈ bigW := bw1 50 rfl rfl
set_option maxRecDepth 20000 in
theorem wd_51 : (Cond.instanceMethod ({ cls := "HeadDots$Strip", name := "<init>", desc := "()V" } : MethodName)) ∈ bigW := bw1 51 rfl rfl
set_option maxRecDepth 20000 in
theorem wd_52 : (Cond.code ({ cls := "HeadDots$Strip", name := "<init>", desc := "()V" } : MethodName) prog_5_method_1_code 1 (Option.none : Option ClassFile.FieldType)) ∈ bigW := bw1 52 rfl rfl
set_option maxRecDepth 20000 in
theorem wd_53 : (Cond.methodLink "HeadDots$Strip" 3 ({ cls := "java/lang/Object", name := "<init>", desc := "()V" } : MethodName)) ∈ bigW := bw1 53 rfl rfl
set_option maxRecDepth 20000 in
theorem wd_54 : (Cond.fieldLink "HeadDots$Strip" 11 "HeadDots$Strip" "dark" "[I") ∈ bigW := bw1 54 rfl rfl
set_option maxRecDepth 20000 in
theorem wd_55 : (Cond.fieldLink "HeadDots$Strip" 15 "HeadDots$Strip" "faint" "[I") ∈ bigW := bw1 55 rfl rfl
set_option maxRecDepth 20000 in
theorem wd_56 : (Cond.fieldLink "HeadDots$Strip" 18 "HeadDots$Strip" "parts" "[I") ∈ bigW := bw1 56 rfl rfl
set_option maxRecDepth 20000 in
theorem wd_57 : (Cond.fieldLink "HeadDots$Strip" 21 "HeadDots$Strip" "size" "I") ∈ bigW := bw1 57 rfl rfl
set_option maxRecDepth 20000 in
theorem wd_60 : (Cond.laysFinal "HeadDots$Strip" "HeadDots$Strip" "dark" "[I") ∈ bigW := bw1 60 rfl rfl
set_option maxRecDepth 20000 in
theorem wd_62 : (Cond.laysFinal "HeadDots$Strip" "HeadDots$Strip" "faint" "[I") ∈ bigW := bw1 62 rfl rfl
set_option maxRecDepth 20000 in
theorem wd_64 : (Cond.laysFinal "HeadDots$Strip" "HeadDots$Strip" "parts" "[I") ∈ bigW := bw1 64 rfl rfl
set_option maxRecDepth 20000 in
theorem wd_66 : (Cond.lays "HeadDots$Strip" "HeadDots$Strip" "size" "I") ∈ bigW := bw1 66 rfl rfl
set_option maxRecDepth 20000 in
theorem wd_69 : (Cond.arrayClass ClassFile.FieldType.int) ∈ bigW := bw1 69 rfl rfl
set_option maxRecDepth 20000 in
theorem wd_70 : (Cond.classLink "HeadDots$State" 35 "HeadDots$Totals") ∈ bigW := bw1 70 rfl rfl
set_option maxRecDepth 20000 in
theorem wd_71 : (Cond.instantiable "HeadDots$Totals" 9) ∈ bigW := bw1 71 rfl rfl
set_option maxRecDepth 20000 in
theorem wd_72 : (Cond.methodLink "HeadDots$State" 37 ({ cls := "HeadDots$Totals", name := "<init>", desc := "()V" } : MethodName)) ∈ bigW := bw1 72 rfl rfl
set_option maxRecDepth 20000 in
theorem wd_73 : (Cond.instanceMethod ({ cls := "HeadDots$Totals", name := "<init>", desc := "()V" } : MethodName)) ∈ bigW := bw1 73 rfl rfl
set_option maxRecDepth 20000 in
theorem wd_74 : (Cond.code ({ cls := "HeadDots$Totals", name := "<init>", desc := "()V" } : MethodName) prog_6_method_1_code 1 (Option.none : Option ClassFile.FieldType)) ∈ bigW := bw1 74 rfl rfl
set_option maxRecDepth 20000 in
theorem wd_75 : (Cond.methodLink "HeadDots$Totals" 3 ({ cls := "java/lang/Object", name := "<init>", desc := "()V" } : MethodName)) ∈ bigW := bw1 75 rfl rfl
set_option maxRecDepth 20000 in
theorem wd_76 : (Cond.fieldLink "HeadDots$Totals" 9 "HeadDots$Totals" "dotsOf" "[I") ∈ bigW := bw1 76 rfl rfl
set_option maxRecDepth 20000 in
theorem wd_78 : (Cond.fieldLink "HeadDots$Totals" 15 "HeadDots$Totals" "faintOf" "[I") ∈ bigW := bw1 78 rfl rfl
set_option maxRecDepth 20000 in
theorem wd_80 : (Cond.fieldLink "HeadDots$Totals" 18 "HeadDots$Totals" "time" "I") ∈ bigW := bw1 80 rfl rfl
set_option maxRecDepth 20000 in
theorem wd_83 : (Cond.fieldLink "HeadDots$Totals" 22 "HeadDots$Totals" "lines" "I") ∈ bigW := bw1 83 rfl rfl
set_option maxRecDepth 20000 in
theorem wd_85 : (Cond.fieldLink "HeadDots$Totals" 25 "HeadDots$Totals" "parts" "I") ∈ bigW := bw1 85 rfl rfl
set_option maxRecDepth 20000 in
theorem wd_87 : (Cond.fieldLink "HeadDots$Totals" 28 "HeadDots$Totals" "waits" "I") ∈ bigW := bw1 87 rfl rfl
set_option maxRecDepth 20000 in
theorem wd_90 : (Cond.fieldLink "HeadDots$Totals" 31 "HeadDots$Totals" "dots" "I") ∈ bigW := bw1 90 rfl rfl
set_option maxRecDepth 20000 in
theorem wd_92 : (Cond.fieldLink "HeadDots$Totals" 34 "HeadDots$Totals" "faint" "I") ∈ bigW := bw1 92 rfl rfl
set_option maxRecDepth 20000 in
theorem wd_94 : (Cond.fieldLink "HeadDots$Totals" 37 "HeadDots$Totals" "hottest" "I") ∈ bigW := bw1 94 rfl rfl
set_option maxRecDepth 20000 in
theorem wd_97 : (Cond.laysFinal "HeadDots$Totals" "HeadDots$Totals" "dotsOf" "[I") ∈ bigW := bw1 97 rfl rfl
set_option maxRecDepth 20000 in
theorem wd_99 : (Cond.laysFinal "HeadDots$Totals" "HeadDots$Totals" "faintOf" "[I") ∈ bigW := bw1 99 rfl rfl
set_option maxRecDepth 20000 in
theorem wd_101 : (Cond.lays "HeadDots$Totals" "HeadDots$Totals" "time" "I") ∈ bigW := bw1 101 rfl rfl
set_option maxRecDepth 20000 in
theorem wd_103 : (Cond.lays "HeadDots$Totals" "HeadDots$Totals" "lines" "I") ∈ bigW := bw1 103 rfl rfl
set_option maxRecDepth 20000 in
theorem wd_105 : (Cond.lays "HeadDots$Totals" "HeadDots$Totals" "parts" "I") ∈ bigW := bw1 105 rfl rfl
set_option maxRecDepth 20000 in
theorem wd_107 : (Cond.lays "HeadDots$Totals" "HeadDots$Totals" "waits" "I") ∈ bigW := bw1 107 rfl rfl
set_option maxRecDepth 20000 in
theorem wd_109 : (Cond.lays "HeadDots$Totals" "HeadDots$Totals" "dots" "I") ∈ bigW := bw1 109 rfl rfl
set_option maxRecDepth 20000 in
theorem wd_111 : (Cond.lays "HeadDots$Totals" "HeadDots$Totals" "faint" "I") ∈ bigW := bw1 111 rfl rfl
set_option maxRecDepth 20000 in
theorem wd_113 : (Cond.lays "HeadDots$Totals" "HeadDots$Totals" "hottest" "I") ∈ bigW := bw1 113 rfl rfl
set_option maxRecDepth 20000 in
theorem wd_116 : (Cond.fieldLink "HeadDots$State" 9 "HeadDots$State" "heat" "[I") ∈ bigW := bw1 116 rfl rfl
set_option maxRecDepth 20000 in
theorem wd_117 : (Cond.fieldLink "HeadDots$State" 15 "HeadDots$State" "pulses" "[I") ∈ bigW := bw1 117 rfl rfl
set_option maxRecDepth 20000 in
theorem wd_118 : (Cond.fieldLink "HeadDots$State" 21 "HeadDots$State" "settings" "[I") ∈ bigW := bw1 118 rfl rfl
set_option maxRecDepth 20000 in
theorem wd_119 : (Cond.fieldLink "HeadDots$State" 31 "HeadDots$State" "strip" "LHeadDots$Strip;") ∈ bigW := bw1 119 rfl rfl
set_option maxRecDepth 20000 in
theorem wd_121 : (Cond.fieldLink "HeadDots$State" 38 "HeadDots$State" "totals" "LHeadDots$Totals;") ∈ bigW := bw1 121 rfl rfl
set_option maxRecDepth 20000 in
theorem wd_123 : (Cond.fieldLink "HeadDots$State" 42 "HeadDots$State" "lastLine" "I") ∈ bigW := bw1 123 rfl rfl
set_option maxRecDepth 20000 in
theorem wd_124 : (Cond.fieldLink "HeadDots$State" 46 "HeadDots$State" "lineBefore" "I") ∈ bigW := bw1 124 rfl rfl
set_option maxRecDepth 20000 in
theorem wd_125 : (Cond.fieldLink "HeadDots$State" 49 "HeadDots$State" "paperKind" "I") ∈ bigW := bw1 125 rfl rfl
set_option maxRecDepth 20000 in
theorem wd_127 : (Cond.laysFinal "HeadDots$State" "HeadDots$State" "heat" "[I") ∈ bigW := bw1 127 rfl rfl
set_option maxRecDepth 20000 in
theorem wd_129 : (Cond.laysFinal "HeadDots$State" "HeadDots$State" "pulses" "[I") ∈ bigW := bw1 129 rfl rfl
set_option maxRecDepth 20000 in
theorem wd_131 : (Cond.laysFinal "HeadDots$State" "HeadDots$State" "settings" "[I") ∈ bigW := bw1 131 rfl rfl
set_option maxRecDepth 20000 in
theorem wd_133 : (Cond.laysFinal "HeadDots$State" "HeadDots$State" "strip" "LHeadDots$Strip;") ∈ bigW := bw1 133 rfl rfl
set_option maxRecDepth 20000 in
theorem wd_135 : (Cond.laysFinal "HeadDots$State" "HeadDots$State" "totals" "LHeadDots$Totals;") ∈ bigW := bw1 135 rfl rfl
set_option maxRecDepth 20000 in
theorem wd_137 : (Cond.lays "HeadDots$State" "HeadDots$State" "lastLine" "I") ∈ bigW := bw1 137 rfl rfl
set_option maxRecDepth 20000 in
theorem wd_139 : (Cond.lays "HeadDots$State" "HeadDots$State" "lineBefore" "I") ∈ bigW := bw1 139 rfl rfl
set_option maxRecDepth 20000 in
theorem wd_141 : (Cond.lays "HeadDots$State" "HeadDots$State" "paperKind" "I") ∈ bigW := bw1 141 rfl rfl
set_option maxRecDepth 20000 in
theorem wd_145 : (Cond.classLink "HeadDots" 26 "HeadDots$Buffer") ∈ bigW := bw1 145 rfl rfl
set_option maxRecDepth 20000 in
theorem wd_146 : (Cond.instantiable "HeadDots$Buffer" 2) ∈ bigW := bw1 146 rfl rfl
set_option maxRecDepth 20000 in
theorem wd_147 : (Cond.methodLink "HeadDots" 28 ({ cls := "HeadDots$Buffer", name := "<init>", desc := "()V" } : MethodName)) ∈ bigW := bw1 147 rfl rfl
set_option maxRecDepth 20000 in
theorem wd_148 : (Cond.instanceMethod ({ cls := "HeadDots$Buffer", name := "<init>", desc := "()V" } : MethodName)) ∈ bigW := bw1 148 rfl rfl
set_option maxRecDepth 20000 in
theorem wd_149 : (Cond.code ({ cls := "HeadDots$Buffer", name := "<init>", desc := "()V" } : MethodName) prog_2_method_1_code 1 (Option.none : Option ClassFile.FieldType)) ∈ bigW := bw1 149 rfl rfl
set_option maxRecDepth 20000 in
theorem wd_150 : (Cond.methodLink "HeadDots$Buffer" 1 ({ cls := "java/lang/Object", name := "<init>", desc := "()V" } : MethodName)) ∈ bigW := bw1 150 rfl rfl
set_option maxRecDepth 20000 in
theorem wd_151 : (Cond.fieldLink "HeadDots$Buffer" 9 "HeadDots$Buffer" "codes" "[I") ∈ bigW := bw1 151 rfl rfl
set_option maxRecDepth 20000 in
theorem wd_152 : (Cond.fieldLink "HeadDots$Buffer" 13 "HeadDots$Buffer" "length" "I") ∈ bigW := bw1 152 rfl rfl
set_option maxRecDepth 20000 in
theorem wd_155 : (Cond.laysFinal "HeadDots$Buffer" "HeadDots$Buffer" "codes" "[I") ∈ bigW := bw1 155 rfl rfl
set_option maxRecDepth 20000 in
theorem wd_157 : (Cond.lays "HeadDots$Buffer" "HeadDots$Buffer" "length" "I") ∈ bigW := bw1 157 rfl rfl
set_option maxRecDepth 20000 in
theorem wd_160 : (Cond.classLink "HeadDots" 33 "HeadDots$Reader") ∈ bigW := bw1 160 rfl rfl
set_option maxRecDepth 20000 in
theorem wd_161 : (Cond.instantiable "HeadDots$Reader" 10) ∈ bigW := bw1 161 rfl rfl
set_option maxRecDepth 20000 in
theorem wd_162 : (Cond.methodLink "HeadDots" 35 ({ cls := "HeadDots$Reader", name := "<init>", desc := "()V" } : MethodName)) ∈ bigW := bw1 162 rfl rfl
set_option maxRecDepth 20000 in
theorem wd_163 : (Cond.instanceMethod ({ cls := "HeadDots$Reader", name := "<init>", desc := "()V" } : MethodName)) ∈ bigW := bw1 163 rfl rfl
set_option maxRecDepth 20000 in
theorem wd_164 : (Cond.code ({ cls := "HeadDots$Reader", name := "<init>", desc := "()V" } : MethodName) prog_3_method_1_code 1 (Option.none : Option ClassFile.FieldType)) ∈ bigW := bw1 164 rfl rfl
set_option maxRecDepth 20000 in
theorem wd_165 : (Cond.methodLink "HeadDots$Reader" 3 ({ cls := "java/lang/Object", name := "<init>", desc := "()V" } : MethodName)) ∈ bigW := bw1 165 rfl rfl
set_option maxRecDepth 20000 in
theorem wd_167 : (Cond.fieldLink "HeadDots$Reader" 21 "HeadDots$Reader" "mode" "I") ∈ bigW := bw1 167 rfl rfl
set_option maxRecDepth 20000 in
theorem wd_168 : (Cond.fieldLink "HeadDots$Reader" 24 "HeadDots$Reader" "modeBehindWord" "I") ∈ bigW := bw1 168 rfl rfl
set_option maxRecDepth 20000 in
theorem wd_169 : (Cond.fieldLink "HeadDots$Reader" 11 "HeadDots$Reader" "word" "Ljava/lang/String;") ∈ bigW := bw1 169 rfl rfl
set_option maxRecDepth 20000 in
theorem wd_170 : (Cond.fieldLink "HeadDots$Reader" 17 "HeadDots$Reader" "wordAt" "I") ∈ bigW := bw1 170 rfl rfl
set_option maxRecDepth 20000 in
theorem wd_171 : (Cond.fieldLink "HeadDots$Reader" 27 "HeadDots$Reader" "kind" "I") ∈ bigW := bw1 171 rfl rfl
set_option maxRecDepth 20000 in
theorem wd_173 : (Cond.fieldLink "HeadDots$Reader" 30 "HeadDots$Reader" "dots" "I") ∈ bigW := bw1 173 rfl rfl
set_option maxRecDepth 20000 in
theorem wd_175 : (Cond.fieldLink "HeadDots$Reader" 33 "HeadDots$Reader" "dotsDigits" "I") ∈ bigW := bw1 175 rfl rfl
set_option maxRecDepth 20000 in
theorem wd_176 : (Cond.fieldLink "HeadDots$Reader" 36 "HeadDots$Reader" "paperKind" "I") ∈ bigW := bw1 176 rfl rfl
set_option maxRecDepth 20000 in
theorem wd_178 : (Cond.fieldLink "HeadDots$Reader" 39 "HeadDots$Reader" "number" "I") ∈ bigW := bw1 178 rfl rfl
set_option maxRecDepth 20000 in
theorem wd_180 : (Cond.fieldLink "HeadDots$Reader" 42 "HeadDots$Reader" "numberMost" "I") ∈ bigW := bw1 180 rfl rfl
set_option maxRecDepth 20000 in
theorem wd_181 : (Cond.lays "HeadDots$Reader" "HeadDots$Reader" "mode" "I") ∈ bigW := bw1 181 rfl rfl
set_option maxRecDepth 20000 in
theorem wd_183 : (Cond.lays "HeadDots$Reader" "HeadDots$Reader" "modeBehindWord" "I") ∈ bigW := bw1 183 rfl rfl
set_option maxRecDepth 20000 in
theorem wd_185 : (Cond.lays "HeadDots$Reader" "HeadDots$Reader" "word" "Ljava/lang/String;") ∈ bigW := bw1 185 rfl rfl
set_option maxRecDepth 20000 in
theorem wd_187 : (Cond.lays "HeadDots$Reader" "HeadDots$Reader" "wordAt" "I") ∈ bigW := bw1 187 rfl rfl
set_option maxRecDepth 20000 in
theorem wd_189 : (Cond.lays "HeadDots$Reader" "HeadDots$Reader" "kind" "I") ∈ bigW := bw1 189 rfl rfl
set_option maxRecDepth 20000 in
theorem wd_191 : (Cond.lays "HeadDots$Reader" "HeadDots$Reader" "dots" "I") ∈ bigW := bw1 191 rfl rfl
set_option maxRecDepth 20000 in
theorem wd_193 : (Cond.lays "HeadDots$Reader" "HeadDots$Reader" "dotsDigits" "I") ∈ bigW := bw1 193 rfl rfl
set_option maxRecDepth 20000 in
theorem wd_195 : (Cond.lays "HeadDots$Reader" "HeadDots$Reader" "paperKind" "I") ∈ bigW := bw1 195 rfl rfl
set_option maxRecDepth 20000 in
theorem wd_197 : (Cond.lays "HeadDots$Reader" "HeadDots$Reader" "number" "I") ∈ bigW := bw1 197 rfl rfl
set_option maxRecDepth 20000 in
theorem wd_199 : (Cond.lays "HeadDots$Reader" "HeadDots$Reader" "numberMost" "I") ∈ bigW := bw1 199 rfl rfl
set_option maxRecDepth 20000 in
theorem wd_202 : (Cond.arrayClass ClassFile.FieldType.byte) ∈ bigW := bw1 202 rfl rfl
set_option maxRecDepth 20000 in
theorem wd_203 : (Cond.fieldLink "HeadDots" 10 "HeadDots" "now" "LHeadDots$State;") ∈ bigW := bw1 203 rfl rfl
set_option maxRecDepth 20000 in
theorem wd_204 : (Cond.fieldLink "HeadDots" 16 "HeadDots" "snapshot" "LHeadDots$State;") ∈ bigW := bw1 204 rfl rfl
set_option maxRecDepth 20000 in
theorem wd_205 : (Cond.fieldLink "HeadDots" 19 "HeadDots" "trial" "LHeadDots$State;") ∈ bigW := bw1 205 rfl rfl
set_option maxRecDepth 20000 in
theorem wd_206 : (Cond.fieldLink "HeadDots" 22 "HeadDots" "saved" "[LHeadDots$State;") ∈ bigW := bw1 206 rfl rfl
set_option maxRecDepth 20000 in
theorem wd_207 : (Cond.fieldLink "HeadDots" 29 "HeadDots" "buffer" "LHeadDots$Buffer;") ∈ bigW := bw1 207 rfl rfl
set_option maxRecDepth 20000 in
theorem wd_208 : (Cond.fieldLink "HeadDots" 36 "HeadDots" "reader" "LHeadDots$Reader;") ∈ bigW := bw1 208 rfl rfl
set_option maxRecDepth 20000 in
theorem wd_209 : (Cond.fieldLink "HeadDots" 40 "HeadDots" "savedCount" "I") ∈ bigW := bw1 209 rfl rfl
set_option maxRecDepth 20000 in
theorem wd_210 : (Cond.fieldLink "HeadDots" 44 "HeadDots" "hasSnapshot" "Z") ∈ bigW := bw1 210 rfl rfl
set_option maxRecDepth 20000 in
theorem wd_211 : (Cond.laysFinal "HeadDots" "HeadDots" "now" "LHeadDots$State;") ∈ bigW := bw1 211 rfl rfl
set_option maxRecDepth 20000 in
theorem wd_213 : (Cond.laysFinal "HeadDots" "HeadDots" "snapshot" "LHeadDots$State;") ∈ bigW := bw1 213 rfl rfl
set_option maxRecDepth 20000 in
theorem wd_215 : (Cond.laysFinal "HeadDots" "HeadDots" "trial" "LHeadDots$State;") ∈ bigW := bw1 215 rfl rfl
set_option maxRecDepth 20000 in
theorem wd_217 : (Cond.laysFinal "HeadDots" "HeadDots" "saved" "[LHeadDots$State;") ∈ bigW := bw1 217 rfl rfl
set_option maxRecDepth 20000 in
theorem wd_219 : (Cond.laysFinal "HeadDots" "HeadDots" "buffer" "LHeadDots$Buffer;") ∈ bigW := bw1 219 rfl rfl
set_option maxRecDepth 20000 in
theorem wd_221 : (Cond.laysFinal "HeadDots" "HeadDots" "reader" "LHeadDots$Reader;") ∈ bigW := bw1 221 rfl rfl
set_option maxRecDepth 20000 in
theorem wd_223 : (Cond.lays "HeadDots" "HeadDots" "savedCount" "I") ∈ bigW := bw1 223 rfl rfl
set_option maxRecDepth 20000 in
theorem wd_225 : (Cond.lays "HeadDots" "HeadDots" "hasSnapshot" "Z") ∈ bigW := bw1 225 rfl rfl
set_option maxRecDepth 20000 in
theorem wd_228 : (Cond.methodLink "HeadDotsLaw" 98 ({ cls := "HeadDots", name := "clearBuffer", desc := "()I" } : MethodName)) ∈ bigW := bw1 228 rfl rfl
set_option maxRecDepth 20000 in
theorem wd_229 : (Cond.instanceMethod ({ cls := "HeadDots", name := "clearBuffer", desc := "()I" } : MethodName)) ∈ bigW := bw1 229 rfl rfl
set_option maxRecDepth 20000 in
theorem wd_230 : (Cond.selects "HeadDots" ({ cls := "HeadDots", name := "clearBuffer", desc := "()I" } : MethodName) ({ cls := "HeadDots", name := "clearBuffer", desc := "()I" } : MethodName)) ∈ bigW := bw1 230 rfl rfl
set_option maxRecDepth 20000 in
theorem wd_231 : (Cond.code ({ cls := "HeadDots", name := "clearBuffer", desc := "()I" } : MethodName) prog_1_method_8_code 2 (Option.some ClassFile.FieldType.int)) ∈ bigW := bw1 231 rfl rfl
set_option maxRecDepth 20000 in
theorem wd_232 : (Cond.methodLink "HeadDotsLaw" 102 ({ cls := "HeadDots", name := "firstError", desc := "()I" } : MethodName)) ∈ bigW := bw1 232 rfl rfl
set_option maxRecDepth 20000 in
theorem wd_233 : (Cond.instanceMethod ({ cls := "HeadDots", name := "firstError", desc := "()I" } : MethodName)) ∈ bigW := bw1 233 rfl rfl
set_option maxRecDepth 20000 in
theorem wd_234 : (Cond.selects "HeadDots" ({ cls := "HeadDots", name := "firstError", desc := "()I" } : MethodName) ({ cls := "HeadDots", name := "firstError", desc := "()I" } : MethodName)) ∈ bigW := bw1 234 rfl rfl
set_option maxRecDepth 20000 in
theorem wd_235 : (Cond.code ({ cls := "HeadDots", name := "firstError", desc := "()I" } : MethodName) prog_1_method_9_code 1 (Option.some ClassFile.FieldType.int)) ∈ bigW := bw1 235 rfl rfl
set_option maxRecDepth 20000 in
theorem wd_236 : (Cond.methodLink "HeadDots" 149 ({ cls := "HeadDots$Reader", name := "readUntilError", desc := "(LHeadDots$Buffer;)I" } : MethodName)) ∈ bigW := bw1 236 rfl rfl
set_option maxRecDepth 20000 in
theorem wd_237 : (Cond.instanceMethod ({ cls := "HeadDots$Reader", name := "readUntilError", desc := "(LHeadDots$Buffer;)I" } : MethodName)) ∈ bigW := bw1 237 rfl rfl
set_option maxRecDepth 20000 in
theorem wd_238 : (Cond.selects "HeadDots$Reader" ({ cls := "HeadDots$Reader", name := "readUntilError", desc := "(LHeadDots$Buffer;)I" } : MethodName) ({ cls := "HeadDots$Reader", name := "readUntilError", desc := "(LHeadDots$Buffer;)I" } : MethodName)) ∈ bigW := bw1 238 rfl rfl
set_option maxRecDepth 20000 in
theorem wd_239 : (Cond.code ({ cls := "HeadDots$Reader", name := "readUntilError", desc := "(LHeadDots$Buffer;)I" } : MethodName) prog_3_method_3_code 3 (Option.some ClassFile.FieldType.int)) ∈ bigW := bw1 239 rfl rfl
set_option maxRecDepth 20000 in
theorem wd_240 : (Cond.methodLink "HeadDots$Reader" 45 ({ cls := "HeadDots$Reader", name := "beginPart", desc := "()V" } : MethodName)) ∈ bigW := bw2 0 rfl rfl
set_option maxRecDepth 20000 in
theorem wd_241 : (Cond.instanceMethod ({ cls := "HeadDots$Reader", name := "beginPart", desc := "()V" } : MethodName)) ∈ bigW := bw2 1 rfl rfl
set_option maxRecDepth 20000 in
theorem wd_242 : (Cond.selects "HeadDots$Reader" ({ cls := "HeadDots$Reader", name := "beginPart", desc := "()V" } : MethodName) ({ cls := "HeadDots$Reader", name := "beginPart", desc := "()V" } : MethodName)) ∈ bigW := bw2 2 rfl rfl
set_option maxRecDepth 20000 in
theorem wd_243 : (Cond.code ({ cls := "HeadDots$Reader", name := "beginPart", desc := "()V" } : MethodName) prog_3_method_2_code 1 (Option.none : Option ClassFile.FieldType)) ∈ bigW := bw2 3 rfl rfl
set_option maxRecDepth 20000 in
theorem wd_244 : (Cond.methodLink "HeadDots$Reader" 53 ({ cls := "HeadDots$Buffer", name := "codeAt", desc := "(I)I" } : MethodName)) ∈ bigW := bw2 4 rfl rfl
set_option maxRecDepth 20000 in
theorem wd_245 : (Cond.instanceMethod ({ cls := "HeadDots$Buffer", name := "codeAt", desc := "(I)I" } : MethodName)) ∈ bigW := bw2 5 rfl rfl
set_option maxRecDepth 20000 in
theorem wd_246 : (Cond.selects "HeadDots$Buffer" ({ cls := "HeadDots$Buffer", name := "codeAt", desc := "(I)I" } : MethodName) ({ cls := "HeadDots$Buffer", name := "codeAt", desc := "(I)I" } : MethodName)) ∈ bigW := bw2 6 rfl rfl
set_option maxRecDepth 20000 in
theorem wd_247 : (Cond.code ({ cls := "HeadDots$Buffer", name := "codeAt", desc := "(I)I" } : MethodName) prog_2_method_4_code 2 (Option.some ClassFile.FieldType.int)) ∈ bigW := bw2 7 rfl rfl
set_option maxRecDepth 20000 in
theorem wd_249 : (Cond.static ({ cls := "HeadDots", name := "at", desc := "([II)I" } : MethodName)) ∈ bigW := bw2 9 rfl rfl
set_option maxRecDepth 20000 in
theorem wd_250 : (Cond.code ({ cls := "HeadDots", name := "at", desc := "([II)I" } : MethodName) prog_1_method_44_code 2 (Option.some ClassFile.FieldType.int)) ∈ bigW := bw2 10 rfl rfl
set_option maxRecDepth 20000 in
theorem wd_251 : (Cond.methodLink "HeadDots$Reader" 57 ({ cls := "HeadDots$Reader", name := "take", desc := "(I)Z" } : MethodName)) ∈ bigW := bw2 11 rfl rfl
set_option maxRecDepth 20000 in
theorem wd_252 : (Cond.instanceMethod ({ cls := "HeadDots$Reader", name := "take", desc := "(I)Z" } : MethodName)) ∈ bigW := bw2 12 rfl rfl
set_option maxRecDepth 20000 in
theorem wd_253 : (Cond.selects "HeadDots$Reader" ({ cls := "HeadDots$Reader", name := "take", desc := "(I)Z" } : MethodName) ({ cls := "HeadDots$Reader", name := "take", desc := "(I)Z" } : MethodName)) ∈ bigW := bw2 13 rfl rfl
set_option maxRecDepth 20000 in
theorem wd_254 : (Cond.code ({ cls := "HeadDots$Reader", name := "take", desc := "(I)Z" } : MethodName) prog_3_method_5_code 2 (Option.some ClassFile.FieldType.boolean)) ∈ bigW := bw2 14 rfl rfl
set_option maxRecDepth 20000 in
theorem wd_255 : (Cond.methodLink "HeadDots$Reader" 61 ({ cls := "HeadDots$Reader", name := "takeBetween", desc := "()Z" } : MethodName)) ∈ bigW := bw2 15 rfl rfl
set_option maxRecDepth 20000 in
theorem wd_257 : (Cond.instanceMethod ({ cls := "HeadDots$Reader", name := "takeBetween", desc := "()Z" } : MethodName)) ∈ bigW := bw2 17 rfl rfl
set_option maxRecDepth 20000 in
theorem wd_258 : (Cond.code ({ cls := "HeadDots$Reader", name := "takeBetween", desc := "()Z" } : MethodName) prog_3_method_6_code 1 (Option.some ClassFile.FieldType.boolean)) ∈ bigW := bw2 18 rfl rfl
set_option maxRecDepth 20000 in
theorem wd_259 : (Cond.methodLink "HeadDots$Reader" 80 ({ cls := "HeadDots$Reader", name := "isComplete", desc := "()Z" } : MethodName)) ∈ bigW := bw2 19 rfl rfl
set_option maxRecDepth 20000 in
theorem wd_260 : (Cond.instanceMethod ({ cls := "HeadDots$Reader", name := "isComplete", desc := "()Z" } : MethodName)) ∈ bigW := bw2 20 rfl rfl
set_option maxRecDepth 20000 in
theorem wd_261 : (Cond.selects "HeadDots$Reader" ({ cls := "HeadDots$Reader", name := "isComplete", desc := "()Z" } : MethodName) ({ cls := "HeadDots$Reader", name := "isComplete", desc := "()Z" } : MethodName)) ∈ bigW := bw2 21 rfl rfl
set_option maxRecDepth 20000 in
theorem wd_262 : (Cond.code ({ cls := "HeadDots$Reader", name := "isComplete", desc := "()Z" } : MethodName) prog_3_method_4_code 1 (Option.some ClassFile.FieldType.boolean)) ∈ bigW := bw2 22 rfl rfl
set_option maxRecDepth 20000 in
theorem wd_263 : (Cond.methodLink "HeadDots$Reader" 65 ({ cls := "HeadDots$Reader", name := "takeFirst", desc := "(I)Z" } : MethodName)) ∈ bigW := bw2 23 rfl rfl
set_option maxRecDepth 20000 in
theorem wd_265 : (Cond.instanceMethod ({ cls := "HeadDots$Reader", name := "takeFirst", desc := "(I)Z" } : MethodName)) ∈ bigW := bw2 25 rfl rfl
set_option maxRecDepth 20000 in
theorem wd_266 : (Cond.code ({ cls := "HeadDots$Reader", name := "takeFirst", desc := "(I)Z" } : MethodName) prog_3_method_7_code 2 (Option.some ClassFile.FieldType.boolean)) ∈ bigW := bw2 26 rfl rfl
set_option maxRecDepth 20000 in
theorem wd_268 : (Cond.methodLink "HeadDots$Reader" 85 ({ cls := "HeadDots$Reader", name := "beginKind", desc := "(ILjava/lang/String;I)Z" } : MethodName)) ∈ bigW := bw2 28 rfl rfl
set_option maxRecDepth 20000 in
theorem wd_270 : (Cond.instanceMethod ({ cls := "HeadDots$Reader", name := "beginKind", desc := "(ILjava/lang/String;I)Z" } : MethodName)) ∈ bigW := bw2 30 rfl rfl
set_option maxRecDepth 20000 in
theorem wd_271 : (Cond.code ({ cls := "HeadDots$Reader", name := "beginKind", desc := "(ILjava/lang/String;I)Z" } : MethodName) prog_3_method_9_code 4 (Option.some ClassFile.FieldType.boolean)) ∈ bigW := bw2 31 rfl rfl
set_option maxRecDepth 20000 in
theorem wd_272 : (Cond.methodLink "HeadDots$Reader" 105 ({ cls := "HeadDots$Reader", name := "beginWord", desc := "(Ljava/lang/String;I)Z" } : MethodName)) ∈ bigW := bw2 32 rfl rfl
set_option maxRecDepth 20000 in
theorem wd_274 : (Cond.instanceMethod ({ cls := "HeadDots$Reader", name := "beginWord", desc := "(Ljava/lang/String;I)Z" } : MethodName)) ∈ bigW := bw2 34 rfl rfl
set_option maxRecDepth 20000 in
theorem wd_275 : (Cond.code ({ cls := "HeadDots$Reader", name := "beginWord", desc := "(Ljava/lang/String;I)Z" } : MethodName) prog_3_method_11_code 3 (Option.some ClassFile.FieldType.boolean)) ∈ bigW := bw2 35 rfl rfl
set_option maxRecDepth 20000 in
theorem wd_279 : (Cond.methodLink "HeadDots$Reader" 68 ({ cls := "HeadDots$Reader", name := "takeOfWord", desc := "(I)Z" } : MethodName)) ∈ bigW := bw2 39 rfl rfl
set_option maxRecDepth 20000 in
theorem wd_281 : (Cond.instanceMethod ({ cls := "HeadDots$Reader", name := "takeOfWord", desc := "(I)Z" } : MethodName)) ∈ bigW := bw2 41 rfl rfl
set_option maxRecDepth 20000 in
theorem wd_282 : (Cond.code ({ cls := "HeadDots$Reader", name := "takeOfWord", desc := "(I)Z" } : MethodName) prog_3_method_12_code 2 (Option.some ClassFile.FieldType.boolean)) ∈ bigW := bw2 42 rfl rfl
set_option maxRecDepth 20000 in
theorem wd_283 : (Cond.methodLink "HeadDots$Reader" 109 ({ cls := "java/lang/String", name := "length", desc := "()I" } : MethodName)) ∈ bigW := bw2 43 rfl rfl
set_option maxRecDepth 20000 in
theorem wd_284 : (Cond.instanceMethod ({ cls := "java/lang/String", name := "length", desc := "()I" } : MethodName)) ∈ bigW := bw2 44 rfl rfl
set_option maxRecDepth 20000 in
theorem wd_285 : (Cond.selects "java/lang/String" ({ cls := "java/lang/String", name := "length", desc := "()I" } : MethodName) ({ cls := "java/lang/String", name := "length", desc := "()I" } : MethodName)) ∈ bigW := bw2 45 rfl rfl
set_option maxRecDepth 20000 in
theorem wd_286 : (Cond.code ({ cls := "java/lang/String", name := "length", desc := "()I" } : MethodName) prog_18_method_54_code 1 (Option.some ClassFile.FieldType.int)) ∈ bigW := bw2 46 rfl rfl
set_option maxRecDepth 20000 in
theorem wd_287 : (Cond.methodLink "java/lang/String" 335 ({ cls := "java/lang/String", name := "coder", desc := "()B" } : MethodName)) ∈ bigW := bw2 47 rfl rfl
set_option maxRecDepth 20000 in
theorem wd_288 : (Cond.instanceMethod ({ cls := "java/lang/String", name := "coder", desc := "()B" } : MethodName)) ∈ bigW := bw2 48 rfl rfl
set_option maxRecDepth 20000 in
theorem wd_289 : (Cond.selects "java/lang/String" ({ cls := "java/lang/String", name := "coder", desc := "()B" } : MethodName) ({ cls := "java/lang/String", name := "coder", desc := "()B" } : MethodName)) ∈ bigW := bw2 49 rfl rfl
set_option maxRecDepth 20000 in
theorem wd_290 : (Cond.code ({ cls := "java/lang/String", name := "coder", desc := "()B" } : MethodName) prog_18_method_152_code 1 (Option.some ClassFile.FieldType.byte)) ∈ bigW := bw2 50 rfl rfl
set_option maxRecDepth 20000 in
theorem wd_291 : (Cond.fieldLink "java/lang/String" 38 "java/lang/String" "COMPACT_STRINGS" "Z") ∈ bigW := bw2 51 rfl rfl
set_option maxRecDepth 20000 in
theorem wd_293 : (Cond.methodLink "HeadDots$Reader" 114 ({ cls := "java/lang/String", name := "charAt", desc := "(I)C" } : MethodName)) ∈ bigW := bw2 53 rfl rfl
set_option maxRecDepth 20000 in
theorem wd_294 : (Cond.instanceMethod ({ cls := "java/lang/String", name := "charAt", desc := "(I)C" } : MethodName)) ∈ bigW := bw2 54 rfl rfl
set_option maxRecDepth 20000 in
theorem wd_295 : (Cond.selects "java/lang/String" ({ cls := "java/lang/String", name := "charAt", desc := "(I)C" } : MethodName) ({ cls := "java/lang/String", name := "charAt", desc := "(I)C" } : MethodName)) ∈ bigW := bw2 55 rfl rfl
set_option maxRecDepth 20000 in
theorem wd_296 : (Cond.code ({ cls := "java/lang/String", name := "charAt", desc := "(I)C" } : MethodName) prog_18_method_56_code 2 (Option.some ClassFile.FieldType.char)) ∈ bigW := bw2 56 rfl rfl
set_option maxRecDepth 20000 in
theorem wd_297 : (Cond.methodLink "java/lang/String" 492 ({ cls := "java/lang/String", name := "isLatin1", desc := "()Z" } : MethodName)) ∈ bigW := bw2 57 rfl rfl
set_option maxRecDepth 20000 in
theorem wd_298 : (Cond.instanceMethod ({ cls := "java/lang/String", name := "isLatin1", desc := "()Z" } : MethodName)) ∈ bigW := bw2 58 rfl rfl
set_option maxRecDepth 20000 in
theorem wd_299 : (Cond.selects "java/lang/String" ({ cls := "java/lang/String", name := "isLatin1", desc := "()Z" } : MethodName) ({ cls := "java/lang/String", name := "isLatin1", desc := "()Z" } : MethodName)) ∈ bigW := bw2 59 rfl rfl
set_option maxRecDepth 20000 in
theorem wd_300 : (Cond.code ({ cls := "java/lang/String", name := "isLatin1", desc := "()Z" } : MethodName) prog_18_method_154_code 1 (Option.some ClassFile.FieldType.boolean)) ∈ bigW := bw2 60 rfl rfl
set_option maxRecDepth 20000 in
theorem wd_301 : (Cond.methodLink "java/lang/String" 495 ({ cls := "java/lang/StringLatin1", name := "charAt", desc := "([BI)C" } : MethodName)) ∈ bigW := bw2 61 rfl rfl
set_option maxRecDepth 20000 in
theorem wd_302 : (Cond.static ({ cls := "java/lang/StringLatin1", name := "charAt", desc := "([BI)C" } : MethodName)) ∈ bigW := bw2 62 rfl rfl
set_option maxRecDepth 20000 in
theorem wd_303 : (Cond.code ({ cls := "java/lang/StringLatin1", name := "charAt", desc := "([BI)C" } : MethodName) prog_19_method_2_code 2 (Option.some ClassFile.FieldType.char)) ∈ bigW := bw2 63 rfl rfl
set_option maxRecDepth 20000 in
theorem wd_304 : (Cond.methodLink "java/lang/StringLatin1" 9 ({ cls := "java/lang/String", name := "checkIndex", desc := "(II)V" } : MethodName)) ∈ bigW := bw2 64 rfl rfl
set_option maxRecDepth 20000 in
theorem wd_305 : (Cond.static ({ cls := "java/lang/String", name := "checkIndex", desc := "(II)V" } : MethodName)) ∈ bigW := bw2 65 rfl rfl
set_option maxRecDepth 20000 in
theorem wd_306 : (Cond.code ({ cls := "java/lang/String", name := "checkIndex", desc := "(II)V" } : MethodName) prog_18_method_155_code 2 (Option.none : Option ClassFile.FieldType)) ∈ bigW := bw2 66 rfl rfl
set_option maxRecDepth 20000 in
theorem wd_307 : (Cond.fieldLink "java/lang/String" 1053 "jdk/internal/util/Preconditions" "SIOOBE_FORMATTER" "Ljava/util/function/BiFunction;") ∈ bigW := bw2 67 rfl rfl
set_option maxRecDepth 20000 in
theorem wd_309 : (Cond.methodLink "java/lang/String" 1059 ({ cls := "jdk/internal/util/Preconditions", name := "checkIndex", desc := "(IILjava/util/function/BiFunction;)I" } : MethodName)) ∈ bigW := bw2 69 rfl rfl
set_option maxRecDepth 20000 in
theorem wd_310 : (Cond.static ({ cls := "jdk/internal/util/Preconditions", name := "checkIndex", desc := "(IILjava/util/function/BiFunction;)I" } : MethodName)) ∈ bigW := bw2 70 rfl rfl
set_option maxRecDepth 20000 in
theorem wd_311 : (Cond.code ({ cls := "jdk/internal/util/Preconditions", name := "checkIndex", desc := "(IILjava/util/function/BiFunction;)I" } : MethodName) prog_23_method_11_code 3 (Option.some ClassFile.FieldType.int)) ∈ bigW := bw2 71 rfl rfl
set_option maxRecDepth 20000 in
theorem wd_312 : (Cond.methodLink "java/lang/String" 498 ({ cls := "java/lang/StringUTF16", name := "charAt", desc := "([BI)C" } : MethodName)) ∈ bigW := bw2 72 rfl rfl
set_option maxRecDepth 20000 in
theorem wd_313 : (Cond.static ({ cls := "java/lang/StringUTF16", name := "charAt", desc := "([BI)C" } : MethodName)) ∈ bigW := bw2 73 rfl rfl
set_option maxRecDepth 20000 in
theorem wd_314 : (Cond.code ({ cls := "java/lang/StringUTF16", name := "charAt", desc := "([BI)C" } : MethodName) prog_20_method_83_code 2 (Option.some ClassFile.FieldType.char)) ∈ bigW := bw2 74 rfl rfl
set_option maxRecDepth 20000 in
theorem wd_315 : (Cond.methodLink "java/lang/StringUTF16" 67 ({ cls := "java/lang/StringUTF16", name := "checkIndex", desc := "(I[B)V" } : MethodName)) ∈ bigW := bw2 75 rfl rfl
set_option maxRecDepth 20000 in
theorem wd_316 : (Cond.static ({ cls := "java/lang/StringUTF16", name := "checkIndex", desc := "(I[B)V" } : MethodName)) ∈ bigW := bw2 76 rfl rfl
set_option maxRecDepth 20000 in
theorem wd_317 : (Cond.code ({ cls := "java/lang/StringUTF16", name := "checkIndex", desc := "(I[B)V" } : MethodName) prog_20_method_91_code 2 (Option.none : Option ClassFile.FieldType)) ∈ bigW := bw2 77 rfl rfl
set_option maxRecDepth 20000 in
theorem wd_318 : (Cond.methodLink "java/lang/StringUTF16" 48 ({ cls := "java/lang/StringUTF16", name := "length", desc := "([B)I" } : MethodName)) ∈ bigW := bw2 78 rfl rfl
set_option maxRecDepth 20000 in
theorem wd_319 : (Cond.static ({ cls := "java/lang/StringUTF16", name := "length", desc := "([B)I" } : MethodName)) ∈ bigW := bw2 79 rfl rfl
set_option maxRecDepth 20000 in
theorem wd_320 : (Cond.code ({ cls := "java/lang/StringUTF16", name := "length", desc := "([B)I" } : MethodName) prog_20_method_6_code 1 (Option.some ClassFile.FieldType.int)) ∈ bigW := bw2 80 rfl rfl
set_option maxRecDepth 20000 in
theorem wd_321 : (Cond.methodLink "java/lang/StringUTF16" 414 ({ cls := "java/lang/String", name := "checkIndex", desc := "(II)V" } : MethodName)) ∈ bigW := bw2 81 rfl rfl
set_option maxRecDepth 20000 in
theorem wd_322 : (Cond.methodLink "java/lang/StringUTF16" 71 ({ cls := "java/lang/StringUTF16", name := "getChar", desc := "([BI)C" } : MethodName)) ∈ bigW := bw2 82 rfl rfl
set_option maxRecDepth 20000 in
theorem wd_323 : (Cond.static ({ cls := "java/lang/StringUTF16", name := "getChar", desc := "([BI)C" } : MethodName)) ∈ bigW := bw2 83 rfl rfl
set_option maxRecDepth 20000 in
theorem wd_324 : (Cond.code ({ cls := "java/lang/StringUTF16", name := "getChar", desc := "([BI)C" } : MethodName) prog_20_method_5_code 2 (Option.some ClassFile.FieldType.char)) ∈ bigW := bw2 84 rfl rfl
set_option maxRecDepth 20000 in
theorem wd_325 : (Cond.fieldLink "java/lang/StringUTF16" 44 "java/lang/StringUTF16" "$assertionsDisabled" "Z") ∈ bigW := bw2 85 rfl rfl
set_option maxRecDepth 20000 in
theorem wd_327 : (Cond.fieldLink "java/lang/StringUTF16" 59 "java/lang/StringUTF16" "HI_BYTE_SHIFT" "I") ∈ bigW := bw2 87 rfl rfl
set_option maxRecDepth 20000 in
theorem wd_329 : (Cond.fieldLink "java/lang/StringUTF16" 63 "java/lang/StringUTF16" "LO_BYTE_SHIFT" "I") ∈ bigW := bw2 89 rfl rfl
set_option maxRecDepth 20000 in
theorem wd_331 : (Cond.methodLink "HeadDots$Reader" 71 ({ cls := "HeadDots$Reader", name := "takeOfDots", desc := "(I)Z" } : MethodName)) ∈ bigW := bw2 91 rfl rfl
set_option maxRecDepth 20000 in
theorem wd_333 : (Cond.instanceMethod ({ cls := "HeadDots$Reader", name := "takeOfDots", desc := "(I)Z" } : MethodName)) ∈ bigW := bw2 93 rfl rfl
set_option maxRecDepth 20000 in
theorem wd_334 : (Cond.code ({ cls := "HeadDots$Reader", name := "takeOfDots", desc := "(I)Z" } : MethodName) prog_3_method_13_code 3 (Option.some ClassFile.FieldType.boolean)) ∈ bigW := bw2 94 rfl rfl
set_option maxRecDepth 20000 in
theorem wd_335 : (Cond.methodLink "HeadDots$Reader" 118 ({ cls := "HeadDots$Reader", name := "takeStar", desc := "(I)Z" } : MethodName)) ∈ bigW := bw2 95 rfl rfl
set_option maxRecDepth 20000 in
theorem wd_337 : (Cond.instanceMethod ({ cls := "HeadDots$Reader", name := "takeStar", desc := "(I)Z" } : MethodName)) ∈ bigW := bw2 97 rfl rfl
set_option maxRecDepth 20000 in
theorem wd_338 : (Cond.code ({ cls := "HeadDots$Reader", name := "takeStar", desc := "(I)Z" } : MethodName) prog_3_method_14_code 2 (Option.some ClassFile.FieldType.boolean)) ∈ bigW := bw2 98 rfl rfl
set_option maxRecDepth 20000 in
theorem wd_339 : (Cond.methodLink "HeadDots$Reader" 121 ({ cls := "HeadDots$Reader", name := "hexDigit", desc := "(I)I" } : MethodName)) ∈ bigW := bw2 99 rfl rfl
set_option maxRecDepth 20000 in
theorem wd_340 : (Cond.static ({ cls := "HeadDots$Reader", name := "hexDigit", desc := "(I)I" } : MethodName)) ∈ bigW := bw2 100 rfl rfl
set_option maxRecDepth 20000 in
theorem wd_341 : (Cond.code ({ cls := "HeadDots$Reader", name := "hexDigit", desc := "(I)I" } : MethodName) prog_3_method_16_code 1 (Option.some ClassFile.FieldType.int)) ∈ bigW := bw2 101 rfl rfl
set_option maxRecDepth 20000 in
theorem wd_343 : (Cond.static ({ cls := "HeadDots", name := "isWithin", desc := "(III)Z" } : MethodName)) ∈ bigW := bw2 103 rfl rfl
set_option maxRecDepth 20000 in
theorem wd_344 : (Cond.code ({ cls := "HeadDots", name := "isWithin", desc := "(III)Z" } : MethodName) prog_1_method_40_code 3 (Option.some ClassFile.FieldType.boolean)) ∈ bigW := bw2 104 rfl rfl
set_option maxRecDepth 20000 in
theorem wd_345 : (Cond.methodLink "HeadDots$Reader" 74 ({ cls := "HeadDots$Reader", name := "takeFirstOfPaper", desc := "(I)Z" } : MethodName)) ∈ bigW := bw2 105 rfl rfl
set_option maxRecDepth 20000 in
theorem wd_347 : (Cond.instanceMethod ({ cls := "HeadDots$Reader", name := "takeFirstOfPaper", desc := "(I)Z" } : MethodName)) ∈ bigW := bw2 107 rfl rfl
set_option maxRecDepth 20000 in
theorem wd_348 : (Cond.code ({ cls := "HeadDots$Reader", name := "takeFirstOfPaper", desc := "(I)Z" } : MethodName) prog_3_method_8_code 2 (Option.some ClassFile.FieldType.boolean)) ∈ bigW := bw2 108 rfl rfl
set_option maxRecDepth 20000 in
theorem wd_350 : (Cond.methodLink "HeadDots$Reader" 97 ({ cls := "HeadDots$Reader", name := "beginPaper", desc := "(ILjava/lang/String;)Z" } : MethodName)) ∈ bigW := bw2 110 rfl rfl
set_option maxRecDepth 20000 in
theorem wd_352 : (Cond.instanceMethod ({ cls := "HeadDots$Reader", name := "beginPaper", desc := "(ILjava/lang/String;)Z" } : MethodName)) ∈ bigW := bw2 112 rfl rfl
set_option maxRecDepth 20000 in
theorem wd_353 : (Cond.code ({ cls := "HeadDots$Reader", name := "beginPaper", desc := "(ILjava/lang/String;)Z" } : MethodName) prog_3_method_10_code 3 (Option.some ClassFile.FieldType.boolean)) ∈ bigW := bw2 113 rfl rfl
set_option maxRecDepth 20000 in
theorem wd_356 : (Cond.methodLink "HeadDots$Reader" 77 ({ cls := "HeadDots$Reader", name := "takeDigit", desc := "(I)Z" } : MethodName)) ∈ bigW := bw2 116 rfl rfl
set_option maxRecDepth 20000 in
theorem wd_358 : (Cond.instanceMethod ({ cls := "HeadDots$Reader", name := "takeDigit", desc := "(I)Z" } : MethodName)) ∈ bigW := bw2 118 rfl rfl
set_option maxRecDepth 20000 in
theorem wd_359 : (Cond.code ({ cls := "HeadDots$Reader", name := "takeDigit", desc := "(I)Z" } : MethodName) prog_3_method_15_code 3 (Option.some ClassFile.FieldType.boolean)) ∈ bigW := bw2 119 rfl rfl
set_option maxRecDepth 20000 in
theorem wd_360 : (Cond.methodLink "HeadDotsLaw" 116 ({ cls := "HeadDots", name := "keep", desc := "()I" } : MethodName)) ∈ bigW := bw2 120 rfl rfl
set_option maxRecDepth 20000 in
theorem wd_361 : (Cond.instanceMethod ({ cls := "HeadDots", name := "keep", desc := "()I" } : MethodName)) ∈ bigW := bw2 121 rfl rfl
set_option maxRecDepth 20000 in
theorem wd_362 : (Cond.selects "HeadDots" ({ cls := "HeadDots", name := "keep", desc := "()I" } : MethodName) ({ cls := "HeadDots", name := "keep", desc := "()I" } : MethodName)) ∈ bigW := bw2 122 rfl rfl
set_option maxRecDepth 20000 in
theorem wd_363 : (Cond.code ({ cls := "HeadDots", name := "keep", desc := "()I" } : MethodName) prog_1_method_13_code 1 (Option.some ClassFile.FieldType.int)) ∈ bigW := bw2 123 rfl rfl
set_option maxRecDepth 20000 in
theorem wd_364 : (Cond.methodLink "HeadDots" 185 ({ cls := "HeadDots$State", name := "copyFrom", desc := "(LHeadDots$State;)V" } : MethodName)) ∈ bigW := bw2 124 rfl rfl
set_option maxRecDepth 20000 in
theorem wd_365 : (Cond.instanceMethod ({ cls := "HeadDots$State", name := "copyFrom", desc := "(LHeadDots$State;)V" } : MethodName)) ∈ bigW := bw2 125 rfl rfl
set_option maxRecDepth 20000 in
theorem wd_366 : (Cond.selects "HeadDots$State" ({ cls := "HeadDots$State", name := "copyFrom", desc := "(LHeadDots$State;)V" } : MethodName) ({ cls := "HeadDots$State", name := "copyFrom", desc := "(LHeadDots$State;)V" } : MethodName)) ∈ bigW := bw2 126 rfl rfl
set_option maxRecDepth 20000 in
theorem wd_367 : (Cond.code ({ cls := "HeadDots$State", name := "copyFrom", desc := "(LHeadDots$State;)V" } : MethodName) prog_4_method_2_code 2 (Option.none : Option ClassFile.FieldType)) ∈ bigW := bw2 127 rfl rfl
set_option maxRecDepth 20000 in
theorem wd_368 : (Cond.methodLink "HeadDots$State" 52 ({ cls := "HeadDots$Strip", name := "copyFrom", desc := "(LHeadDots$Strip;)V" } : MethodName)) ∈ bigW := bw2 128 rfl rfl
set_option maxRecDepth 20000 in
theorem wd_369 : (Cond.instanceMethod ({ cls := "HeadDots$Strip", name := "copyFrom", desc := "(LHeadDots$Strip;)V" } : MethodName)) ∈ bigW := bw2 129 rfl rfl
set_option maxRecDepth 20000 in
theorem wd_370 : (Cond.selects "HeadDots$Strip" ({ cls := "HeadDots$Strip", name := "copyFrom", desc := "(LHeadDots$Strip;)V" } : MethodName) ({ cls := "HeadDots$Strip", name := "copyFrom", desc := "(LHeadDots$Strip;)V" } : MethodName)) ∈ bigW := bw2 130 rfl rfl
set_option maxRecDepth 20000 in
theorem wd_371 : (Cond.code ({ cls := "HeadDots$Strip", name := "copyFrom", desc := "(LHeadDots$Strip;)V" } : MethodName) prog_5_method_2_code 2 (Option.none : Option ClassFile.FieldType)) ∈ bigW := bw2 131 rfl rfl
set_option maxRecDepth 20000 in
theorem wd_373 : (Cond.methodLink "HeadDots$State" 56 ({ cls := "HeadDots$Totals", name := "copyFrom", desc := "(LHeadDots$Totals;)V" } : MethodName)) ∈ bigW := bw2 133 rfl rfl
set_option maxRecDepth 20000 in
theorem wd_374 : (Cond.instanceMethod ({ cls := "HeadDots$Totals", name := "copyFrom", desc := "(LHeadDots$Totals;)V" } : MethodName)) ∈ bigW := bw2 134 rfl rfl
set_option maxRecDepth 20000 in
theorem wd_375 : (Cond.selects "HeadDots$Totals" ({ cls := "HeadDots$Totals", name := "copyFrom", desc := "(LHeadDots$Totals;)V" } : MethodName) ({ cls := "HeadDots$Totals", name := "copyFrom", desc := "(LHeadDots$Totals;)V" } : MethodName)) ∈ bigW := bw2 135 rfl rfl
set_option maxRecDepth 20000 in
theorem wd_376 : (Cond.code ({ cls := "HeadDots$Totals", name := "copyFrom", desc := "(LHeadDots$Totals;)V" } : MethodName) prog_6_method_2_code 2 (Option.none : Option ClassFile.FieldType)) ∈ bigW := bw2 136 rfl rfl
set_option maxRecDepth 20000 in
theorem wd_378 : (Cond.methodLink "HeadDotsLaw" 144 ({ cls := "HeadDots", name := "darkness", desc := "()D" } : MethodName)) ∈ bigW := bw2 138 rfl rfl
set_option maxRecDepth 20000 in
theorem wd_379 : (Cond.instanceMethod ({ cls := "HeadDots", name := "darkness", desc := "()D" } : MethodName)) ∈ bigW := bw2 139 rfl rfl
set_option maxRecDepth 20000 in
theorem wd_380 : (Cond.selects "HeadDots" ({ cls := "HeadDots", name := "darkness", desc := "()D" } : MethodName) ({ cls := "HeadDots", name := "darkness", desc := "()D" } : MethodName)) ∈ bigW := bw2 140 rfl rfl
set_option maxRecDepth 20000 in
theorem wd_381 : (Cond.code ({ cls := "HeadDots", name := "darkness", desc := "()D" } : MethodName) prog_1_method_22_code 1 (Option.some ClassFile.FieldType.double)) ∈ bigW := bw2 141 rfl rfl
set_option maxRecDepth 20000 in
theorem wd_382 : (Cond.methodLink "HeadDots" 228 ({ cls := "HeadDots$Totals", name := "darkShare", desc := "()D" } : MethodName)) ∈ bigW := bw2 142 rfl rfl
set_option maxRecDepth 20000 in
theorem wd_383 : (Cond.instanceMethod ({ cls := "HeadDots$Totals", name := "darkShare", desc := "()D" } : MethodName)) ∈ bigW := bw2 143 rfl rfl
set_option maxRecDepth 20000 in
theorem wd_384 : (Cond.selects "HeadDots$Totals" ({ cls := "HeadDots$Totals", name := "darkShare", desc := "()D" } : MethodName) ({ cls := "HeadDots$Totals", name := "darkShare", desc := "()D" } : MethodName)) ∈ bigW := bw2 144 rfl rfl
set_option maxRecDepth 20000 in
theorem wd_385 : (Cond.code ({ cls := "HeadDots$Totals", name := "darkShare", desc := "()D" } : MethodName) prog_6_method_6_code 1 (Option.some ClassFile.FieldType.double)) ∈ bigW := bw2 145 rfl rfl
set_option maxRecDepth 20000 in
theorem wd_386 : (Cond.methodLink "HeadDotsLaw" 149 ({ cls := "HeadDots", name := "meanHeat", desc := "()F" } : MethodName)) ∈ bigW := bw2 146 rfl rfl
set_option maxRecDepth 20000 in
theorem wd_387 : (Cond.instanceMethod ({ cls := "HeadDots", name := "meanHeat", desc := "()F" } : MethodName)) ∈ bigW := bw2 147 rfl rfl
set_option maxRecDepth 20000 in
theorem wd_388 : (Cond.selects "HeadDots" ({ cls := "HeadDots", name := "meanHeat", desc := "()F" } : MethodName) ({ cls := "HeadDots", name := "meanHeat", desc := "()F" } : MethodName)) ∈ bigW := bw2 148 rfl rfl
set_option maxRecDepth 20000 in
theorem wd_389 : (Cond.code ({ cls := "HeadDots", name := "meanHeat", desc := "()F" } : MethodName) prog_1_method_23_code 1 (Option.some ClassFile.FieldType.float)) ∈ bigW := bw2 149 rfl rfl
set_option maxRecDepth 20000 in
theorem wd_390 : (Cond.methodLink "HeadDots" 232 ({ cls := "HeadDots$State", name := "mean", desc := "()F" } : MethodName)) ∈ bigW := bw2 150 rfl rfl
set_option maxRecDepth 20000 in
theorem wd_391 : (Cond.instanceMethod ({ cls := "HeadDots$State", name := "mean", desc := "()F" } : MethodName)) ∈ bigW := bw2 151 rfl rfl
set_option maxRecDepth 20000 in
theorem wd_392 : (Cond.selects "HeadDots$State" ({ cls := "HeadDots$State", name := "mean", desc := "()F" } : MethodName) ({ cls := "HeadDots$State", name := "mean", desc := "()F" } : MethodName)) ∈ bigW := bw2 152 rfl rfl
set_option maxRecDepth 20000 in
theorem wd_393 : (Cond.code ({ cls := "HeadDots$State", name := "mean", desc := "()F" } : MethodName) prog_4_method_25_code 3 (Option.some ClassFile.FieldType.float)) ∈ bigW := bw2 153 rfl rfl
set_option maxRecDepth 20000 in
theorem wd_394 : (Cond.constantFloat "HeadDots$State" 165 (1103101952 : UInt32)) ∈ bigW := bw2 154 rfl rfl
set_option maxRecDepth 20000 in
theorem wd_395 : (Cond.methodLink "HeadDotsLaw" 154 ({ cls := "HeadDots", name := "digest", desc := "()J" } : MethodName)) ∈ bigW := bw2 155 rfl rfl
set_option maxRecDepth 20000 in
theorem wd_396 : (Cond.instanceMethod ({ cls := "HeadDots", name := "digest", desc := "()J" } : MethodName)) ∈ bigW := bw2 156 rfl rfl
set_option maxRecDepth 20000 in
theorem wd_397 : (Cond.selects "HeadDots" ({ cls := "HeadDots", name := "digest", desc := "()J" } : MethodName) ({ cls := "HeadDots", name := "digest", desc := "()J" } : MethodName)) ∈ bigW := bw2 157 rfl rfl
set_option maxRecDepth 20000 in
theorem wd_398 : (Cond.code ({ cls := "HeadDots", name := "digest", desc := "()J" } : MethodName) prog_1_method_24_code 4 (Option.some ClassFile.FieldType.long)) ∈ bigW := bw2 158 rfl rfl
set_option maxRecDepth 20000 in
theorem wd_399 : (Cond.constantLong "HeadDots" 236 (3833 : Int64)) ∈ bigW := bw2 159 rfl rfl
set_option maxRecDepth 20000 in
theorem wd_400 : (Cond.methodLink "HeadDots" 206 ({ cls := "HeadDots", name := "counted", desc := "(I)I" } : MethodName)) ∈ bigW := bw2 160 rfl rfl
set_option maxRecDepth 20000 in
theorem wd_402 : (Cond.instanceMethod ({ cls := "HeadDots", name := "counted", desc := "(I)I" } : MethodName)) ∈ bigW := bw2 162 rfl rfl
set_option maxRecDepth 20000 in
theorem wd_403 : (Cond.code ({ cls := "HeadDots", name := "counted", desc := "(I)I" } : MethodName) prog_1_method_29_code 3 (Option.some ClassFile.FieldType.int)) ∈ bigW := bw2 163 rfl rfl
set_option maxRecDepth 20000 in
theorem wd_404 : (Cond.methodLink "HeadDots" 292 ({ cls := "HeadDots$Totals", name := "dotByDot", desc := "()I" } : MethodName)) ∈ bigW := bw2 164 rfl rfl
set_option maxRecDepth 20000 in
theorem wd_405 : (Cond.instanceMethod ({ cls := "HeadDots$Totals", name := "dotByDot", desc := "()I" } : MethodName)) ∈ bigW := bw2 165 rfl rfl
set_option maxRecDepth 20000 in
theorem wd_406 : (Cond.selects "HeadDots$Totals" ({ cls := "HeadDots$Totals", name := "dotByDot", desc := "()I" } : MethodName) ({ cls := "HeadDots$Totals", name := "dotByDot", desc := "()I" } : MethodName)) ∈ bigW := bw2 166 rfl rfl
set_option maxRecDepth 20000 in
theorem wd_407 : (Cond.code ({ cls := "HeadDots$Totals", name := "dotByDot", desc := "()I" } : MethodName) prog_6_method_5_code 3 (Option.some ClassFile.FieldType.int)) ∈ bigW := bw2 167 rfl rfl
set_option maxRecDepth 20000 in
theorem wd_408 : (Cond.methodLink "HeadDots" 91 ({ cls := "HeadDots$State", name := "hottestDot", desc := "()I" } : MethodName)) ∈ bigW := bw2 168 rfl rfl
set_option maxRecDepth 20000 in
theorem wd_409 : (Cond.instanceMethod ({ cls := "HeadDots$State", name := "hottestDot", desc := "()I" } : MethodName)) ∈ bigW := bw2 169 rfl rfl
set_option maxRecDepth 20000 in
theorem wd_410 : (Cond.selects "HeadDots$State" ({ cls := "HeadDots$State", name := "hottestDot", desc := "()I" } : MethodName) ({ cls := "HeadDots$State", name := "hottestDot", desc := "()I" } : MethodName)) ∈ bigW := bw2 170 rfl rfl
set_option maxRecDepth 20000 in
theorem wd_411 : (Cond.code ({ cls := "HeadDots$State", name := "hottestDot", desc := "()I" } : MethodName) prog_4_method_23_code 3 (Option.some ClassFile.FieldType.int)) ∈ bigW := bw2 171 rfl rfl
set_option maxRecDepth 20000 in
theorem wd_412 : (Cond.methodLink "HeadDots$State" 114 Lib.Math.max.name) ∈ bigW := bw2 172 (by decide +kernel) (by decide +kernel)
set_option maxRecDepth 20000 in
theorem wd_413 : (Cond.static Lib.Math.max.name) ∈ bigW := bw2 173 (by decide +kernel) (by decide +kernel)
set_option maxRecDepth 20000 in
theorem wd_414 : (Cond.code Lib.Math.max.name Lib.Math.max.code 2 (some .int)) ∈ bigW := bw2 174 (by decide +kernel) (by decide +kernel)
set_option maxRecDepth 20000 in
theorem wd_415 : (Cond.methodLink "HeadDots" 127 ({ cls := "HeadDots$State", name := "setting", desc := "(I)I" } : MethodName)) ∈ bigW := bw2 175 rfl rfl
set_option maxRecDepth 20000 in
theorem wd_416 : (Cond.instanceMethod ({ cls := "HeadDots$State", name := "setting", desc := "(I)I" } : MethodName)) ∈ bigW := bw2 176 rfl rfl
set_option maxRecDepth 20000 in
theorem wd_417 : (Cond.selects "HeadDots$State" ({ cls := "HeadDots$State", name := "setting", desc := "(I)I" } : MethodName) ({ cls := "HeadDots$State", name := "setting", desc := "(I)I" } : MethodName)) ∈ bigW := bw2 177 rfl rfl
set_option maxRecDepth 20000 in
theorem wd_418 : (Cond.code ({ cls := "HeadDots$State", name := "setting", desc := "(I)I" } : MethodName) prog_4_method_3_code 2 (Option.some ClassFile.FieldType.int)) ∈ bigW := bw2 178 rfl rfl
set_option maxRecDepth 20000 in
theorem wd_420 : (Cond.methodLink "HeadDots" 238 ({ cls := "HeadDots", name := "mixed", desc := "(JJ)J" } : MethodName)) ∈ bigW := bw2 180 rfl rfl
set_option maxRecDepth 20000 in
theorem wd_421 : (Cond.static ({ cls := "HeadDots", name := "mixed", desc := "(JJ)J" } : MethodName)) ∈ bigW := bw2 181 rfl rfl
set_option maxRecDepth 20000 in
theorem wd_422 : (Cond.code ({ cls := "HeadDots", name := "mixed", desc := "(JJ)J" } : MethodName) prog_1_method_37_code 4 (Option.some ClassFile.FieldType.long)) ∈ bigW := bw2 182 rfl rfl
set_option maxRecDepth 20000 in
theorem wd_423 : (Cond.constantLong "HeadDots" 304 (31 : Int64)) ∈ bigW := bw2 183 rfl rfl
set_option maxRecDepth 20000 in
theorem wd_424 : (Cond.methodLink "HeadDots" 242 ({ cls := "HeadDots", name := "mixedDots", desc := "(J)J" } : MethodName)) ∈ bigW := bw2 184 rfl rfl
set_option maxRecDepth 20000 in
theorem wd_426 : (Cond.instanceMethod ({ cls := "HeadDots", name := "mixedDots", desc := "(J)J" } : MethodName)) ∈ bigW := bw2 186 rfl rfl
set_option maxRecDepth 20000 in
theorem wd_427 : (Cond.code ({ cls := "HeadDots", name := "mixedDots", desc := "(J)J" } : MethodName) prog_1_method_33_code 7 (Option.some ClassFile.FieldType.long)) ∈ bigW := bw2 187 rfl rfl
set_option maxRecDepth 20000 in
theorem wd_428 : (Cond.methodLink "HeadDots" 198 ({ cls := "HeadDots$State", name := "numberOfDot", desc := "(II)I" } : MethodName)) ∈ bigW := bw2 188 rfl rfl
set_option maxRecDepth 20000 in
theorem wd_429 : (Cond.instanceMethod ({ cls := "HeadDots$State", name := "numberOfDot", desc := "(II)I" } : MethodName)) ∈ bigW := bw2 189 rfl rfl
set_option maxRecDepth 20000 in
theorem wd_430 : (Cond.selects "HeadDots$State" ({ cls := "HeadDots$State", name := "numberOfDot", desc := "(II)I" } : MethodName) ({ cls := "HeadDots$State", name := "numberOfDot", desc := "(II)I" } : MethodName)) ∈ bigW := bw2 190 rfl rfl
set_option maxRecDepth 20000 in
theorem wd_431 : (Cond.code ({ cls := "HeadDots$State", name := "numberOfDot", desc := "(II)I" } : MethodName) prog_4_method_26_code 3 (Option.some ClassFile.FieldType.int)) ∈ bigW := bw2 191 rfl rfl
set_option maxRecDepth 20000 in
theorem wd_433 : (Cond.static ({ cls := "HeadDots", name := "bitOf", desc := "(II)I" } : MethodName)) ∈ bigW := bw2 193 rfl rfl
set_option maxRecDepth 20000 in
theorem wd_434 : (Cond.code ({ cls := "HeadDots", name := "bitOf", desc := "(II)I" } : MethodName) prog_1_method_43_code 2 (Option.some ClassFile.FieldType.int)) ∈ bigW := bw2 194 rfl rfl
set_option maxRecDepth 20000 in
theorem wd_435 : (Cond.methodLink "HeadDots$State" 159 ({ cls := "HeadDots$State", name := "pulseAlone", desc := "(II)I" } : MethodName)) ∈ bigW := bw2 195 rfl rfl
set_option maxRecDepth 20000 in
theorem wd_437 : (Cond.instanceMethod ({ cls := "HeadDots$State", name := "pulseAlone", desc := "(II)I" } : MethodName)) ∈ bigW := bw2 197 rfl rfl
set_option maxRecDepth 20000 in
theorem wd_438 : (Cond.code ({ cls := "HeadDots$State", name := "pulseAlone", desc := "(II)I" } : MethodName) prog_4_method_15_code 3 (Option.some ClassFile.FieldType.int)) ∈ bigW := bw2 198 rfl rfl
set_option maxRecDepth 20000 in
theorem wd_439 : (Cond.methodLink "HeadDots$State" 120 ({ cls := "HeadDots$State", name := "pulseIn", desc := "(III)I" } : MethodName)) ∈ bigW := bw2 199 rfl rfl
set_option maxRecDepth 20000 in
theorem wd_441 : (Cond.instanceMethod ({ cls := "HeadDots$State", name := "pulseIn", desc := "(III)I" } : MethodName)) ∈ bigW := bw2 201 rfl rfl
set_option maxRecDepth 20000 in
theorem wd_442 : (Cond.code ({ cls := "HeadDots$State", name := "pulseIn", desc := "(III)I" } : MethodName) prog_4_method_14_code 5 (Option.some ClassFile.FieldType.int)) ∈ bigW := bw2 202 rfl rfl
set_option maxRecDepth 20000 in
theorem wd_445 : (Cond.methodLink "HeadDots$State" 162 ({ cls := "HeadDots$State", name := "waitFor", desc := "(II)I" } : MethodName)) ∈ bigW := bw2 205 rfl rfl
set_option maxRecDepth 20000 in
theorem wd_447 : (Cond.instanceMethod ({ cls := "HeadDots$State", name := "waitFor", desc := "(II)I" } : MethodName)) ∈ bigW := bw2 207 rfl rfl
set_option maxRecDepth 20000 in
theorem wd_448 : (Cond.code ({ cls := "HeadDots$State", name := "waitFor", desc := "(II)I" } : MethodName) prog_4_method_16_code 3 (Option.some ClassFile.FieldType.int)) ∈ bigW := bw2 208 rfl rfl
set_option maxRecDepth 20000 in
theorem wd_449 : (Cond.methodLink "HeadDots$State" 127 ({ cls := "HeadDots$State", name := "timeDownTo", desc := "(II)I" } : MethodName)) ∈ bigW := bw2 209 rfl rfl
set_option maxRecDepth 20000 in
theorem wd_451 : (Cond.instanceMethod ({ cls := "HeadDots$State", name := "timeDownTo", desc := "(II)I" } : MethodName)) ∈ bigW := bw2 211 rfl rfl
set_option maxRecDepth 20000 in
theorem wd_452 : (Cond.code ({ cls := "HeadDots$State", name := "timeDownTo", desc := "(II)I" } : MethodName) prog_4_method_20_code 6 (Option.some ClassFile.FieldType.int)) ∈ bigW := bw2 212 rfl rfl
set_option maxRecDepth 20000 in
theorem wd_453 : (Cond.constant "HeadDots$State" 149 (1000000 : Int32)) ∈ bigW := bw2 213 rfl rfl
set_option maxRecDepth 20000 in
theorem wd_454 : (Cond.methodLink "HeadDots$State" 146 ({ cls := "HeadDots$State", name := "cooled", desc := "(II)I" } : MethodName)) ∈ bigW := bw2 214 rfl rfl
set_option maxRecDepth 20000 in
theorem wd_455 : (Cond.static ({ cls := "HeadDots$State", name := "cooled", desc := "(II)I" } : MethodName)) ∈ bigW := bw2 215 rfl rfl
set_option maxRecDepth 20000 in
theorem wd_456 : (Cond.code ({ cls := "HeadDots$State", name := "cooled", desc := "(II)I" } : MethodName) prog_4_method_21_code 3 (Option.some ClassFile.FieldType.int)) ∈ bigW := bw2 216 rfl rfl
set_option maxRecDepth 20000 in
theorem wd_457 : (Cond.methodLink "HeadDots" 246 ({ cls := "HeadDots", name := "mixedStrip", desc := "(J)J" } : MethodName)) ∈ bigW := bw2 217 rfl rfl
set_option maxRecDepth 20000 in
theorem wd_459 : (Cond.instanceMethod ({ cls := "HeadDots", name := "mixedStrip", desc := "(J)J" } : MethodName)) ∈ bigW := bw2 219 rfl rfl
set_option maxRecDepth 20000 in
theorem wd_460 : (Cond.code ({ cls := "HeadDots", name := "mixedStrip", desc := "(J)J" } : MethodName) prog_1_method_34_code 9 (Option.some ClassFile.FieldType.long)) ∈ bigW := bw2 220 rfl rfl
set_option maxRecDepth 20000 in
theorem wd_461 : (Cond.methodLink "HeadDots" 203 ({ cls := "HeadDots$Strip", name := "numberOfLine", desc := "(II)I" } : MethodName)) ∈ bigW := bw2 221 rfl rfl
set_option maxRecDepth 20000 in
theorem wd_462 : (Cond.instanceMethod ({ cls := "HeadDots$Strip", name := "numberOfLine", desc := "(II)I" } : MethodName)) ∈ bigW := bw2 222 rfl rfl
set_option maxRecDepth 20000 in
theorem wd_463 : (Cond.selects "HeadDots$Strip" ({ cls := "HeadDots$Strip", name := "numberOfLine", desc := "(II)I" } : MethodName) ({ cls := "HeadDots$Strip", name := "numberOfLine", desc := "(II)I" } : MethodName)) ∈ bigW := bw2 223 rfl rfl
set_option maxRecDepth 20000 in
theorem wd_464 : (Cond.code ({ cls := "HeadDots$Strip", name := "numberOfLine", desc := "(II)I" } : MethodName) prog_5_method_5_code 3 (Option.some ClassFile.FieldType.int)) ∈ bigW := bw2 224 rfl rfl
set_option maxRecDepth 20000 in
theorem wd_466 : (Cond.methodLink "HeadDots" 299 ({ cls := "HeadDots$Strip", name := "textLength", desc := "(I)I" } : MethodName)) ∈ bigW := bw2 226 rfl rfl
set_option maxRecDepth 20000 in
theorem wd_467 : (Cond.instanceMethod ({ cls := "HeadDots$Strip", name := "textLength", desc := "(I)I" } : MethodName)) ∈ bigW := bw2 227 rfl rfl
set_option maxRecDepth 20000 in
theorem wd_468 : (Cond.selects "HeadDots$Strip" ({ cls := "HeadDots$Strip", name := "textLength", desc := "(I)I" } : MethodName) ({ cls := "HeadDots$Strip", name := "textLength", desc := "(I)I" } : MethodName)) ∈ bigW := bw2 228 rfl rfl
set_option maxRecDepth 20000 in
theorem wd_469 : (Cond.code ({ cls := "HeadDots$Strip", name := "textLength", desc := "(I)I" } : MethodName) prog_5_method_6_code 2 (Option.some ClassFile.FieldType.int)) ∈ bigW := bw2 229 rfl rfl
set_option maxRecDepth 20000 in
theorem wd_470 : (Cond.methodLink "HeadDots$Strip" 47 Lib.Math.max.name) ∈ bigW := bw2 230 (by decide +kernel) (by decide +kernel)
set_option maxRecDepth 20000 in
theorem wd_471 : (Cond.methodLink "HeadDots" 175 ({ cls := "HeadDots$Strip", name := "sign", desc := "(II)I" } : MethodName)) ∈ bigW := bw2 231 rfl rfl
set_option maxRecDepth 20000 in
theorem wd_472 : (Cond.instanceMethod ({ cls := "HeadDots$Strip", name := "sign", desc := "(II)I" } : MethodName)) ∈ bigW := bw2 232 rfl rfl
set_option maxRecDepth 20000 in
theorem wd_473 : (Cond.selects "HeadDots$Strip" ({ cls := "HeadDots$Strip", name := "sign", desc := "(II)I" } : MethodName) ({ cls := "HeadDots$Strip", name := "sign", desc := "(II)I" } : MethodName)) ∈ bigW := bw2 233 rfl rfl
set_option maxRecDepth 20000 in
theorem wd_474 : (Cond.code ({ cls := "HeadDots$Strip", name := "sign", desc := "(II)I" } : MethodName) prog_5_method_7_code 3 (Option.some ClassFile.FieldType.int)) ∈ bigW := bw2 234 rfl rfl
set_option maxRecDepth 20000 in
theorem wd_475 : (Cond.methodLink "HeadDots$Strip" 50 ({ cls := "HeadDots$Strip", name := "textLength", desc := "(I)I" } : MethodName)) ∈ bigW := bw2 235 rfl rfl
set_option maxRecDepth 20000 in
theorem wd_477 : (Cond.methodLink "HeadDots" 249 ({ cls := "HeadDots", name := "mixedTrials", desc := "(J)J" } : MethodName)) ∈ bigW := bw2 237 rfl rfl
set_option maxRecDepth 20000 in
theorem wd_479 : (Cond.instanceMethod ({ cls := "HeadDots", name := "mixedTrials", desc := "(J)J" } : MethodName)) ∈ bigW := bw2 239 rfl rfl
set_option maxRecDepth 20000 in
theorem wd_480 : (Cond.code ({ cls := "HeadDots", name := "mixedTrials", desc := "(J)J" } : MethodName) prog_1_method_35_code 7 (Option.some ClassFile.FieldType.long)) ∈ bigW := bw3 0 rfl rfl
set_option maxRecDepth 20000 in
theorem wd_481 : (Cond.constant "HeadDots" 302 (16777215 : Int32)) ∈ bigW := bw3 1 rfl rfl
set_option maxRecDepth 20000 in
theorem wd_482 : (Cond.constant "HeadDots" 303 (5592405 : Int32)) ∈ bigW := bw3 2 rfl rfl
set_option maxRecDepth 20000 in
theorem wd_483 : (Cond.methodLink "HeadDots" 211 ({ cls := "HeadDots", name := "tryLine", desc := "(II)V" } : MethodName)) ∈ bigW := bw3 3 rfl rfl
set_option maxRecDepth 20000 in
theorem wd_485 : (Cond.instanceMethod ({ cls := "HeadDots", name := "tryLine", desc := "(II)V" } : MethodName)) ∈ bigW := bw3 5 rfl rfl
set_option maxRecDepth 20000 in
theorem wd_486 : (Cond.code ({ cls := "HeadDots", name := "tryLine", desc := "(II)V" } : MethodName) prog_1_method_30_code 3 (Option.none : Option ClassFile.FieldType)) ∈ bigW := bw3 6 rfl rfl
set_option maxRecDepth 20000 in
theorem wd_487 : (Cond.methodLink "HeadDots" 129 ({ cls := "HeadDots$State", name := "changeSetting", desc := "(II)V" } : MethodName)) ∈ bigW := bw3 7 rfl rfl
set_option maxRecDepth 20000 in
theorem wd_488 : (Cond.instanceMethod ({ cls := "HeadDots$State", name := "changeSetting", desc := "(II)V" } : MethodName)) ∈ bigW := bw3 8 rfl rfl
set_option maxRecDepth 20000 in
theorem wd_489 : (Cond.selects "HeadDots$State" ({ cls := "HeadDots$State", name := "changeSetting", desc := "(II)V" } : MethodName) ({ cls := "HeadDots$State", name := "changeSetting", desc := "(II)V" } : MethodName)) ∈ bigW := bw3 9 rfl rfl
set_option maxRecDepth 20000 in
theorem wd_490 : (Cond.code ({ cls := "HeadDots$State", name := "changeSetting", desc := "(II)V" } : MethodName) prog_4_method_4_code 3 (Option.none : Option ClassFile.FieldType)) ∈ bigW := bw3 10 rfl rfl
set_option maxRecDepth 20000 in
theorem wd_492 : (Cond.static ({ cls := "HeadDots", name := "put", desc := "([III)V" } : MethodName)) ∈ bigW := bw3 12 rfl rfl
set_option maxRecDepth 20000 in
theorem wd_493 : (Cond.code ({ cls := "HeadDots", name := "put", desc := "([III)V" } : MethodName) prog_1_method_45_code 3 (Option.none : Option ClassFile.FieldType)) ∈ bigW := bw3 13 rfl rfl
set_option maxRecDepth 20000 in
theorem wd_494 : (Cond.methodLink "HeadDots" 62 ({ cls := "HeadDots$State", name := "printLine", desc := "(I)I" } : MethodName)) ∈ bigW := bw3 14 rfl rfl
set_option maxRecDepth 20000 in
theorem wd_495 : (Cond.instanceMethod ({ cls := "HeadDots$State", name := "printLine", desc := "(I)I" } : MethodName)) ∈ bigW := bw3 15 rfl rfl
set_option maxRecDepth 20000 in
theorem wd_496 : (Cond.selects "HeadDots$State" ({ cls := "HeadDots$State", name := "printLine", desc := "(I)I" } : MethodName) ({ cls := "HeadDots$State", name := "printLine", desc := "(I)I" } : MethodName)) ∈ bigW := bw3 16 rfl rfl
set_option maxRecDepth 20000 in
theorem wd_497 : (Cond.code ({ cls := "HeadDots$State", name := "printLine", desc := "(I)I" } : MethodName) prog_4_method_7_code 9 (Option.some ClassFile.FieldType.int)) ∈ bigW := bw3 17 rfl rfl
set_option maxRecDepth 20000 in
theorem wd_498 : (Cond.methodLink "HeadDots$State" 77 ({ cls := "HeadDots$State", name := "dotsAtOnce", desc := "()I" } : MethodName)) ∈ bigW := bw3 18 rfl rfl
set_option maxRecDepth 20000 in
theorem wd_500 : (Cond.instanceMethod ({ cls := "HeadDots$State", name := "dotsAtOnce", desc := "()I" } : MethodName)) ∈ bigW := bw3 20 rfl rfl
set_option maxRecDepth 20000 in
theorem wd_501 : (Cond.code ({ cls := "HeadDots$State", name := "dotsAtOnce", desc := "()I" } : MethodName) prog_4_method_8_code 2 (Option.some ClassFile.FieldType.int)) ∈ bigW := bw3 21 rfl rfl
set_option maxRecDepth 20000 in
theorem wd_502 : (Cond.methodLink "HeadDots$State" 81 ({ cls := "java/lang/Integer", name := "bitCount", desc := "(I)I" } : MethodName)) ∈ bigW := bw3 22 rfl rfl
set_option maxRecDepth 20000 in
theorem wd_503 : (Cond.static ({ cls := "java/lang/Integer", name := "bitCount", desc := "(I)I" } : MethodName)) ∈ bigW := bw3 23 rfl rfl
set_option maxRecDepth 20000 in
theorem wd_504 : (Cond.code ({ cls := "java/lang/Integer", name := "bitCount", desc := "(I)I" } : MethodName) prog_15_method_49_code 1 (Option.some ClassFile.FieldType.int)) ∈ bigW := bw3 24 rfl rfl
set_option maxRecDepth 20000 in
theorem wd_505 : (Cond.constant "java/lang/Integer" 265 (1431655765 : Int32)) ∈ bigW := bw3 25 rfl rfl
set_option maxRecDepth 20000 in
theorem wd_506 : (Cond.constant "java/lang/Integer" 266 (858993459 : Int32)) ∈ bigW := bw3 26 rfl rfl
set_option maxRecDepth 20000 in
theorem wd_507 : (Cond.constant "java/lang/Integer" 267 (252645135 : Int32)) ∈ bigW := bw3 27 rfl rfl
set_option maxRecDepth 20000 in
theorem wd_508 : (Cond.methodLink "HeadDots$State" 86 ({ cls := "HeadDots$State", name := "preparePulses", desc := "(I)V" } : MethodName)) ∈ bigW := bw3 28 rfl rfl
set_option maxRecDepth 20000 in
theorem wd_510 : (Cond.instanceMethod ({ cls := "HeadDots$State", name := "preparePulses", desc := "(I)V" } : MethodName)) ∈ bigW := bw3 30 rfl rfl
set_option maxRecDepth 20000 in
theorem wd_511 : (Cond.code ({ cls := "HeadDots$State", name := "preparePulses", desc := "(I)V" } : MethodName) prog_4_method_9_code 4 (Option.none : Option ClassFile.FieldType)) ∈ bigW := bw3 31 rfl rfl
set_option maxRecDepth 20000 in
theorem wd_512 : (Cond.methodLink "HeadDots$State" 90 ({ cls := "HeadDots$State", name := "dotsOfPart", desc := "(IIII)I" } : MethodName)) ∈ bigW := bw3 32 rfl rfl
set_option maxRecDepth 20000 in
theorem wd_514 : (Cond.instanceMethod ({ cls := "HeadDots$State", name := "dotsOfPart", desc := "(IIII)I" } : MethodName)) ∈ bigW := bw3 34 rfl rfl
set_option maxRecDepth 20000 in
theorem wd_515 : (Cond.code ({ cls := "HeadDots$State", name := "dotsOfPart", desc := "(IIII)I" } : MethodName) prog_4_method_10_code 10 (Option.some ClassFile.FieldType.int)) ∈ bigW := bw3 35 rfl rfl
set_option maxRecDepth 20000 in
theorem wd_516 : (Cond.methodLink "HeadDots$State" 94 ({ cls := "HeadDots$State", name := "waitOfPart", desc := "(I)I" } : MethodName)) ∈ bigW := bw3 36 rfl rfl
set_option maxRecDepth 20000 in
theorem wd_518 : (Cond.instanceMethod ({ cls := "HeadDots$State", name := "waitOfPart", desc := "(I)I" } : MethodName)) ∈ bigW := bw3 38 rfl rfl
set_option maxRecDepth 20000 in
theorem wd_519 : (Cond.code ({ cls := "HeadDots$State", name := "waitOfPart", desc := "(I)I" } : MethodName) prog_4_method_11_code 5 (Option.some ClassFile.FieldType.int)) ∈ bigW := bw3 39 rfl rfl
set_option maxRecDepth 20000 in
theorem wd_520 : (Cond.methodLink "HeadDots$State" 97 ({ cls := "HeadDots$State", name := "passTime", desc := "(I)V" } : MethodName)) ∈ bigW := bw3 40 rfl rfl
set_option maxRecDepth 20000 in
theorem wd_521 : (Cond.instanceMethod ({ cls := "HeadDots$State", name := "passTime", desc := "(I)V" } : MethodName)) ∈ bigW := bw3 41 rfl rfl
set_option maxRecDepth 20000 in
theorem wd_522 : (Cond.selects "HeadDots$State" ({ cls := "HeadDots$State", name := "passTime", desc := "(I)V" } : MethodName) ({ cls := "HeadDots$State", name := "passTime", desc := "(I)V" } : MethodName)) ∈ bigW := bw3 42 rfl rfl
set_option maxRecDepth 20000 in
theorem wd_523 : (Cond.code ({ cls := "HeadDots$State", name := "passTime", desc := "(I)V" } : MethodName) prog_4_method_18_code 3 (Option.none : Option ClassFile.FieldType)) ∈ bigW := bw3 43 rfl rfl
set_option maxRecDepth 20000 in
theorem wd_524 : (Cond.methodLink "HeadDots$State" 143 ({ cls := "HeadDots$State", name := "cooledFor", desc := "(II)I" } : MethodName)) ∈ bigW := bw3 44 rfl rfl
set_option maxRecDepth 20000 in
theorem wd_526 : (Cond.instanceMethod ({ cls := "HeadDots$State", name := "cooledFor", desc := "(II)I" } : MethodName)) ∈ bigW := bw3 46 rfl rfl
set_option maxRecDepth 20000 in
theorem wd_527 : (Cond.code ({ cls := "HeadDots$State", name := "cooledFor", desc := "(II)I" } : MethodName) prog_4_method_19_code 6 (Option.some ClassFile.FieldType.int)) ∈ bigW := bw3 47 rfl rfl
set_option maxRecDepth 20000 in
theorem wd_528 : (Cond.methodLink "HeadDots$State" 103 ({ cls := "HeadDots$State", name := "heatPart", desc := "(I)I" } : MethodName)) ∈ bigW := bw3 48 rfl rfl
set_option maxRecDepth 20000 in
theorem wd_530 : (Cond.instanceMethod ({ cls := "HeadDots$State", name := "heatPart", desc := "(I)I" } : MethodName)) ∈ bigW := bw3 50 rfl rfl
set_option maxRecDepth 20000 in
theorem wd_531 : (Cond.code ({ cls := "HeadDots$State", name := "heatPart", desc := "(I)I" } : MethodName) prog_4_method_12_code 4 (Option.some ClassFile.FieldType.int)) ∈ bigW := bw3 51 rfl rfl
set_option maxRecDepth 20000 in
theorem wd_532 : (Cond.methodLink "HeadDots$State" 133 ({ cls := "HeadDots$State", name := "isDark", desc := "(I)Z" } : MethodName)) ∈ bigW := bw3 52 rfl rfl
set_option maxRecDepth 20000 in
theorem wd_534 : (Cond.instanceMethod ({ cls := "HeadDots$State", name := "isDark", desc := "(I)Z" } : MethodName)) ∈ bigW := bw3 54 rfl rfl
set_option maxRecDepth 20000 in
theorem wd_535 : (Cond.code ({ cls := "HeadDots$State", name := "isDark", desc := "(I)Z" } : MethodName) prog_4_method_17_code 2 (Option.some ClassFile.FieldType.boolean)) ∈ bigW := bw3 55 rfl rfl
set_option maxRecDepth 20000 in
theorem wd_538 : (Cond.methodLink "HeadDots$State" 106 ({ cls := "HeadDots$State", name := "longestPulse", desc := "(I)I" } : MethodName)) ∈ bigW := bw3 58 rfl rfl
set_option maxRecDepth 20000 in
theorem wd_540 : (Cond.instanceMethod ({ cls := "HeadDots$State", name := "longestPulse", desc := "(I)I" } : MethodName)) ∈ bigW := bw3 60 rfl rfl
set_option maxRecDepth 20000 in
theorem wd_541 : (Cond.code ({ cls := "HeadDots$State", name := "longestPulse", desc := "(I)I" } : MethodName) prog_4_method_13_code 4 (Option.some ClassFile.FieldType.int)) ∈ bigW := bw3 61 rfl rfl
set_option maxRecDepth 20000 in
theorem wd_542 : (Cond.methodLink "HeadDots$State" 109 ({ cls := "HeadDots$Strip", name := "addLine", desc := "(III)V" } : MethodName)) ∈ bigW := bw3 62 rfl rfl
set_option maxRecDepth 20000 in
theorem wd_543 : (Cond.instanceMethod ({ cls := "HeadDots$Strip", name := "addLine", desc := "(III)V" } : MethodName)) ∈ bigW := bw3 63 rfl rfl
set_option maxRecDepth 20000 in
theorem wd_544 : (Cond.selects "HeadDots$Strip" ({ cls := "HeadDots$Strip", name := "addLine", desc := "(III)V" } : MethodName) ({ cls := "HeadDots$Strip", name := "addLine", desc := "(III)V" } : MethodName)) ∈ bigW := bw3 64 rfl rfl
set_option maxRecDepth 20000 in
theorem wd_545 : (Cond.code ({ cls := "HeadDots$Strip", name := "addLine", desc := "(III)V" } : MethodName) prog_5_method_3_code 4 (Option.none : Option ClassFile.FieldType)) ∈ bigW := bw3 65 rfl rfl
set_option maxRecDepth 20000 in
theorem wd_546 : (Cond.methodLink "HeadDots$Strip" 29 ({ cls := "HeadDots$Strip", name := "pushFront", desc := "([II)V" } : MethodName)) ∈ bigW := bw3 66 rfl rfl
set_option maxRecDepth 20000 in
theorem wd_547 : (Cond.static ({ cls := "HeadDots$Strip", name := "pushFront", desc := "([II)V" } : MethodName)) ∈ bigW := bw3 67 rfl rfl
set_option maxRecDepth 20000 in
theorem wd_548 : (Cond.code ({ cls := "HeadDots$Strip", name := "pushFront", desc := "([II)V" } : MethodName) prog_5_method_4_code 3 (Option.none : Option ClassFile.FieldType)) ∈ bigW := bw3 68 rfl rfl
set_option maxRecDepth 20000 in
theorem wd_550 : (Cond.methodLink "HeadDots$Strip" 33 Lib.Math.min.name) ∈ bigW := bw3 70 (by decide +kernel) (by decide +kernel)
set_option maxRecDepth 20000 in
theorem wd_551 : (Cond.methodLink "HeadDots$State" 113 ({ cls := "HeadDots$Totals", name := "addLine", desc := "(III)V" } : MethodName)) ∈ bigW := bw3 71 rfl rfl
set_option maxRecDepth 20000 in
theorem wd_552 : (Cond.instanceMethod ({ cls := "HeadDots$Totals", name := "addLine", desc := "(III)V" } : MethodName)) ∈ bigW := bw3 72 rfl rfl
set_option maxRecDepth 20000 in
theorem wd_553 : (Cond.selects "HeadDots$Totals" ({ cls := "HeadDots$Totals", name := "addLine", desc := "(III)V" } : MethodName) ({ cls := "HeadDots$Totals", name := "addLine", desc := "(III)V" } : MethodName)) ∈ bigW := bw3 73 rfl rfl
set_option maxRecDepth 20000 in
theorem wd_554 : (Cond.code ({ cls := "HeadDots$Totals", name := "addLine", desc := "(III)V" } : MethodName) prog_6_method_3_code 4 (Option.none : Option ClassFile.FieldType)) ∈ bigW := bw3 74 rfl rfl
set_option maxRecDepth 20000 in
theorem wd_555 : (Cond.methodLink "HeadDots$Totals" 44 ({ cls := "java/lang/Integer", name := "bitCount", desc := "(I)I" } : MethodName)) ∈ bigW := bw3 75 rfl rfl
set_option maxRecDepth 20000 in
theorem wd_556 : (Cond.methodLink "HeadDots$Totals" 50 ({ cls := "HeadDots$Totals", name := "addDots", desc := "([II)V" } : MethodName)) ∈ bigW := bw3 76 rfl rfl
set_option maxRecDepth 20000 in
theorem wd_557 : (Cond.static ({ cls := "HeadDots$Totals", name := "addDots", desc := "([II)V" } : MethodName)) ∈ bigW := bw3 77 rfl rfl
set_option maxRecDepth 20000 in
theorem wd_558 : (Cond.code ({ cls := "HeadDots$Totals", name := "addDots", desc := "([II)V" } : MethodName) prog_6_method_4_code 3 (Option.none : Option ClassFile.FieldType)) ∈ bigW := bw3 78 rfl rfl
set_option maxRecDepth 20000 in
theorem wd_560 : (Cond.methodLink "HeadDots" 214 ({ cls := "HeadDots", name := "tried", desc := "(I)I" } : MethodName)) ∈ bigW := bw3 80 rfl rfl
set_option maxRecDepth 20000 in
theorem wd_562 : (Cond.instanceMethod ({ cls := "HeadDots", name := "tried", desc := "(I)I" } : MethodName)) ∈ bigW := bw3 82 rfl rfl
set_option maxRecDepth 20000 in
theorem wd_563 : (Cond.code ({ cls := "HeadDots", name := "tried", desc := "(I)I" } : MethodName) prog_1_method_31_code 3 (Option.some ClassFile.FieldType.int)) ∈ bigW := bw3 83 rfl rfl
set_option maxRecDepth 20000 in
theorem wd_564 : (Cond.constant "HeadDots" 252 (65535 : Int32)) ∈ bigW := bw3 84 rfl rfl
set_option maxRecDepth 20000 in
theorem wd_565 : (Cond.methodLink "HeadDots" 217 ({ cls := "HeadDots", name := "fasterWay", desc := "(I)I" } : MethodName)) ∈ bigW := bw3 85 rfl rfl
set_option maxRecDepth 20000 in
theorem wd_567 : (Cond.instanceMethod ({ cls := "HeadDots", name := "fasterWay", desc := "(I)I" } : MethodName)) ∈ bigW := bw3 87 rfl rfl
set_option maxRecDepth 20000 in
theorem wd_568 : (Cond.code ({ cls := "HeadDots", name := "fasterWay", desc := "(I)I" } : MethodName) prog_1_method_32_code 3 (Option.some ClassFile.FieldType.int)) ∈ bigW := bw3 88 rfl rfl
set_option maxRecDepth 20000 in
theorem wd_569 : (Cond.methodLink "HeadDots" 222 ({ cls := "HeadDots$State", name := "timeUntilCool", desc := "(I)I" } : MethodName)) ∈ bigW := bw3 89 rfl rfl
set_option maxRecDepth 20000 in
theorem wd_570 : (Cond.instanceMethod ({ cls := "HeadDots$State", name := "timeUntilCool", desc := "(I)I" } : MethodName)) ∈ bigW := bw3 90 rfl rfl
set_option maxRecDepth 20000 in
theorem wd_571 : (Cond.selects "HeadDots$State" ({ cls := "HeadDots$State", name := "timeUntilCool", desc := "(I)I" } : MethodName) ({ cls := "HeadDots$State", name := "timeUntilCool", desc := "(I)I" } : MethodName)) ∈ bigW := bw3 91 rfl rfl
set_option maxRecDepth 20000 in
theorem wd_572 : (Cond.code ({ cls := "HeadDots$State", name := "timeUntilCool", desc := "(I)I" } : MethodName) prog_4_method_22_code 2 (Option.some ClassFile.FieldType.int)) ∈ bigW := bw3 92 rfl rfl
set_option maxRecDepth 20000 in
theorem wd_573 : (Cond.methodLink "HeadDots$State" 150 ({ cls := "HeadDots$State", name := "hottestDot", desc := "()I" } : MethodName)) ∈ bigW := bw3 93 rfl rfl
set_option maxRecDepth 20000 in
theorem wd_574 : (Cond.methodLink "HeadDots" 225 ({ cls := "HeadDots$State", name := "leastDarkSetting", desc := "(I)I" } : MethodName)) ∈ bigW := bw3 94 rfl rfl
set_option maxRecDepth 20000 in
theorem wd_575 : (Cond.instanceMethod ({ cls := "HeadDots$State", name := "leastDarkSetting", desc := "(I)I" } : MethodName)) ∈ bigW := bw3 95 rfl rfl
set_option maxRecDepth 20000 in
theorem wd_576 : (Cond.selects "HeadDots$State" ({ cls := "HeadDots$State", name := "leastDarkSetting", desc := "(I)I" } : MethodName) ({ cls := "HeadDots$State", name := "leastDarkSetting", desc := "(I)I" } : MethodName)) ∈ bigW := bw3 96 rfl rfl
set_option maxRecDepth 20000 in
theorem wd_577 : (Cond.code ({ cls := "HeadDots$State", name := "leastDarkSetting", desc := "(I)I" } : MethodName) prog_4_method_24_code 6 (Option.some ClassFile.FieldType.int)) ∈ bigW := bw3 97 rfl rfl
set_option maxRecDepth 20000 in
theorem wd_582 : (Cond.methodLink "HeadDots" 253 ({ cls := "HeadDots", name := "bitsOfDouble", desc := "(D)J" } : MethodName)) ∈ bigW := bw3 102 rfl rfl
set_option maxRecDepth 20000 in
theorem wd_583 : (Cond.static ({ cls := "HeadDots", name := "bitsOfDouble", desc := "(D)J" } : MethodName)) ∈ bigW := bw3 103 rfl rfl
set_option maxRecDepth 20000 in
theorem wd_584 : (Cond.code ({ cls := "HeadDots", name := "bitsOfDouble", desc := "(D)J" } : MethodName) prog_1_method_38_code 7 (Option.some ClassFile.FieldType.long)) ∈ bigW := bw3 104 rfl rfl
set_option maxRecDepth 20000 in
theorem wd_585 : (Cond.constantLong "HeadDots" 306 (1023 : Int64)) ∈ bigW := bw3 105 rfl rfl
set_option maxRecDepth 20000 in
theorem wd_586 : (Cond.constantDouble "HeadDots" 308 (4611686018427387904 : UInt64)) ∈ bigW := bw3 106 rfl rfl
set_option maxRecDepth 20000 in
theorem wd_587 : (Cond.constantDouble "HeadDots" 310 (4841369599423283200 : UInt64)) ∈ bigW := bw3 107 rfl rfl
set_option maxRecDepth 20000 in
theorem wd_588 : (Cond.methodLink "HeadDots" 257 ({ cls := "HeadDots", name := "bitsOfFloat", desc := "(F)I" } : MethodName)) ∈ bigW := bw3 108 rfl rfl
set_option maxRecDepth 20000 in
theorem wd_589 : (Cond.static ({ cls := "HeadDots", name := "bitsOfFloat", desc := "(F)I" } : MethodName)) ∈ bigW := bw3 109 rfl rfl
set_option maxRecDepth 20000 in
theorem wd_590 : (Cond.code ({ cls := "HeadDots", name := "bitsOfFloat", desc := "(F)I" } : MethodName) prog_1_method_39_code 4 (Option.some ClassFile.FieldType.int)) ∈ bigW := bw3 110 rfl rfl
set_option maxRecDepth 20000 in
theorem wd_591 : (Cond.constantFloat "HeadDots" 312 (1258291200 : UInt32)) ∈ bigW := bw3 111 rfl rfl
set_option maxRecDepth 20000 in
theorem wd_592 : (Cond.methodLink "HeadDots" 261 ({ cls := "HeadDots", name := "mixedBuffer", desc := "(J)J" } : MethodName)) ∈ bigW := bw3 112 rfl rfl
set_option maxRecDepth 20000 in
theorem wd_594 : (Cond.instanceMethod ({ cls := "HeadDots", name := "mixedBuffer", desc := "(J)J" } : MethodName)) ∈ bigW := bw3 114 rfl rfl
set_option maxRecDepth 20000 in
theorem wd_595 : (Cond.code ({ cls := "HeadDots", name := "mixedBuffer", desc := "(J)J" } : MethodName) prog_1_method_36_code 6 (Option.some ClassFile.FieldType.long)) ∈ bigW := bw3 115 rfl rfl
set_option maxRecDepth 20000 in
theorem wd_596 : (Cond.methodLink "HeadDots" 164 ({ cls := "HeadDots$Buffer", name := "codeAt", desc := "(I)I" } : MethodName)) ∈ bigW := bw3 116 rfl rfl
set_option maxRecDepth 20000 in
theorem wd_597 : (Cond.methodLink "HeadDotsLaw" 73 ({ cls := "HeadDotsLaw", name := "line", desc := "(LHeadDots;I[J)I" } : MethodName)) ∈ bigW := bw3 117 rfl rfl
set_option maxRecDepth 20000 in
theorem wd_598 : (Cond.static ({ cls := "HeadDotsLaw", name := "line", desc := "(LHeadDots;I[J)I" } : MethodName)) ∈ bigW := bw3 118 rfl rfl
set_option maxRecDepth 20000 in
theorem wd_600 : (Cond.classLink "HeadDotsLaw" 13 "java/lang/IllegalArgumentException") ∈ bigW := bw3 120 rfl rfl
set_option maxRecDepth 20000 in
theorem wd_601 : (Cond.methodLink "HeadDotsLaw" 7 ({ cls := "HeadDots", name := "line", desc := "(I)I" } : MethodName)) ∈ bigW := bw3 121 rfl rfl
set_option maxRecDepth 20000 in
theorem wd_602 : (Cond.instanceMethod ({ cls := "HeadDots", name := "line", desc := "(I)I" } : MethodName)) ∈ bigW := bw3 122 rfl rfl
set_option maxRecDepth 20000 in
theorem wd_603 : (Cond.selects "HeadDots" ({ cls := "HeadDots", name := "line", desc := "(I)I" } : MethodName) ({ cls := "HeadDots", name := "line", desc := "(I)I" } : MethodName)) ∈ bigW := bw3 123 rfl rfl
set_option maxRecDepth 20000 in
theorem wd_604 : (Cond.code ({ cls := "HeadDots", name := "line", desc := "(I)I" } : MethodName) prog_1_method_2_code 2 (Option.some ClassFile.FieldType.int)) ∈ bigW := bw3 124 rfl rfl
set_option maxRecDepth 20000 in
theorem wd_605 : (Cond.methodLink "HeadDots" 48 ({ cls := "HeadDots", name := "isLine", desc := "(I)Z" } : MethodName)) ∈ bigW := bw3 125 rfl rfl
set_option maxRecDepth 20000 in
theorem wd_606 : (Cond.static ({ cls := "HeadDots", name := "isLine", desc := "(I)Z" } : MethodName)) ∈ bigW := bw3 126 rfl rfl
set_option maxRecDepth 20000 in
theorem wd_607 : (Cond.code ({ cls := "HeadDots", name := "isLine", desc := "(I)Z" } : MethodName) prog_1_method_41_code 1 (Option.some ClassFile.FieldType.boolean)) ∈ bigW := bw3 127 rfl rfl
set_option maxRecDepth 20000 in
theorem wd_608 : (Cond.methodLink "HeadDots" 66 ({ cls := "HeadDots", name := "isWithin", desc := "(III)Z" } : MethodName)) ∈ bigW := bw3 128 rfl rfl
set_option maxRecDepth 20000 in
theorem wd_609 : (Cond.classLink "HeadDots" 52 "java/lang/IllegalArgumentException") ∈ bigW := bw3 129 rfl rfl
set_option maxRecDepth 20000 in
theorem wd_610 : (Cond.instantiable "java/lang/IllegalArgumentException" 6) ∈ bigW := bw3 130 rfl rfl
set_option maxRecDepth 20000 in
theorem wd_651 : (Cond.methodLink "HeadDots" 56 ({ cls := "java/lang/IllegalArgumentException", name := "<init>", desc := "(Ljava/lang/String;)V" } : MethodName)) ∈ bigW := bw3 171 rfl rfl
set_option maxRecDepth 20000 in
theorem wd_652 : (Cond.instanceMethod ({ cls := "java/lang/IllegalArgumentException", name := "<init>", desc := "(Ljava/lang/String;)V" } : MethodName)) ∈ bigW := bw3 172 rfl rfl
set_option maxRecDepth 20000 in
theorem wd_653 : (Cond.code ({ cls := "java/lang/IllegalArgumentException", name := "<init>", desc := "(Ljava/lang/String;)V" } : MethodName) prog_12_method_2_code 2 (Option.none : Option ClassFile.FieldType)) ∈ bigW := bw3 173 rfl rfl
set_option maxRecDepth 20000 in
theorem wd_676 : (Cond.methodLink "HeadDots" 59 ({ cls := "HeadDots", name := "saveState", desc := "()V" } : MethodName)) ∈ bigW := bw3 196 rfl rfl
set_option maxRecDepth 20000 in
theorem wd_678 : (Cond.instanceMethod ({ cls := "HeadDots", name := "saveState", desc := "()V" } : MethodName)) ∈ bigW := bw3 198 rfl rfl
set_option maxRecDepth 20000 in
theorem wd_679 : (Cond.code ({ cls := "HeadDots", name := "saveState", desc := "()V" } : MethodName) prog_1_method_25_code 2 (Option.none : Option ClassFile.FieldType)) ∈ bigW := bw3 199 rfl rfl
set_option maxRecDepth 20000 in
theorem wd_680 : (Cond.methodLink "HeadDots" 264 ({ cls := "HeadDots", name := "dropOldest", desc := "()V" } : MethodName)) ∈ bigW := bw3 200 rfl rfl
set_option maxRecDepth 20000 in
theorem wd_682 : (Cond.instanceMethod ({ cls := "HeadDots", name := "dropOldest", desc := "()V" } : MethodName)) ∈ bigW := bw3 202 rfl rfl
set_option maxRecDepth 20000 in
theorem wd_683 : (Cond.code ({ cls := "HeadDots", name := "dropOldest", desc := "()V" } : MethodName) prog_1_method_26_code 3 (Option.none : Option ClassFile.FieldType)) ∈ bigW := bw3 203 rfl rfl
set_option maxRecDepth 20000 in
theorem wd_684 : (Cond.methodLink "HeadDots" 181 ({ cls := "HeadDots", name := "savedAt", desc := "(I)LHeadDots$State;" } : MethodName)) ∈ bigW := bw3 204 rfl rfl
set_option maxRecDepth 20000 in
theorem wd_686 : (Cond.instanceMethod ({ cls := "HeadDots", name := "savedAt", desc := "(I)LHeadDots$State;" } : MethodName)) ∈ bigW := bw3 206 rfl rfl
set_option maxRecDepth 20000 in
theorem wd_687 : (Cond.code ({ cls := "HeadDots", name := "savedAt", desc := "(I)LHeadDots$State;" } : MethodName) prog_1_method_27_code 2 (Option.some (ClassFile.FieldType.object "HeadDots$State"))) ∈ bigW := bw3 207 rfl rfl
set_option maxRecDepth 20000 in
theorem wd_688 : (Cond.methodLink "HeadDotsLaw" 82 ({ cls := "HeadDotsLaw", name := "lines", desc := "(LHeadDots;II[J)I" } : MethodName)) ∈ bigW := bw3 208 rfl rfl
set_option maxRecDepth 20000 in
theorem wd_689 : (Cond.static ({ cls := "HeadDotsLaw", name := "lines", desc := "(LHeadDots;II[J)I" } : MethodName)) ∈ bigW := bw3 209 rfl rfl
set_option maxRecDepth 20000 in
theorem wd_691 : (Cond.methodLink "HeadDotsLaw" 15 ({ cls := "HeadDots", name := "lines", desc := "(II)I" } : MethodName)) ∈ bigW := bw3 211 rfl rfl
set_option maxRecDepth 20000 in
theorem wd_692 : (Cond.instanceMethod ({ cls := "HeadDots", name := "lines", desc := "(II)I" } : MethodName)) ∈ bigW := bw3 212 rfl rfl
set_option maxRecDepth 20000 in
theorem wd_693 : (Cond.selects "HeadDots" ({ cls := "HeadDots", name := "lines", desc := "(II)I" } : MethodName) ({ cls := "HeadDots", name := "lines", desc := "(II)I" } : MethodName)) ∈ bigW := bw3 213 rfl rfl
set_option maxRecDepth 20000 in
theorem wd_694 : (Cond.code ({ cls := "HeadDots", name := "lines", desc := "(II)I" } : MethodName) prog_1_method_3_code 4 (Option.some ClassFile.FieldType.int)) ∈ bigW := bw3 214 rfl rfl
set_option maxRecDepth 20000 in
theorem wd_696 : (Cond.methodLink "HeadDots" 81 ({ cls := "HeadDots$State", name := "printLines", desc := "(II)V" } : MethodName)) ∈ bigW := bw3 216 rfl rfl
set_option maxRecDepth 20000 in
theorem wd_697 : (Cond.instanceMethod ({ cls := "HeadDots$State", name := "printLines", desc := "(II)V" } : MethodName)) ∈ bigW := bw3 217 rfl rfl
set_option maxRecDepth 20000 in
theorem wd_698 : (Cond.selects "HeadDots$State" ({ cls := "HeadDots$State", name := "printLines", desc := "(II)V" } : MethodName) ({ cls := "HeadDots$State", name := "printLines", desc := "(II)V" } : MethodName)) ∈ bigW := bw3 218 rfl rfl
set_option maxRecDepth 20000 in
theorem wd_699 : (Cond.code ({ cls := "HeadDots$State", name := "printLines", desc := "(II)V" } : MethodName) prog_4_method_6_code 4 (Option.none : Option ClassFile.FieldType)) ∈ bigW := bw3 219 rfl rfl
set_option maxRecDepth 20000 in
theorem wd_700 : (Cond.methodLink "HeadDots$State" 70 ({ cls := "HeadDots$State", name := "printLine", desc := "(I)I" } : MethodName)) ∈ bigW := bw3 220 rfl rfl
set_option maxRecDepth 20000 in
theorem wd_701 : (Cond.methodLink "HeadDotsLaw" 86 ({ cls := "HeadDotsLaw", name := "rest", desc := "(LHeadDots;I[J)I" } : MethodName)) ∈ bigW := bw3 221 rfl rfl
set_option maxRecDepth 20000 in
theorem wd_702 : (Cond.static ({ cls := "HeadDotsLaw", name := "rest", desc := "(LHeadDots;I[J)I" } : MethodName)) ∈ bigW := bw3 222 rfl rfl
set_option maxRecDepth 20000 in
theorem wd_704 : (Cond.methodLink "HeadDotsLaw" 19 ({ cls := "HeadDots", name := "rest", desc := "(I)I" } : MethodName)) ∈ bigW := bw3 224 rfl rfl
set_option maxRecDepth 20000 in
theorem wd_705 : (Cond.instanceMethod ({ cls := "HeadDots", name := "rest", desc := "(I)I" } : MethodName)) ∈ bigW := bw3 225 rfl rfl
set_option maxRecDepth 20000 in
theorem wd_706 : (Cond.selects "HeadDots" ({ cls := "HeadDots", name := "rest", desc := "(I)I" } : MethodName) ({ cls := "HeadDots", name := "rest", desc := "(I)I" } : MethodName)) ∈ bigW := bw3 226 rfl rfl
set_option maxRecDepth 20000 in
theorem wd_707 : (Cond.code ({ cls := "HeadDots", name := "rest", desc := "(I)I" } : MethodName) prog_1_method_4_code 2 (Option.some ClassFile.FieldType.int)) ∈ bigW := bw3 227 rfl rfl
set_option maxRecDepth 20000 in
theorem wd_709 : (Cond.methodLink "HeadDots" 87 ({ cls := "HeadDots$State", name := "passTime", desc := "(I)V" } : MethodName)) ∈ bigW := bw3 229 rfl rfl
set_option maxRecDepth 20000 in
theorem wd_710 : (Cond.methodLink "HeadDotsLaw" 89 ({ cls := "HeadDotsLaw", name := "paper", desc := "(LHeadDots;I[J)I" } : MethodName)) ∈ bigW := bw3 230 rfl rfl
set_option maxRecDepth 20000 in
theorem wd_711 : (Cond.static ({ cls := "HeadDotsLaw", name := "paper", desc := "(LHeadDots;I[J)I" } : MethodName)) ∈ bigW := bw3 231 rfl rfl
set_option maxRecDepth 20000 in
theorem wd_713 : (Cond.methodLink "HeadDotsLaw" 22 ({ cls := "HeadDots", name := "paper", desc := "(I)I" } : MethodName)) ∈ bigW := bw3 233 rfl rfl
set_option maxRecDepth 20000 in
theorem wd_714 : (Cond.instanceMethod ({ cls := "HeadDots", name := "paper", desc := "(I)I" } : MethodName)) ∈ bigW := bw3 234 rfl rfl
set_option maxRecDepth 20000 in
theorem wd_715 : (Cond.selects "HeadDots" ({ cls := "HeadDots", name := "paper", desc := "(I)I" } : MethodName) ({ cls := "HeadDots", name := "paper", desc := "(I)I" } : MethodName)) ∈ bigW := bw3 235 rfl rfl
set_option maxRecDepth 20000 in
theorem wd_716 : (Cond.code ({ cls := "HeadDots", name := "paper", desc := "(I)I" } : MethodName) prog_1_method_5_code 3 (Option.some ClassFile.FieldType.int)) ∈ bigW := bw3 236 rfl rfl
set_option maxRecDepth 20000 in
theorem wd_718 : (Cond.methodLink "HeadDots" 106 ({ cls := "HeadDots$State", name := "changePaper", desc := "(I)V" } : MethodName)) ∈ bigW := bw3 238 rfl rfl
set_option maxRecDepth 20000 in
theorem wd_719 : (Cond.instanceMethod ({ cls := "HeadDots$State", name := "changePaper", desc := "(I)V" } : MethodName)) ∈ bigW := bw3 239 rfl rfl
set_option maxRecDepth 20000 in
theorem wd_720 : (Cond.selects "HeadDots$State" ({ cls := "HeadDots$State", name := "changePaper", desc := "(I)V" } : MethodName) ({ cls := "HeadDots$State", name := "changePaper", desc := "(I)V" } : MethodName)) ∈ bigW := bw4 0 rfl rfl
set_option maxRecDepth 20000 in
theorem wd_721 : (Cond.code ({ cls := "HeadDots$State", name := "changePaper", desc := "(I)V" } : MethodName) prog_4_method_5_code 2 (Option.none : Option ClassFile.FieldType)) ∈ bigW := bw4 1 rfl rfl
set_option maxRecDepth 20000 in
theorem wd_722 : (Cond.methodLink "HeadDotsLaw" 92 ({ cls := "HeadDotsLaw", name := "set", desc := "(LHeadDots;II[J)I" } : MethodName)) ∈ bigW := bw4 2 rfl rfl
set_option maxRecDepth 20000 in
theorem wd_723 : (Cond.static ({ cls := "HeadDotsLaw", name := "set", desc := "(LHeadDots;II[J)I" } : MethodName)) ∈ bigW := bw4 3 rfl rfl
set_option maxRecDepth 20000 in
theorem wd_725 : (Cond.classLink "HeadDotsLaw" 28 "java/lang/IndexOutOfBoundsException") ∈ bigW := bw4 5 rfl rfl
set_option maxRecDepth 20000 in
theorem wd_726 : (Cond.methodLink "HeadDotsLaw" 25 ({ cls := "HeadDots", name := "set", desc := "(II)I" } : MethodName)) ∈ bigW := bw4 6 rfl rfl
set_option maxRecDepth 20000 in
theorem wd_727 : (Cond.instanceMethod ({ cls := "HeadDots", name := "set", desc := "(II)I" } : MethodName)) ∈ bigW := bw4 7 rfl rfl
set_option maxRecDepth 20000 in
theorem wd_728 : (Cond.selects "HeadDots" ({ cls := "HeadDots", name := "set", desc := "(II)I" } : MethodName) ({ cls := "HeadDots", name := "set", desc := "(II)I" } : MethodName)) ∈ bigW := bw4 8 rfl rfl
set_option maxRecDepth 20000 in
theorem wd_729 : (Cond.code ({ cls := "HeadDots", name := "set", desc := "(II)I" } : MethodName) prog_1_method_6_code 4 (Option.some ClassFile.FieldType.int)) ∈ bigW := bw4 9 rfl rfl
set_option maxRecDepth 20000 in
theorem wd_730 : (Cond.classLink "HeadDots" 109 "java/lang/IndexOutOfBoundsException") ∈ bigW := bw4 10 rfl rfl
set_option maxRecDepth 20000 in
theorem wd_731 : (Cond.instantiable "java/lang/IndexOutOfBoundsException" 6) ∈ bigW := bw4 11 rfl rfl
set_option maxRecDepth 20000 in
theorem wd_740 : (Cond.methodLink "HeadDots" 113 ({ cls := "java/lang/IndexOutOfBoundsException", name := "<init>", desc := "(Ljava/lang/String;)V" } : MethodName)) ∈ bigW := bw4 20 rfl rfl
set_option maxRecDepth 20000 in
theorem wd_741 : (Cond.instanceMethod ({ cls := "java/lang/IndexOutOfBoundsException", name := "<init>", desc := "(Ljava/lang/String;)V" } : MethodName)) ∈ bigW := bw4 21 rfl rfl
set_option maxRecDepth 20000 in
theorem wd_742 : (Cond.code ({ cls := "java/lang/IndexOutOfBoundsException", name := "<init>", desc := "(Ljava/lang/String;)V" } : MethodName) prog_14_method_2_code 2 (Option.none : Option ClassFile.FieldType)) ∈ bigW := bw4 22 rfl rfl
set_option maxRecDepth 20000 in
theorem wd_746 : (Cond.fieldLink "HeadDots" 114 "HeadDots" "SETTING_LEAST" "[I") ∈ bigW := bw4 26 rfl rfl
set_option maxRecDepth 20000 in
theorem wd_747 : (Cond.methodLink "HeadDots" 118 ({ cls := "HeadDots", name := "at", desc := "([II)I" } : MethodName)) ∈ bigW := bw4 27 rfl rfl
set_option maxRecDepth 20000 in
theorem wd_748 : (Cond.fieldLink "HeadDots" 122 "HeadDots" "SETTING_MOST" "[I") ∈ bigW := bw4 28 rfl rfl
set_option maxRecDepth 20000 in
theorem wd_750 : (Cond.methodLink "HeadDotsLaw" 95 ({ cls := "HeadDotsLaw", name := "append", desc := "(LHeadDots;I[J)I" } : MethodName)) ∈ bigW := bw4 30 rfl rfl
set_option maxRecDepth 20000 in
theorem wd_751 : (Cond.static ({ cls := "HeadDotsLaw", name := "append", desc := "(LHeadDots;I[J)I" } : MethodName)) ∈ bigW := bw4 31 rfl rfl
set_option maxRecDepth 20000 in
theorem wd_753 : (Cond.classLink "HeadDotsLaw" 33 "java/lang/IllegalStateException") ∈ bigW := bw4 33 rfl rfl
set_option maxRecDepth 20000 in
theorem wd_754 : (Cond.methodLink "HeadDotsLaw" 30 ({ cls := "HeadDots", name := "append", desc := "(I)I" } : MethodName)) ∈ bigW := bw4 34 rfl rfl
set_option maxRecDepth 20000 in
theorem wd_755 : (Cond.instanceMethod ({ cls := "HeadDots", name := "append", desc := "(I)I" } : MethodName)) ∈ bigW := bw4 35 rfl rfl
set_option maxRecDepth 20000 in
theorem wd_756 : (Cond.selects "HeadDots" ({ cls := "HeadDots", name := "append", desc := "(I)I" } : MethodName) ({ cls := "HeadDots", name := "append", desc := "(I)I" } : MethodName)) ∈ bigW := bw4 36 rfl rfl
set_option maxRecDepth 20000 in
theorem wd_757 : (Cond.code ({ cls := "HeadDots", name := "append", desc := "(I)I" } : MethodName) prog_1_method_7_code 2 (Option.some ClassFile.FieldType.int)) ∈ bigW := bw4 37 rfl rfl
set_option maxRecDepth 20000 in
theorem wd_759 : (Cond.methodLink "HeadDots" 134 ({ cls := "HeadDots$Buffer", name := "isFull", desc := "()Z" } : MethodName)) ∈ bigW := bw4 39 rfl rfl
set_option maxRecDepth 20000 in
theorem wd_760 : (Cond.instanceMethod ({ cls := "HeadDots$Buffer", name := "isFull", desc := "()Z" } : MethodName)) ∈ bigW := bw4 40 rfl rfl
set_option maxRecDepth 20000 in
theorem wd_761 : (Cond.selects "HeadDots$Buffer" ({ cls := "HeadDots$Buffer", name := "isFull", desc := "()Z" } : MethodName) ({ cls := "HeadDots$Buffer", name := "isFull", desc := "()Z" } : MethodName)) ∈ bigW := bw4 41 rfl rfl
set_option maxRecDepth 20000 in
theorem wd_762 : (Cond.code ({ cls := "HeadDots$Buffer", name := "isFull", desc := "()Z" } : MethodName) prog_2_method_2_code 1 (Option.some ClassFile.FieldType.boolean)) ∈ bigW := bw4 42 rfl rfl
set_option maxRecDepth 20000 in
theorem wd_763 : (Cond.classLink "HeadDots" 138 "java/lang/IllegalStateException") ∈ bigW := bw4 43 rfl rfl
set_option maxRecDepth 20000 in
theorem wd_764 : (Cond.instantiable "java/lang/IllegalStateException" 6) ∈ bigW := bw4 44 rfl rfl
set_option maxRecDepth 20000 in
theorem wd_773 : (Cond.methodLink "HeadDots" 142 ({ cls := "java/lang/IllegalStateException", name := "<init>", desc := "(Ljava/lang/String;)V" } : MethodName)) ∈ bigW := bw4 53 rfl rfl
set_option maxRecDepth 20000 in
theorem wd_774 : (Cond.instanceMethod ({ cls := "java/lang/IllegalStateException", name := "<init>", desc := "(Ljava/lang/String;)V" } : MethodName)) ∈ bigW := bw4 54 rfl rfl
set_option maxRecDepth 20000 in
theorem wd_775 : (Cond.code ({ cls := "java/lang/IllegalStateException", name := "<init>", desc := "(Ljava/lang/String;)V" } : MethodName) prog_13_method_2_code 2 (Option.none : Option ClassFile.FieldType)) ∈ bigW := bw4 55 rfl rfl
set_option maxRecDepth 20000 in
theorem wd_779 : (Cond.methodLink "HeadDots" 143 ({ cls := "HeadDots$Buffer", name := "addCode", desc := "(I)V" } : MethodName)) ∈ bigW := bw4 59 rfl rfl
set_option maxRecDepth 20000 in
theorem wd_780 : (Cond.instanceMethod ({ cls := "HeadDots$Buffer", name := "addCode", desc := "(I)V" } : MethodName)) ∈ bigW := bw4 60 rfl rfl
set_option maxRecDepth 20000 in
theorem wd_781 : (Cond.selects "HeadDots$Buffer" ({ cls := "HeadDots$Buffer", name := "addCode", desc := "(I)V" } : MethodName) ({ cls := "HeadDots$Buffer", name := "addCode", desc := "(I)V" } : MethodName)) ∈ bigW := bw4 61 rfl rfl
set_option maxRecDepth 20000 in
theorem wd_782 : (Cond.code ({ cls := "HeadDots$Buffer", name := "addCode", desc := "(I)V" } : MethodName) prog_2_method_3_code 2 (Option.none : Option ClassFile.FieldType)) ∈ bigW := bw4 62 rfl rfl
set_option maxRecDepth 20000 in
theorem wd_784 : (Cond.methodLink "HeadDotsLaw" 106 ({ cls := "HeadDotsLaw", name := "print", desc := "(LHeadDots;[J)I" } : MethodName)) ∈ bigW := bw4 64 rfl rfl
set_option maxRecDepth 20000 in
theorem wd_785 : (Cond.static ({ cls := "HeadDotsLaw", name := "print", desc := "(LHeadDots;[J)I" } : MethodName)) ∈ bigW := bw4 65 rfl rfl
set_option maxRecDepth 20000 in
theorem wd_787 : (Cond.methodLink "HeadDotsLaw" 35 ({ cls := "HeadDots", name := "print", desc := "()I" } : MethodName)) ∈ bigW := bw4 67 rfl rfl
set_option maxRecDepth 20000 in
theorem wd_788 : (Cond.instanceMethod ({ cls := "HeadDots", name := "print", desc := "()I" } : MethodName)) ∈ bigW := bw4 68 rfl rfl
set_option maxRecDepth 20000 in
theorem wd_789 : (Cond.selects "HeadDots" ({ cls := "HeadDots", name := "print", desc := "()I" } : MethodName) ({ cls := "HeadDots", name := "print", desc := "()I" } : MethodName)) ∈ bigW := bw4 69 rfl rfl
set_option maxRecDepth 20000 in
theorem wd_790 : (Cond.code ({ cls := "HeadDots", name := "print", desc := "()I" } : MethodName) prog_1_method_10_code 4 (Option.some ClassFile.FieldType.int)) ∈ bigW := bw4 70 rfl rfl
set_option maxRecDepth 20000 in
theorem wd_791 : (Cond.methodLink "HeadDots" 153 ({ cls := "HeadDots$Reader", name := "isComplete", desc := "()Z" } : MethodName)) ∈ bigW := bw4 71 rfl rfl
set_option maxRecDepth 20000 in
theorem wd_793 : (Cond.methodLink "HeadDots" 161 ({ cls := "HeadDots$Reader", name := "beginPart", desc := "()V" } : MethodName)) ∈ bigW := bw4 73 rfl rfl
set_option maxRecDepth 20000 in
theorem wd_794 : (Cond.methodLink "HeadDots" 167 ({ cls := "HeadDots", name := "printPartOfText", desc := "()V" } : MethodName)) ∈ bigW := bw4 74 rfl rfl
set_option maxRecDepth 20000 in
theorem wd_796 : (Cond.instanceMethod ({ cls := "HeadDots", name := "printPartOfText", desc := "()V" } : MethodName)) ∈ bigW := bw4 76 rfl rfl
set_option maxRecDepth 20000 in
theorem wd_797 : (Cond.code ({ cls := "HeadDots", name := "printPartOfText", desc := "()V" } : MethodName) prog_1_method_28_code 1 (Option.none : Option ClassFile.FieldType)) ∈ bigW := bw4 77 rfl rfl
set_option maxRecDepth 20000 in
theorem wd_798 : (Cond.methodLink "HeadDots" 275 Lib.Math.max.name) ∈ bigW := bw4 78 (by decide +kernel) (by decide +kernel)
set_option maxRecDepth 20000 in
theorem wd_799 : (Cond.methodLink "HeadDots" 170 ({ cls := "HeadDots$Reader", name := "take", desc := "(I)Z" } : MethodName)) ∈ bigW := bw4 79 rfl rfl
set_option maxRecDepth 20000 in
theorem wd_800 : (Cond.methodLink "HeadDotsLaw" 110 ({ cls := "HeadDotsLaw", name := "told", desc := "(LHeadDots;II[J)I" } : MethodName)) ∈ bigW := bw4 80 rfl rfl
set_option maxRecDepth 20000 in
theorem wd_801 : (Cond.static ({ cls := "HeadDotsLaw", name := "told", desc := "(LHeadDots;II[J)I" } : MethodName)) ∈ bigW := bw4 81 rfl rfl
set_option maxRecDepth 20000 in
theorem wd_803 : (Cond.methodLink "HeadDotsLaw" 39 ({ cls := "HeadDots", name := "told", desc := "(II)I" } : MethodName)) ∈ bigW := bw4 83 rfl rfl
set_option maxRecDepth 20000 in
theorem wd_804 : (Cond.instanceMethod ({ cls := "HeadDots", name := "told", desc := "(II)I" } : MethodName)) ∈ bigW := bw4 84 rfl rfl
set_option maxRecDepth 20000 in
theorem wd_805 : (Cond.selects "HeadDots" ({ cls := "HeadDots", name := "told", desc := "(II)I" } : MethodName) ({ cls := "HeadDots", name := "told", desc := "(II)I" } : MethodName)) ∈ bigW := bw4 85 rfl rfl
set_option maxRecDepth 20000 in
theorem wd_806 : (Cond.code ({ cls := "HeadDots", name := "told", desc := "(II)I" } : MethodName) prog_1_method_11_code 3 (Option.some ClassFile.FieldType.int)) ∈ bigW := bw4 86 rfl rfl
set_option maxRecDepth 20000 in
theorem wd_808 : (Cond.methodLink "HeadDotsLaw" 113 ({ cls := "HeadDotsLaw", name := "undo", desc := "(LHeadDots;[J)I" } : MethodName)) ∈ bigW := bw4 88 rfl rfl
set_option maxRecDepth 20000 in
theorem wd_809 : (Cond.static ({ cls := "HeadDotsLaw", name := "undo", desc := "(LHeadDots;[J)I" } : MethodName)) ∈ bigW := bw4 89 rfl rfl
set_option maxRecDepth 20000 in
theorem wd_811 : (Cond.methodLink "HeadDotsLaw" 42 ({ cls := "HeadDots", name := "undo", desc := "()I" } : MethodName)) ∈ bigW := bw4 91 rfl rfl
set_option maxRecDepth 20000 in
theorem wd_812 : (Cond.instanceMethod ({ cls := "HeadDots", name := "undo", desc := "()I" } : MethodName)) ∈ bigW := bw4 92 rfl rfl
set_option maxRecDepth 20000 in
theorem wd_813 : (Cond.selects "HeadDots" ({ cls := "HeadDots", name := "undo", desc := "()I" } : MethodName) ({ cls := "HeadDots", name := "undo", desc := "()I" } : MethodName)) ∈ bigW := bw4 93 rfl rfl
set_option maxRecDepth 20000 in
theorem wd_814 : (Cond.code ({ cls := "HeadDots", name := "undo", desc := "()I" } : MethodName) prog_1_method_12_code 2 (Option.some ClassFile.FieldType.int)) ∈ bigW := bw4 94 rfl rfl
set_option maxRecDepth 20000 in
theorem wd_816 : (Cond.methodLink "HeadDotsLaw" 120 ({ cls := "HeadDotsLaw", name := "restore", desc := "(LHeadDots;[J)I" } : MethodName)) ∈ bigW := bw4 96 rfl rfl
set_option maxRecDepth 20000 in
theorem wd_817 : (Cond.static ({ cls := "HeadDotsLaw", name := "restore", desc := "(LHeadDots;[J)I" } : MethodName)) ∈ bigW := bw4 97 rfl rfl
set_option maxRecDepth 20000 in
theorem wd_819 : (Cond.methodLink "HeadDotsLaw" 45 ({ cls := "HeadDots", name := "restore", desc := "()I" } : MethodName)) ∈ bigW := bw4 99 rfl rfl
set_option maxRecDepth 20000 in
theorem wd_820 : (Cond.instanceMethod ({ cls := "HeadDots", name := "restore", desc := "()I" } : MethodName)) ∈ bigW := bw4 100 rfl rfl
set_option maxRecDepth 20000 in
theorem wd_821 : (Cond.selects "HeadDots" ({ cls := "HeadDots", name := "restore", desc := "()I" } : MethodName) ({ cls := "HeadDots", name := "restore", desc := "()I" } : MethodName)) ∈ bigW := bw4 101 rfl rfl
set_option maxRecDepth 20000 in
theorem wd_822 : (Cond.code ({ cls := "HeadDots", name := "restore", desc := "()I" } : MethodName) prog_1_method_14_code 1 (Option.some ClassFile.FieldType.int)) ∈ bigW := bw4 102 rfl rfl
set_option maxRecDepth 20000 in
theorem wd_824 : (Cond.methodLink "HeadDotsLaw" 123 ({ cls := "HeadDotsLaw", name := "dot", desc := "(LHeadDots;II[J)I" } : MethodName)) ∈ bigW := bw4 104 rfl rfl
set_option maxRecDepth 20000 in
theorem wd_825 : (Cond.static ({ cls := "HeadDotsLaw", name := "dot", desc := "(LHeadDots;II[J)I" } : MethodName)) ∈ bigW := bw4 105 rfl rfl
set_option maxRecDepth 20000 in
theorem wd_827 : (Cond.methodLink "HeadDotsLaw" 48 ({ cls := "HeadDots", name := "dot", desc := "(II)I" } : MethodName)) ∈ bigW := bw4 107 rfl rfl
set_option maxRecDepth 20000 in
theorem wd_828 : (Cond.instanceMethod ({ cls := "HeadDots", name := "dot", desc := "(II)I" } : MethodName)) ∈ bigW := bw4 108 rfl rfl
set_option maxRecDepth 20000 in
theorem wd_829 : (Cond.selects "HeadDots" ({ cls := "HeadDots", name := "dot", desc := "(II)I" } : MethodName) ({ cls := "HeadDots", name := "dot", desc := "(II)I" } : MethodName)) ∈ bigW := bw4 109 rfl rfl
set_option maxRecDepth 20000 in
theorem wd_830 : (Cond.code ({ cls := "HeadDots", name := "dot", desc := "(II)I" } : MethodName) prog_1_method_15_code 3 (Option.some ClassFile.FieldType.int)) ∈ bigW := bw4 110 rfl rfl
set_option maxRecDepth 20000 in
theorem wd_831 : (Cond.methodLink "HeadDots" 191 ({ cls := "HeadDots", name := "isDot", desc := "(I)Z" } : MethodName)) ∈ bigW := bw4 111 rfl rfl
set_option maxRecDepth 20000 in
theorem wd_832 : (Cond.static ({ cls := "HeadDots", name := "isDot", desc := "(I)Z" } : MethodName)) ∈ bigW := bw4 112 rfl rfl
set_option maxRecDepth 20000 in
theorem wd_833 : (Cond.code ({ cls := "HeadDots", name := "isDot", desc := "(I)Z" } : MethodName) prog_1_method_42_code 1 (Option.some ClassFile.FieldType.boolean)) ∈ bigW := bw4 113 rfl rfl
set_option maxRecDepth 20000 in
theorem wd_836 : (Cond.methodLink "HeadDotsLaw" 126 ({ cls := "HeadDotsLaw", name := "kept", desc := "(LHeadDots;II[J)I" } : MethodName)) ∈ bigW := bw4 116 rfl rfl
set_option maxRecDepth 20000 in
theorem wd_837 : (Cond.static ({ cls := "HeadDotsLaw", name := "kept", desc := "(LHeadDots;II[J)I" } : MethodName)) ∈ bigW := bw4 117 rfl rfl
set_option maxRecDepth 20000 in
theorem wd_839 : (Cond.methodLink "HeadDotsLaw" 51 ({ cls := "HeadDots", name := "kept", desc := "(II)I" } : MethodName)) ∈ bigW := bw4 119 rfl rfl
set_option maxRecDepth 20000 in
theorem wd_840 : (Cond.instanceMethod ({ cls := "HeadDots", name := "kept", desc := "(II)I" } : MethodName)) ∈ bigW := bw4 120 rfl rfl
set_option maxRecDepth 20000 in
theorem wd_841 : (Cond.selects "HeadDots" ({ cls := "HeadDots", name := "kept", desc := "(II)I" } : MethodName) ({ cls := "HeadDots", name := "kept", desc := "(II)I" } : MethodName)) ∈ bigW := bw4 121 rfl rfl
set_option maxRecDepth 20000 in
theorem wd_842 : (Cond.code ({ cls := "HeadDots", name := "kept", desc := "(II)I" } : MethodName) prog_1_method_16_code 3 (Option.some ClassFile.FieldType.int)) ∈ bigW := bw4 122 rfl rfl
set_option maxRecDepth 20000 in
theorem wd_844 : (Cond.methodLink "HeadDotsLaw" 129 ({ cls := "HeadDotsLaw", name := "count", desc := "(LHeadDots;I[J)I" } : MethodName)) ∈ bigW := bw4 124 rfl rfl
set_option maxRecDepth 20000 in
theorem wd_845 : (Cond.static ({ cls := "HeadDotsLaw", name := "count", desc := "(LHeadDots;I[J)I" } : MethodName)) ∈ bigW := bw4 125 rfl rfl
set_option maxRecDepth 20000 in
theorem wd_847 : (Cond.methodLink "HeadDotsLaw" 54 ({ cls := "HeadDots", name := "count", desc := "(I)I" } : MethodName)) ∈ bigW := bw4 127 rfl rfl
set_option maxRecDepth 20000 in
theorem wd_848 : (Cond.instanceMethod ({ cls := "HeadDots", name := "count", desc := "(I)I" } : MethodName)) ∈ bigW := bw4 128 rfl rfl
set_option maxRecDepth 20000 in
theorem wd_849 : (Cond.selects "HeadDots" ({ cls := "HeadDots", name := "count", desc := "(I)I" } : MethodName) ({ cls := "HeadDots", name := "count", desc := "(I)I" } : MethodName)) ∈ bigW := bw4 129 rfl rfl
set_option maxRecDepth 20000 in
theorem wd_850 : (Cond.code ({ cls := "HeadDots", name := "count", desc := "(I)I" } : MethodName) prog_1_method_17_code 2 (Option.some ClassFile.FieldType.int)) ∈ bigW := bw4 130 rfl rfl
set_option maxRecDepth 20000 in
theorem wd_851 : (Cond.methodLink "HeadDotsLaw" 132 ({ cls := "HeadDotsLaw", name := "ifPrinted", desc := "(LHeadDots;II[J)I" } : MethodName)) ∈ bigW := bw4 131 rfl rfl
set_option maxRecDepth 20000 in
theorem wd_852 : (Cond.static ({ cls := "HeadDotsLaw", name := "ifPrinted", desc := "(LHeadDots;II[J)I" } : MethodName)) ∈ bigW := bw4 132 rfl rfl
set_option maxRecDepth 20000 in
theorem wd_854 : (Cond.methodLink "HeadDotsLaw" 57 ({ cls := "HeadDots", name := "ifPrinted", desc := "(II)I" } : MethodName)) ∈ bigW := bw4 134 rfl rfl
set_option maxRecDepth 20000 in
theorem wd_855 : (Cond.instanceMethod ({ cls := "HeadDots", name := "ifPrinted", desc := "(II)I" } : MethodName)) ∈ bigW := bw4 135 rfl rfl
set_option maxRecDepth 20000 in
theorem wd_856 : (Cond.selects "HeadDots" ({ cls := "HeadDots", name := "ifPrinted", desc := "(II)I" } : MethodName) ({ cls := "HeadDots", name := "ifPrinted", desc := "(II)I" } : MethodName)) ∈ bigW := bw4 136 rfl rfl
set_option maxRecDepth 20000 in
theorem wd_857 : (Cond.code ({ cls := "HeadDots", name := "ifPrinted", desc := "(II)I" } : MethodName) prog_1_method_18_code 3 (Option.some ClassFile.FieldType.int)) ∈ bigW := bw4 137 rfl rfl
set_option maxRecDepth 20000 in
theorem wd_859 : (Cond.methodLink "HeadDotsLaw" 135 ({ cls := "HeadDotsLaw", name := "betterWay", desc := "(LHeadDots;I[J)I" } : MethodName)) ∈ bigW := bw4 139 rfl rfl
set_option maxRecDepth 20000 in
theorem wd_860 : (Cond.static ({ cls := "HeadDotsLaw", name := "betterWay", desc := "(LHeadDots;I[J)I" } : MethodName)) ∈ bigW := bw4 140 rfl rfl
set_option maxRecDepth 20000 in
theorem wd_862 : (Cond.methodLink "HeadDotsLaw" 60 ({ cls := "HeadDots", name := "betterWay", desc := "(I)I" } : MethodName)) ∈ bigW := bw4 142 rfl rfl
set_option maxRecDepth 20000 in
theorem wd_863 : (Cond.instanceMethod ({ cls := "HeadDots", name := "betterWay", desc := "(I)I" } : MethodName)) ∈ bigW := bw4 143 rfl rfl
set_option maxRecDepth 20000 in
theorem wd_864 : (Cond.selects "HeadDots" ({ cls := "HeadDots", name := "betterWay", desc := "(I)I" } : MethodName) ({ cls := "HeadDots", name := "betterWay", desc := "(I)I" } : MethodName)) ∈ bigW := bw4 144 rfl rfl
set_option maxRecDepth 20000 in
theorem wd_865 : (Cond.code ({ cls := "HeadDots", name := "betterWay", desc := "(I)I" } : MethodName) prog_1_method_19_code 2 (Option.some ClassFile.FieldType.int)) ∈ bigW := bw4 145 rfl rfl
set_option maxRecDepth 20000 in
theorem wd_866 : (Cond.methodLink "HeadDotsLaw" 138 ({ cls := "HeadDotsLaw", name := "coolIn", desc := "(LHeadDots;I[J)I" } : MethodName)) ∈ bigW := bw4 146 rfl rfl
set_option maxRecDepth 20000 in
theorem wd_867 : (Cond.static ({ cls := "HeadDotsLaw", name := "coolIn", desc := "(LHeadDots;I[J)I" } : MethodName)) ∈ bigW := bw4 147 rfl rfl
set_option maxRecDepth 20000 in
theorem wd_869 : (Cond.methodLink "HeadDotsLaw" 63 ({ cls := "HeadDots", name := "coolIn", desc := "(I)I" } : MethodName)) ∈ bigW := bw4 149 rfl rfl
set_option maxRecDepth 20000 in
theorem wd_870 : (Cond.instanceMethod ({ cls := "HeadDots", name := "coolIn", desc := "(I)I" } : MethodName)) ∈ bigW := bw4 150 rfl rfl
set_option maxRecDepth 20000 in
theorem wd_871 : (Cond.selects "HeadDots" ({ cls := "HeadDots", name := "coolIn", desc := "(I)I" } : MethodName) ({ cls := "HeadDots", name := "coolIn", desc := "(I)I" } : MethodName)) ∈ bigW := bw4 151 rfl rfl
set_option maxRecDepth 20000 in
theorem wd_872 : (Cond.code ({ cls := "HeadDots", name := "coolIn", desc := "(I)I" } : MethodName) prog_1_method_20_code 2 (Option.some ClassFile.FieldType.int)) ∈ bigW := bw4 152 rfl rfl
set_option maxRecDepth 20000 in
theorem wd_874 : (Cond.methodLink "HeadDotsLaw" 141 ({ cls := "HeadDotsLaw", name := "darkFrom", desc := "(LHeadDots;I[J)I" } : MethodName)) ∈ bigW := bw4 154 rfl rfl
set_option maxRecDepth 20000 in
theorem wd_875 : (Cond.static ({ cls := "HeadDotsLaw", name := "darkFrom", desc := "(LHeadDots;I[J)I" } : MethodName)) ∈ bigW := bw4 155 rfl rfl
set_option maxRecDepth 20000 in
theorem wd_877 : (Cond.methodLink "HeadDotsLaw" 66 ({ cls := "HeadDots", name := "darkFrom", desc := "(I)I" } : MethodName)) ∈ bigW := bw4 157 rfl rfl
set_option maxRecDepth 20000 in
theorem wd_878 : (Cond.instanceMethod ({ cls := "HeadDots", name := "darkFrom", desc := "(I)I" } : MethodName)) ∈ bigW := bw4 158 rfl rfl
set_option maxRecDepth 20000 in
theorem wd_879 : (Cond.selects "HeadDots" ({ cls := "HeadDots", name := "darkFrom", desc := "(I)I" } : MethodName) ({ cls := "HeadDots", name := "darkFrom", desc := "(I)I" } : MethodName)) ∈ bigW := bw4 159 rfl rfl
set_option maxRecDepth 20000 in
theorem wd_880 : (Cond.code ({ cls := "HeadDots", name := "darkFrom", desc := "(I)I" } : MethodName) prog_1_method_21_code 2 (Option.some ClassFile.FieldType.int)) ∈ bigW := bw4 160 rfl rfl
set_option maxRecDepth 20000 in
theorem wd_881 : (Cond.classLink "HeadDotsLaw" 70 "HeadDotsModel") ∈ bigW := bw4 161 rfl rfl
set_option maxRecDepth 20000 in
theorem wd_882 : (Cond.instantiable "HeadDotsModel" 18) ∈ bigW := bw4 162 rfl rfl
set_option maxRecDepth 20000 in
theorem wd_883 : (Cond.methodLink "HeadDotsLaw" 72 ({ cls := "HeadDotsModel", name := "<init>", desc := "()V" } : MethodName)) ∈ bigW := bw4 163 rfl rfl
set_option maxRecDepth 20000 in
theorem wd_884 : (Cond.instanceMethod ({ cls := "HeadDotsModel", name := "<init>", desc := "()V" } : MethodName)) ∈ bigW := bw4 164 rfl rfl
set_option maxRecDepth 20000 in
theorem wd_885 : (Cond.code ({ cls := "HeadDotsModel", name := "<init>", desc := "()V" } : MethodName) prog_8_method_1_code 1 (Option.none : Option ClassFile.FieldType)) ∈ bigW := bw4 165 rfl rfl
set_option maxRecDepth 20000 in
theorem wd_886 : (Cond.methodLink "HeadDotsModel" 1 ({ cls := "java/lang/Object", name := "<init>", desc := "()V" } : MethodName)) ∈ bigW := bw4 166 rfl rfl
set_option maxRecDepth 20000 in
theorem wd_887 : (Cond.fieldLink "HeadDotsModel" 7 "HeadDotsModel" "row" "[I") ∈ bigW := bw4 167 rfl rfl
set_option maxRecDepth 20000 in
theorem wd_888 : (Cond.fieldLink "HeadDotsModel" 13 "HeadDotsModel" "saved" "[I") ∈ bigW := bw4 168 rfl rfl
set_option maxRecDepth 20000 in
theorem wd_889 : (Cond.fieldLink "HeadDotsModel" 43 "HeadDotsModel" "savedMany" "I") ∈ bigW := bw4 169 rfl rfl
set_option maxRecDepth 20000 in
theorem wd_890 : (Cond.fieldLink "HeadDotsModel" 16 "HeadDotsModel" "snapshot" "[I") ∈ bigW := bw4 170 rfl rfl
set_option maxRecDepth 20000 in
theorem wd_891 : (Cond.fieldLink "HeadDotsModel" 50 "HeadDotsModel" "isKept" "Z") ∈ bigW := bw4 171 rfl rfl
set_option maxRecDepth 20000 in
theorem wd_892 : (Cond.fieldLink "HeadDotsModel" 19 "HeadDotsModel" "aside" "[I") ∈ bigW := bw4 172 rfl rfl
set_option maxRecDepth 20000 in
theorem wd_893 : (Cond.fieldLink "HeadDotsModel" 34 "HeadDotsModel" "thrown" "I") ∈ bigW := bw4 173 rfl rfl
set_option maxRecDepth 20000 in
theorem wd_894 : (Cond.fieldLink "HeadDotsModel" 90 "HeadDotsModel" "waits" "I") ∈ bigW := bw4 174 rfl rfl
set_option maxRecDepth 20000 in
theorem wd_895 : (Cond.fieldLink "HeadDotsModel" 87 "HeadDotsModel" "dark" "I") ∈ bigW := bw4 175 rfl rfl
set_option maxRecDepth 20000 in
theorem wd_896 : (Cond.fieldLink "HeadDotsModel" 81 "HeadDotsModel" "hottest" "I") ∈ bigW := bw4 176 rfl rfl
set_option maxRecDepth 20000 in
theorem wd_897 : (Cond.fieldLink "HeadDotsModel" 22 "HeadDotsModel" "buffer" "[I") ∈ bigW := bw4 177 rfl rfl
set_option maxRecDepth 20000 in
theorem wd_898 : (Cond.fieldLink "HeadDotsModel" 133 "HeadDotsModel" "length" "I") ∈ bigW := bw4 178 rfl rfl
set_option maxRecDepth 20000 in
theorem wd_899 : (Cond.fieldLink "HeadDotsModel" 136 "HeadDotsModel" "spot" "I") ∈ bigW := bw4 179 rfl rfl
set_option maxRecDepth 20000 in
theorem wd_900 : (Cond.fieldLink "HeadDotsModel" 145 "HeadDotsModel" "parts" "I") ∈ bigW := bw4 180 rfl rfl
set_option maxRecDepth 20000 in
theorem wd_901 : (Cond.fieldLink "HeadDotsModel" 25 "HeadDotsModel" "kind" "[I") ∈ bigW := bw4 181 rfl rfl
set_option maxRecDepth 20000 in
theorem wd_902 : (Cond.fieldLink "HeadDotsModel" 28 "HeadDotsModel" "what" "[I") ∈ bigW := bw4 182 rfl rfl
set_option maxRecDepth 20000 in
theorem wd_903 : (Cond.fieldLink "HeadDotsModel" 31 "HeadDotsModel" "times" "[I") ∈ bigW := bw4 183 rfl rfl
set_option maxRecDepth 20000 in
theorem wd_904 : (Cond.fieldLink "HeadDotsModel" 218 "HeadDotsModel" "hash" "J") ∈ bigW := bw4 184 rfl rfl
set_option maxRecDepth 20000 in
theorem wd_905 : (Cond.laysFinal "HeadDotsModel" "HeadDotsModel" "row" "[I") ∈ bigW := bw4 185 rfl rfl
set_option maxRecDepth 20000 in
theorem wd_907 : (Cond.laysFinal "HeadDotsModel" "HeadDotsModel" "saved" "[I") ∈ bigW := bw4 187 rfl rfl
set_option maxRecDepth 20000 in
theorem wd_909 : (Cond.lays "HeadDotsModel" "HeadDotsModel" "savedMany" "I") ∈ bigW := bw4 189 rfl rfl
set_option maxRecDepth 20000 in
theorem wd_911 : (Cond.laysFinal "HeadDotsModel" "HeadDotsModel" "snapshot" "[I") ∈ bigW := bw4 191 rfl rfl
set_option maxRecDepth 20000 in
theorem wd_913 : (Cond.lays "HeadDotsModel" "HeadDotsModel" "isKept" "Z") ∈ bigW := bw4 193 rfl rfl
set_option maxRecDepth 20000 in
theorem wd_915 : (Cond.laysFinal "HeadDotsModel" "HeadDotsModel" "aside" "[I") ∈ bigW := bw4 195 rfl rfl
set_option maxRecDepth 20000 in
theorem wd_917 : (Cond.lays "HeadDotsModel" "HeadDotsModel" "thrown" "I") ∈ bigW := bw4 197 rfl rfl
set_option maxRecDepth 20000 in
theorem wd_919 : (Cond.lays "HeadDotsModel" "HeadDotsModel" "waits" "I") ∈ bigW := bw4 199 rfl rfl
set_option maxRecDepth 20000 in
theorem wd_921 : (Cond.lays "HeadDotsModel" "HeadDotsModel" "dark" "I") ∈ bigW := bw4 201 rfl rfl
set_option maxRecDepth 20000 in
theorem wd_923 : (Cond.lays "HeadDotsModel" "HeadDotsModel" "hottest" "I") ∈ bigW := bw4 203 rfl rfl
set_option maxRecDepth 20000 in
theorem wd_925 : (Cond.laysFinal "HeadDotsModel" "HeadDotsModel" "buffer" "[I") ∈ bigW := bw4 205 rfl rfl
set_option maxRecDepth 20000 in
theorem wd_927 : (Cond.lays "HeadDotsModel" "HeadDotsModel" "length" "I") ∈ bigW := bw4 207 rfl rfl
set_option maxRecDepth 20000 in
theorem wd_929 : (Cond.lays "HeadDotsModel" "HeadDotsModel" "spot" "I") ∈ bigW := bw4 209 rfl rfl
set_option maxRecDepth 20000 in
theorem wd_931 : (Cond.lays "HeadDotsModel" "HeadDotsModel" "parts" "I") ∈ bigW := bw4 211 rfl rfl
set_option maxRecDepth 20000 in
theorem wd_933 : (Cond.laysFinal "HeadDotsModel" "HeadDotsModel" "kind" "[I") ∈ bigW := bw4 213 rfl rfl
set_option maxRecDepth 20000 in
theorem wd_935 : (Cond.laysFinal "HeadDotsModel" "HeadDotsModel" "what" "[I") ∈ bigW := bw4 215 rfl rfl
set_option maxRecDepth 20000 in
theorem wd_937 : (Cond.laysFinal "HeadDotsModel" "HeadDotsModel" "times" "[I") ∈ bigW := bw4 217 rfl rfl
set_option maxRecDepth 20000 in
theorem wd_939 : (Cond.lays "HeadDotsModel" "HeadDotsModel" "hash" "J") ∈ bigW := bw4 219 rfl rfl
set_option maxRecDepth 20000 in
theorem wd_942 : (Cond.methodLink "HeadDotsLaw" 79 ({ cls := "HeadDotsModel", name := "thrown", desc := "()I" } : MethodName)) ∈ bigW := bw4 222 rfl rfl
set_option maxRecDepth 20000 in
theorem wd_943 : (Cond.instanceMethod ({ cls := "HeadDotsModel", name := "thrown", desc := "()I" } : MethodName)) ∈ bigW := bw4 223 rfl rfl
set_option maxRecDepth 20000 in
theorem wd_944 : (Cond.selects "HeadDotsModel" ({ cls := "HeadDotsModel", name := "thrown", desc := "()I" } : MethodName) ({ cls := "HeadDotsModel", name := "thrown", desc := "()I" } : MethodName)) ∈ bigW := bw4 224 rfl rfl
set_option maxRecDepth 20000 in
theorem wd_945 : (Cond.code ({ cls := "HeadDotsModel", name := "thrown", desc := "()I" } : MethodName) prog_8_method_2_code 1 (Option.some ClassFile.FieldType.int)) ∈ bigW := bw4 225 rfl rfl
set_option maxRecDepth 20000 in
theorem wd_946 : (Cond.methodLink "HeadDotsLaw" 115 ({ cls := "HeadDotsModel", name := "undo", desc := "()I" } : MethodName)) ∈ bigW := bw4 226 rfl rfl
set_option maxRecDepth 20000 in
theorem wd_947 : (Cond.instanceMethod ({ cls := "HeadDotsModel", name := "undo", desc := "()I" } : MethodName)) ∈ bigW := bw4 227 rfl rfl
set_option maxRecDepth 20000 in
theorem wd_948 : (Cond.selects "HeadDotsModel" ({ cls := "HeadDotsModel", name := "undo", desc := "()I" } : MethodName) ({ cls := "HeadDotsModel", name := "undo", desc := "()I" } : MethodName)) ∈ bigW := bw4 228 rfl rfl
set_option maxRecDepth 20000 in
theorem wd_949 : (Cond.code ({ cls := "HeadDotsModel", name := "undo", desc := "()I" } : MethodName) prog_8_method_9_code 2 (Option.some ClassFile.FieldType.int)) ∈ bigW := bw4 229 rfl rfl
set_option maxRecDepth 20000 in
theorem wd_950 : (Cond.methodLink "HeadDotsModel" 46 ({ cls := "HeadDotsModel", name := "fails", desc := "(I)I" } : MethodName)) ∈ bigW := bw4 230 rfl rfl
set_option maxRecDepth 20000 in
theorem wd_952 : (Cond.instanceMethod ({ cls := "HeadDotsModel", name := "fails", desc := "(I)I" } : MethodName)) ∈ bigW := bw4 232 rfl rfl
set_option maxRecDepth 20000 in
theorem wd_953 : (Cond.code ({ cls := "HeadDotsModel", name := "fails", desc := "(I)I" } : MethodName) prog_8_method_3_code 2 (Option.some ClassFile.FieldType.int)) ∈ bigW := bw4 233 rfl rfl
set_option maxRecDepth 20000 in
theorem wd_954 : (Cond.methodLink "HeadDotsLaw" 119 ({ cls := "HeadDotsModel", name := "keep", desc := "()I" } : MethodName)) ∈ bigW := bw4 234 rfl rfl
set_option maxRecDepth 20000 in
theorem wd_955 : (Cond.instanceMethod ({ cls := "HeadDotsModel", name := "keep", desc := "()I" } : MethodName)) ∈ bigW := bw4 235 rfl rfl
set_option maxRecDepth 20000 in
theorem wd_956 : (Cond.selects "HeadDotsModel" ({ cls := "HeadDotsModel", name := "keep", desc := "()I" } : MethodName) ({ cls := "HeadDotsModel", name := "keep", desc := "()I" } : MethodName)) ∈ bigW := bw4 236 rfl rfl
set_option maxRecDepth 20000 in
theorem wd_957 : (Cond.code ({ cls := "HeadDotsModel", name := "keep", desc := "()I" } : MethodName) prog_8_method_10_code 2 (Option.some ClassFile.FieldType.int)) ∈ bigW := bw4 237 rfl rfl
set_option maxRecDepth 20000 in
theorem wd_958 : (Cond.methodLink "HeadDotsLaw" 122 ({ cls := "HeadDotsModel", name := "restore", desc := "()I" } : MethodName)) ∈ bigW := bw4 238 rfl rfl
set_option maxRecDepth 20000 in
theorem wd_959 : (Cond.instanceMethod ({ cls := "HeadDotsModel", name := "restore", desc := "()I" } : MethodName)) ∈ bigW := bw4 239 rfl rfl
set_option maxRecDepth 20000 in
theorem wd_960 : (Cond.selects "HeadDotsModel" ({ cls := "HeadDotsModel", name := "restore", desc := "()I" } : MethodName) ({ cls := "HeadDotsModel", name := "restore", desc := "()I" } : MethodName)) ∈ bigW := bw5 0 rfl rfl
set_option maxRecDepth 20000 in
theorem wd_961 : (Cond.code ({ cls := "HeadDotsModel", name := "restore", desc := "()I" } : MethodName) prog_8_method_11_code 2 (Option.some ClassFile.FieldType.int)) ∈ bigW := bw5 1 rfl rfl
set_option maxRecDepth 20000 in
theorem wd_962 : (Cond.methodLink "HeadDotsModel" 54 ({ cls := "HeadDotsModel", name := "save", desc := "()V" } : MethodName)) ∈ bigW := bw5 2 rfl rfl
set_option maxRecDepth 20000 in
theorem wd_964 : (Cond.instanceMethod ({ cls := "HeadDotsModel", name := "save", desc := "()V" } : MethodName)) ∈ bigW := bw5 4 rfl rfl
set_option maxRecDepth 20000 in
theorem wd_965 : (Cond.code ({ cls := "HeadDotsModel", name := "save", desc := "()V" } : MethodName) prog_8_method_6_code 2 (Option.none : Option ClassFile.FieldType)) ∈ bigW := bw5 5 rfl rfl
set_option maxRecDepth 20000 in
theorem wd_966 : (Cond.methodLink "HeadDotsLaw" 78 ({ cls := "HeadDotsModel", name := "line", desc := "(I)I" } : MethodName)) ∈ bigW := bw5 6 rfl rfl
set_option maxRecDepth 20000 in
theorem wd_967 : (Cond.instanceMethod ({ cls := "HeadDotsModel", name := "line", desc := "(I)I" } : MethodName)) ∈ bigW := bw5 7 rfl rfl
set_option maxRecDepth 20000 in
theorem wd_968 : (Cond.selects "HeadDotsModel" ({ cls := "HeadDotsModel", name := "line", desc := "(I)I" } : MethodName) ({ cls := "HeadDotsModel", name := "line", desc := "(I)I" } : MethodName)) ∈ bigW := bw5 8 rfl rfl
set_option maxRecDepth 20000 in
theorem wd_969 : (Cond.code ({ cls := "HeadDotsModel", name := "line", desc := "(I)I" } : MethodName) prog_8_method_28_code 2 (Option.some ClassFile.FieldType.int)) ∈ bigW := bw5 9 rfl rfl
set_option maxRecDepth 20000 in
theorem wd_970 : (Cond.methodLink "HeadDotsModel" 111 ({ cls := "HeadDotsModel", name := "isLine", desc := "(I)Z" } : MethodName)) ∈ bigW := bw5 10 rfl rfl
set_option maxRecDepth 20000 in
theorem wd_971 : (Cond.static ({ cls := "HeadDotsModel", name := "isLine", desc := "(I)Z" } : MethodName)) ∈ bigW := bw5 11 rfl rfl
set_option maxRecDepth 20000 in
theorem wd_972 : (Cond.code ({ cls := "HeadDotsModel", name := "isLine", desc := "(I)Z" } : MethodName) prog_8_method_5_code 1 (Option.some ClassFile.FieldType.boolean)) ∈ bigW := bw5 12 rfl rfl
set_option maxRecDepth 20000 in
theorem wd_973 : (Cond.constant "HeadDotsModel" 38 (16777215 : Int32)) ∈ bigW := bw5 13 rfl rfl
set_option maxRecDepth 20000 in
theorem wd_974 : (Cond.methodLink "HeadDotsModel" 39 ({ cls := "HeadDotsModel", name := "in", desc := "(III)Z" } : MethodName)) ∈ bigW := bw5 14 rfl rfl
set_option maxRecDepth 20000 in
theorem wd_975 : (Cond.static ({ cls := "HeadDotsModel", name := "in", desc := "(III)Z" } : MethodName)) ∈ bigW := bw5 15 rfl rfl
set_option maxRecDepth 20000 in
theorem wd_976 : (Cond.code ({ cls := "HeadDotsModel", name := "in", desc := "(III)Z" } : MethodName) prog_8_method_4_code 3 (Option.some ClassFile.FieldType.boolean)) ∈ bigW := bw5 16 rfl rfl
set_option maxRecDepth 20000 in
theorem wd_977 : (Cond.methodLink "HeadDotsModel" 115 ({ cls := "HeadDotsModel", name := "printLine", desc := "(I)I" } : MethodName)) ∈ bigW := bw5 17 rfl rfl
set_option maxRecDepth 20000 in
theorem wd_979 : (Cond.instanceMethod ({ cls := "HeadDotsModel", name := "printLine", desc := "(I)I" } : MethodName)) ∈ bigW := bw5 19 rfl rfl
set_option maxRecDepth 20000 in
theorem wd_980 : (Cond.code ({ cls := "HeadDotsModel", name := "printLine", desc := "(I)I" } : MethodName) prog_8_method_25_code 6 (Option.some ClassFile.FieldType.int)) ∈ bigW := bw5 20 rfl rfl
set_option maxRecDepth 20000 in
theorem wd_981 : (Cond.methodLink "HeadDotsModel" 75 ({ cls := "HeadDotsModel", name := "partsOf", desc := "(I)I" } : MethodName)) ∈ bigW := bw5 21 rfl rfl
set_option maxRecDepth 20000 in
theorem wd_983 : (Cond.instanceMethod ({ cls := "HeadDotsModel", name := "partsOf", desc := "(I)I" } : MethodName)) ∈ bigW := bw5 23 rfl rfl
set_option maxRecDepth 20000 in
theorem wd_984 : (Cond.code ({ cls := "HeadDotsModel", name := "partsOf", desc := "(I)I" } : MethodName) prog_8_method_20_code 2 (Option.some ClassFile.FieldType.int)) ∈ bigW := bw5 24 rfl rfl
set_option maxRecDepth 20000 in
theorem wd_985 : (Cond.methodLink "HeadDotsModel" 68 ({ cls := "HeadDotsModel", name := "ones", desc := "(I)I" } : MethodName)) ∈ bigW := bw5 25 rfl rfl
set_option maxRecDepth 20000 in
theorem wd_986 : (Cond.static ({ cls := "HeadDotsModel", name := "ones", desc := "(I)I" } : MethodName)) ∈ bigW := bw5 26 rfl rfl
set_option maxRecDepth 20000 in
theorem wd_987 : (Cond.code ({ cls := "HeadDotsModel", name := "ones", desc := "(I)I" } : MethodName) prog_8_method_18_code 3 (Option.some ClassFile.FieldType.int)) ∈ bigW := bw5 27 rfl rfl
set_option maxRecDepth 20000 in
theorem wd_988 : (Cond.methodLink "HeadDotsModel" 71 ({ cls := "HeadDotsModel", name := "atOnce", desc := "()I" } : MethodName)) ∈ bigW := bw5 28 rfl rfl
set_option maxRecDepth 20000 in
theorem wd_990 : (Cond.instanceMethod ({ cls := "HeadDotsModel", name := "atOnce", desc := "()I" } : MethodName)) ∈ bigW := bw5 30 rfl rfl
set_option maxRecDepth 20000 in
theorem wd_991 : (Cond.code ({ cls := "HeadDotsModel", name := "atOnce", desc := "()I" } : MethodName) prog_8_method_19_code 2 (Option.some ClassFile.FieldType.int)) ∈ bigW := bw5 31 rfl rfl
set_option maxRecDepth 20000 in
theorem wd_992 : (Cond.methodLink "HeadDotsModel" 93 ({ cls := "HeadDotsModel", name := "dotsOfPart", desc := "(II)I" } : MethodName)) ∈ bigW := bw5 32 rfl rfl
set_option maxRecDepth 20000 in
theorem wd_994 : (Cond.instanceMethod ({ cls := "HeadDotsModel", name := "dotsOfPart", desc := "(II)I" } : MethodName)) ∈ bigW := bw5 34 rfl rfl
set_option maxRecDepth 20000 in
theorem wd_995 : (Cond.code ({ cls := "HeadDotsModel", name := "dotsOfPart", desc := "(II)I" } : MethodName) prog_8_method_21_code 8 (Option.some ClassFile.FieldType.int)) ∈ bigW := bw5 35 rfl rfl
set_option maxRecDepth 20000 in
theorem wd_996 : (Cond.methodLink "HeadDotsModel" 60 ({ cls := "HeadDotsModel", name := "bit", desc := "(II)I" } : MethodName)) ∈ bigW := bw5 36 rfl rfl
set_option maxRecDepth 20000 in
theorem wd_997 : (Cond.static ({ cls := "HeadDotsModel", name := "bit", desc := "(II)I" } : MethodName)) ∈ bigW := bw5 37 rfl rfl
set_option maxRecDepth 20000 in
theorem wd_998 : (Cond.code ({ cls := "HeadDotsModel", name := "bit", desc := "(II)I" } : MethodName) prog_8_method_14_code 2 (Option.some ClassFile.FieldType.int)) ∈ bigW := bw5 38 rfl rfl
set_option maxRecDepth 20000 in
theorem wd_999 : (Cond.methodLink "HeadDotsModel" 96 ({ cls := "HeadDotsModel", name := "isCool", desc := "(II)Z" } : MethodName)) ∈ bigW := bw5 39 rfl rfl
set_option maxRecDepth 20000 in
theorem wd_1001 : (Cond.instanceMethod ({ cls := "HeadDotsModel", name := "isCool", desc := "(II)Z" } : MethodName)) ∈ bigW := bw5 41 rfl rfl
set_option maxRecDepth 20000 in
theorem wd_1002 : (Cond.code ({ cls := "HeadDotsModel", name := "isCool", desc := "(II)Z" } : MethodName) prog_8_method_22_code 5 (Option.some ClassFile.FieldType.boolean)) ∈ bigW := bw5 42 rfl rfl
set_option maxRecDepth 20000 in
theorem wd_1003 : (Cond.methodLink "HeadDotsModel" 78 ({ cls := "HeadDotsModel", name := "pulse", desc := "(II)I" } : MethodName)) ∈ bigW := bw5 43 rfl rfl
set_option maxRecDepth 20000 in
theorem wd_1005 : (Cond.instanceMethod ({ cls := "HeadDotsModel", name := "pulse", desc := "(II)I" } : MethodName)) ∈ bigW := bw5 45 rfl rfl
set_option maxRecDepth 20000 in
theorem wd_1006 : (Cond.code ({ cls := "HeadDotsModel", name := "pulse", desc := "(II)I" } : MethodName) prog_8_method_16_code 3 (Option.some ClassFile.FieldType.int)) ∈ bigW := bw5 46 rfl rfl
set_option maxRecDepth 20000 in
theorem wd_1007 : (Cond.methodLink "HeadDotsModel" 64 ({ cls := "HeadDotsModel", name := "pulseBy", desc := "(III)I" } : MethodName)) ∈ bigW := bw5 47 rfl rfl
set_option maxRecDepth 20000 in
theorem wd_1009 : (Cond.instanceMethod ({ cls := "HeadDotsModel", name := "pulseBy", desc := "(III)I" } : MethodName)) ∈ bigW := bw5 49 rfl rfl
set_option maxRecDepth 20000 in
theorem wd_1010 : (Cond.code ({ cls := "HeadDotsModel", name := "pulseBy", desc := "(III)I" } : MethodName) prog_8_method_15_code 6 (Option.some ClassFile.FieldType.int)) ∈ bigW := bw5 50 rfl rfl
set_option maxRecDepth 20000 in
theorem wd_1011 : (Cond.methodLink "HeadDotsModel" 100 ({ cls := "HeadDotsModel", name := "pass", desc := "(I)V" } : MethodName)) ∈ bigW := bw5 51 rfl rfl
set_option maxRecDepth 20000 in
theorem wd_1013 : (Cond.instanceMethod ({ cls := "HeadDotsModel", name := "pass", desc := "(I)V" } : MethodName)) ∈ bigW := bw5 53 rfl rfl
set_option maxRecDepth 20000 in
theorem wd_1014 : (Cond.code ({ cls := "HeadDotsModel", name := "pass", desc := "(I)V" } : MethodName) prog_8_method_13_code 4 (Option.none : Option ClassFile.FieldType)) ∈ bigW := bw5 54 rfl rfl
set_option maxRecDepth 20000 in
theorem wd_1015 : (Cond.methodLink "HeadDotsModel" 57 ({ cls := "HeadDotsModel", name := "cooled", desc := "(I)I" } : MethodName)) ∈ bigW := bw5 55 rfl rfl
set_option maxRecDepth 20000 in
theorem wd_1017 : (Cond.instanceMethod ({ cls := "HeadDotsModel", name := "cooled", desc := "(I)I" } : MethodName)) ∈ bigW := bw5 57 rfl rfl
set_option maxRecDepth 20000 in
theorem wd_1018 : (Cond.code ({ cls := "HeadDotsModel", name := "cooled", desc := "(I)I" } : MethodName) prog_8_method_12_code 3 (Option.some ClassFile.FieldType.int)) ∈ bigW := bw5 58 rfl rfl
set_option maxRecDepth 20000 in
theorem wd_1019 : (Cond.methodLink "HeadDotsModel" 104 ({ cls := "HeadDotsModel", name := "printPart", desc := "(II)I" } : MethodName)) ∈ bigW := bw5 59 rfl rfl
set_option maxRecDepth 20000 in
theorem wd_1021 : (Cond.instanceMethod ({ cls := "HeadDotsModel", name := "printPart", desc := "(II)I" } : MethodName)) ∈ bigW := bw5 61 rfl rfl
set_option maxRecDepth 20000 in
theorem wd_1022 : (Cond.code ({ cls := "HeadDotsModel", name := "printPart", desc := "(II)I" } : MethodName) prog_8_method_23_code 7 (Option.some ClassFile.FieldType.int)) ∈ bigW := bw5 62 rfl rfl
set_option maxRecDepth 20000 in
theorem wd_1023 : (Cond.methodLink "HeadDotsModel" 84 ({ cls := "HeadDotsModel", name := "darkHeat", desc := "()I" } : MethodName)) ∈ bigW := bw5 63 rfl rfl
set_option maxRecDepth 20000 in
theorem wd_1025 : (Cond.instanceMethod ({ cls := "HeadDotsModel", name := "darkHeat", desc := "()I" } : MethodName)) ∈ bigW := bw5 65 rfl rfl
set_option maxRecDepth 20000 in
theorem wd_1026 : (Cond.code ({ cls := "HeadDotsModel", name := "darkHeat", desc := "()I" } : MethodName) prog_8_method_17_code 1 (Option.some ClassFile.FieldType.int)) ∈ bigW := bw5 66 rfl rfl
set_option maxRecDepth 20000 in
theorem wd_1027 : (Cond.methodLink "HeadDotsModel" 107 ({ cls := "HeadDotsModel", name := "keepLine", desc := "(II)V" } : MethodName)) ∈ bigW := bw5 67 rfl rfl
set_option maxRecDepth 20000 in
theorem wd_1029 : (Cond.instanceMethod ({ cls := "HeadDotsModel", name := "keepLine", desc := "(II)V" } : MethodName)) ∈ bigW := bw5 69 rfl rfl
set_option maxRecDepth 20000 in
theorem wd_1030 : (Cond.code ({ cls := "HeadDotsModel", name := "keepLine", desc := "(II)V" } : MethodName) prog_8_method_24_code 4 (Option.none : Option ClassFile.FieldType)) ∈ bigW := bw5 70 rfl rfl
set_option maxRecDepth 20000 in
theorem wd_1031 : (Cond.methodLink "HeadDotsLaw" 85 ({ cls := "HeadDotsModel", name := "lines", desc := "(II)I" } : MethodName)) ∈ bigW := bw5 71 rfl rfl
set_option maxRecDepth 20000 in
theorem wd_1032 : (Cond.instanceMethod ({ cls := "HeadDotsModel", name := "lines", desc := "(II)I" } : MethodName)) ∈ bigW := bw5 72 rfl rfl
set_option maxRecDepth 20000 in
theorem wd_1033 : (Cond.selects "HeadDotsModel" ({ cls := "HeadDotsModel", name := "lines", desc := "(II)I" } : MethodName) ({ cls := "HeadDotsModel", name := "lines", desc := "(II)I" } : MethodName)) ∈ bigW := bw5 73 rfl rfl
set_option maxRecDepth 20000 in
theorem wd_1034 : (Cond.code ({ cls := "HeadDotsModel", name := "lines", desc := "(II)I" } : MethodName) prog_8_method_30_code 3 (Option.some ClassFile.FieldType.int)) ∈ bigW := bw5 74 rfl rfl
set_option maxRecDepth 20000 in
theorem wd_1035 : (Cond.methodLink "HeadDotsModel" 121 ({ cls := "HeadDotsModel", name := "printSome", desc := "(II)I" } : MethodName)) ∈ bigW := bw5 75 rfl rfl
set_option maxRecDepth 20000 in
theorem wd_1037 : (Cond.instanceMethod ({ cls := "HeadDotsModel", name := "printSome", desc := "(II)I" } : MethodName)) ∈ bigW := bw5 77 rfl rfl
set_option maxRecDepth 20000 in
theorem wd_1038 : (Cond.code ({ cls := "HeadDotsModel", name := "printSome", desc := "(II)I" } : MethodName) prog_8_method_29_code 6 (Option.some ClassFile.FieldType.int)) ∈ bigW := bw5 78 rfl rfl
set_option maxRecDepth 20000 in
theorem wd_1039 : (Cond.methodLink "HeadDotsModel" 118 ({ cls := "HeadDotsModel", name := "sum", desc := "(I)I" } : MethodName)) ∈ bigW := bw5 79 rfl rfl
set_option maxRecDepth 20000 in
theorem wd_1041 : (Cond.instanceMethod ({ cls := "HeadDotsModel", name := "sum", desc := "(I)I" } : MethodName)) ∈ bigW := bw5 81 rfl rfl
set_option maxRecDepth 20000 in
theorem wd_1042 : (Cond.code ({ cls := "HeadDotsModel", name := "sum", desc := "(I)I" } : MethodName) prog_8_method_26_code 4 (Option.some ClassFile.FieldType.int)) ∈ bigW := bw5 82 rfl rfl
set_option maxRecDepth 20000 in
theorem wd_1043 : (Cond.methodLink "HeadDotsLaw" 88 ({ cls := "HeadDotsModel", name := "rest", desc := "(I)I" } : MethodName)) ∈ bigW := bw5 83 rfl rfl
set_option maxRecDepth 20000 in
theorem wd_1044 : (Cond.instanceMethod ({ cls := "HeadDotsModel", name := "rest", desc := "(I)I" } : MethodName)) ∈ bigW := bw5 84 rfl rfl
set_option maxRecDepth 20000 in
theorem wd_1045 : (Cond.selects "HeadDotsModel" ({ cls := "HeadDotsModel", name := "rest", desc := "(I)I" } : MethodName) ({ cls := "HeadDotsModel", name := "rest", desc := "(I)I" } : MethodName)) ∈ bigW := bw5 85 rfl rfl
set_option maxRecDepth 20000 in
theorem wd_1046 : (Cond.code ({ cls := "HeadDotsModel", name := "rest", desc := "(I)I" } : MethodName) prog_8_method_31_code 2 (Option.some ClassFile.FieldType.int)) ∈ bigW := bw5 86 rfl rfl
set_option maxRecDepth 20000 in
theorem wd_1047 : (Cond.methodLink "HeadDotsModel" 124 ({ cls := "HeadDotsModel", name := "hottestNow", desc := "()I" } : MethodName)) ∈ bigW := bw5 87 rfl rfl
set_option maxRecDepth 20000 in
theorem wd_1049 : (Cond.instanceMethod ({ cls := "HeadDotsModel", name := "hottestNow", desc := "()I" } : MethodName)) ∈ bigW := bw5 89 rfl rfl
set_option maxRecDepth 20000 in
theorem wd_1050 : (Cond.code ({ cls := "HeadDotsModel", name := "hottestNow", desc := "()I" } : MethodName) prog_8_method_27_code 3 (Option.some ClassFile.FieldType.int)) ∈ bigW := bw5 90 rfl rfl
set_option maxRecDepth 20000 in
theorem wd_1051 : (Cond.methodLink "HeadDotsLaw" 91 ({ cls := "HeadDotsModel", name := "paper", desc := "(I)I" } : MethodName)) ∈ bigW := bw5 91 rfl rfl
set_option maxRecDepth 20000 in
theorem wd_1052 : (Cond.instanceMethod ({ cls := "HeadDotsModel", name := "paper", desc := "(I)I" } : MethodName)) ∈ bigW := bw5 92 rfl rfl
set_option maxRecDepth 20000 in
theorem wd_1053 : (Cond.selects "HeadDotsModel" ({ cls := "HeadDotsModel", name := "paper", desc := "(I)I" } : MethodName) ({ cls := "HeadDotsModel", name := "paper", desc := "(I)I" } : MethodName)) ∈ bigW := bw5 93 rfl rfl
set_option maxRecDepth 20000 in
theorem wd_1054 : (Cond.code ({ cls := "HeadDotsModel", name := "paper", desc := "(I)I" } : MethodName) prog_8_method_33_code 2 (Option.some ClassFile.FieldType.int)) ∈ bigW := bw5 94 rfl rfl
set_option maxRecDepth 20000 in
theorem wd_1055 : (Cond.methodLink "HeadDotsModel" 127 ({ cls := "HeadDotsModel", name := "paperNow", desc := "(I)I" } : MethodName)) ∈ bigW := bw5 95 rfl rfl
set_option maxRecDepth 20000 in
theorem wd_1057 : (Cond.instanceMethod ({ cls := "HeadDotsModel", name := "paperNow", desc := "(I)I" } : MethodName)) ∈ bigW := bw5 97 rfl rfl
set_option maxRecDepth 20000 in
theorem wd_1058 : (Cond.code ({ cls := "HeadDotsModel", name := "paperNow", desc := "(I)I" } : MethodName) prog_8_method_32_code 4 (Option.some ClassFile.FieldType.int)) ∈ bigW := bw5 98 rfl rfl
set_option maxRecDepth 20000 in
theorem wd_1059 : (Cond.methodLink "HeadDotsLaw" 94 ({ cls := "HeadDotsModel", name := "set", desc := "(II)I" } : MethodName)) ∈ bigW := bw5 99 rfl rfl
set_option maxRecDepth 20000 in
theorem wd_1060 : (Cond.instanceMethod ({ cls := "HeadDotsModel", name := "set", desc := "(II)I" } : MethodName)) ∈ bigW := bw5 100 rfl rfl
set_option maxRecDepth 20000 in
theorem wd_1061 : (Cond.selects "HeadDotsModel" ({ cls := "HeadDotsModel", name := "set", desc := "(II)I" } : MethodName) ({ cls := "HeadDotsModel", name := "set", desc := "(II)I" } : MethodName)) ∈ bigW := bw5 101 rfl rfl
set_option maxRecDepth 20000 in
theorem wd_1062 : (Cond.code ({ cls := "HeadDotsModel", name := "set", desc := "(II)I" } : MethodName) prog_8_method_35_code 4 (Option.some ClassFile.FieldType.int)) ∈ bigW := bw5 102 rfl rfl
set_option maxRecDepth 20000 in
theorem wd_1063 : (Cond.methodLink "HeadDotsModel" 130 ({ cls := "HeadDotsModel", name := "maySet", desc := "(II)Z" } : MethodName)) ∈ bigW := bw5 103 rfl rfl
set_option maxRecDepth 20000 in
theorem wd_1064 : (Cond.static ({ cls := "HeadDotsModel", name := "maySet", desc := "(II)Z" } : MethodName)) ∈ bigW := bw5 104 rfl rfl
set_option maxRecDepth 20000 in
theorem wd_1065 : (Cond.code ({ cls := "HeadDotsModel", name := "maySet", desc := "(II)Z" } : MethodName) prog_8_method_34_code 2 (Option.some ClassFile.FieldType.boolean)) ∈ bigW := bw5 105 rfl rfl
set_option maxRecDepth 20000 in
theorem wd_1066 : (Cond.methodLink "HeadDotsLaw" 97 ({ cls := "HeadDotsModel", name := "append", desc := "(I)I" } : MethodName)) ∈ bigW := bw5 106 rfl rfl
set_option maxRecDepth 20000 in
theorem wd_1067 : (Cond.instanceMethod ({ cls := "HeadDotsModel", name := "append", desc := "(I)I" } : MethodName)) ∈ bigW := bw5 107 rfl rfl
set_option maxRecDepth 20000 in
theorem wd_1068 : (Cond.selects "HeadDotsModel" ({ cls := "HeadDotsModel", name := "append", desc := "(I)I" } : MethodName) ({ cls := "HeadDotsModel", name := "append", desc := "(I)I" } : MethodName)) ∈ bigW := bw5 108 rfl rfl
set_option maxRecDepth 20000 in
theorem wd_1069 : (Cond.code ({ cls := "HeadDotsModel", name := "append", desc := "(I)I" } : MethodName) prog_8_method_36_code 2 (Option.some ClassFile.FieldType.int)) ∈ bigW := bw5 109 rfl rfl
set_option maxRecDepth 20000 in
theorem wd_1070 : (Cond.methodLink "HeadDotsLaw" 101 ({ cls := "HeadDotsModel", name := "clearBuffer", desc := "()I" } : MethodName)) ∈ bigW := bw5 110 rfl rfl
set_option maxRecDepth 20000 in
theorem wd_1071 : (Cond.instanceMethod ({ cls := "HeadDotsModel", name := "clearBuffer", desc := "()I" } : MethodName)) ∈ bigW := bw5 111 rfl rfl
set_option maxRecDepth 20000 in
theorem wd_1072 : (Cond.selects "HeadDotsModel" ({ cls := "HeadDotsModel", name := "clearBuffer", desc := "()I" } : MethodName) ({ cls := "HeadDotsModel", name := "clearBuffer", desc := "()I" } : MethodName)) ∈ bigW := bw5 112 rfl rfl
set_option maxRecDepth 20000 in
theorem wd_1073 : (Cond.code ({ cls := "HeadDotsModel", name := "clearBuffer", desc := "()I" } : MethodName) prog_8_method_37_code 2 (Option.some ClassFile.FieldType.int)) ∈ bigW := bw5 113 rfl rfl
set_option maxRecDepth 20000 in
theorem wd_1074 : (Cond.methodLink "HeadDotsLaw" 105 ({ cls := "HeadDotsModel", name := "firstError", desc := "()I" } : MethodName)) ∈ bigW := bw5 114 rfl rfl
set_option maxRecDepth 20000 in
theorem wd_1075 : (Cond.instanceMethod ({ cls := "HeadDotsModel", name := "firstError", desc := "()I" } : MethodName)) ∈ bigW := bw5 115 rfl rfl
set_option maxRecDepth 20000 in
theorem wd_1076 : (Cond.selects "HeadDotsModel" ({ cls := "HeadDotsModel", name := "firstError", desc := "()I" } : MethodName) ({ cls := "HeadDotsModel", name := "firstError", desc := "()I" } : MethodName)) ∈ bigW := bw5 116 rfl rfl
set_option maxRecDepth 20000 in
theorem wd_1077 : (Cond.code ({ cls := "HeadDotsModel", name := "firstError", desc := "()I" } : MethodName) prog_8_method_48_code 1 (Option.some ClassFile.FieldType.int)) ∈ bigW := bw5 117 rfl rfl
set_option maxRecDepth 20000 in
theorem wd_1078 : (Cond.methodLink "HeadDotsModel" 171 ({ cls := "HeadDotsModel", name := "arePrints", desc := "()Z" } : MethodName)) ∈ bigW := bw5 118 rfl rfl
set_option maxRecDepth 20000 in
theorem wd_1080 : (Cond.instanceMethod ({ cls := "HeadDotsModel", name := "arePrints", desc := "()Z" } : MethodName)) ∈ bigW := bw5 120 rfl rfl
set_option maxRecDepth 20000 in
theorem wd_1081 : (Cond.code ({ cls := "HeadDotsModel", name := "arePrints", desc := "()Z" } : MethodName) prog_8_method_47_code 2 (Option.some ClassFile.FieldType.boolean)) ∈ bigW := bw5 121 rfl rfl
set_option maxRecDepth 20000 in
theorem wd_1082 : (Cond.methodLink "HeadDotsModel" 168 ({ cls := "HeadDotsModel", name := "readPart", desc := "()Z" } : MethodName)) ∈ bigW := bw5 122 rfl rfl
set_option maxRecDepth 20000 in
theorem wd_1084 : (Cond.instanceMethod ({ cls := "HeadDotsModel", name := "readPart", desc := "()Z" } : MethodName)) ∈ bigW := bw5 124 rfl rfl
set_option maxRecDepth 20000 in
theorem wd_1085 : (Cond.code ({ cls := "HeadDotsModel", name := "readPart", desc := "()Z" } : MethodName) prog_8_method_46_code 1 (Option.some ClassFile.FieldType.boolean)) ∈ bigW := bw5 125 rfl rfl
set_option maxRecDepth 20000 in
theorem wd_1086 : (Cond.methodLink "HeadDotsModel" 142 ({ cls := "HeadDotsModel", name := "takes", desc := "(I)Z" } : MethodName)) ∈ bigW := bw5 126 rfl rfl
set_option maxRecDepth 20000 in
theorem wd_1088 : (Cond.instanceMethod ({ cls := "HeadDotsModel", name := "takes", desc := "(I)Z" } : MethodName)) ∈ bigW := bw5 128 rfl rfl
set_option maxRecDepth 20000 in
theorem wd_1089 : (Cond.code ({ cls := "HeadDotsModel", name := "takes", desc := "(I)Z" } : MethodName) prog_8_method_39_code 3 (Option.some ClassFile.FieldType.boolean)) ∈ bigW := bw5 129 rfl rfl
set_option maxRecDepth 20000 in
theorem wd_1090 : (Cond.methodLink "HeadDotsModel" 139 ({ cls := "HeadDotsModel", name := "sign", desc := "()I" } : MethodName)) ∈ bigW := bw5 130 rfl rfl
set_option maxRecDepth 20000 in
theorem wd_1092 : (Cond.instanceMethod ({ cls := "HeadDotsModel", name := "sign", desc := "()I" } : MethodName)) ∈ bigW := bw5 132 rfl rfl
set_option maxRecDepth 20000 in
theorem wd_1093 : (Cond.code ({ cls := "HeadDotsModel", name := "sign", desc := "()I" } : MethodName) prog_8_method_38_code 1 (Option.some ClassFile.FieldType.int)) ∈ bigW := bw5 133 rfl rfl
set_option maxRecDepth 20000 in
theorem wd_1094 : (Cond.methodLink "HeadDotsModel" 154 ({ cls := "HeadDotsModel", name := "takesFour", desc := "(IIII)Z" } : MethodName)) ∈ bigW := bw5 134 rfl rfl
set_option maxRecDepth 20000 in
theorem wd_1096 : (Cond.instanceMethod ({ cls := "HeadDotsModel", name := "takesFour", desc := "(IIII)Z" } : MethodName)) ∈ bigW := bw5 136 rfl rfl
set_option maxRecDepth 20000 in
theorem wd_1097 : (Cond.code ({ cls := "HeadDotsModel", name := "takesFour", desc := "(IIII)Z" } : MethodName) prog_8_method_40_code 5 (Option.some ClassFile.FieldType.boolean)) ∈ bigW := bw5 137 rfl rfl
set_option maxRecDepth 20000 in
theorem wd_1098 : (Cond.methodLink "HeadDotsModel" 158 ({ cls := "HeadDotsModel", name := "readLine", desc := "()Z" } : MethodName)) ∈ bigW := bw5 138 rfl rfl
set_option maxRecDepth 20000 in
theorem wd_1100 : (Cond.instanceMethod ({ cls := "HeadDotsModel", name := "readLine", desc := "()Z" } : MethodName)) ∈ bigW := bw5 140 rfl rfl
set_option maxRecDepth 20000 in
theorem wd_1101 : (Cond.code ({ cls := "HeadDotsModel", name := "readLine", desc := "()Z" } : MethodName) prog_8_method_43_code 4 (Option.some ClassFile.FieldType.boolean)) ∈ bigW := bw5 141 rfl rfl
set_option maxRecDepth 20000 in
theorem wd_1102 : (Cond.methodLink "HeadDotsModel" 148 ({ cls := "HeadDotsModel", name := "readNumber", desc := "(I)I" } : MethodName)) ∈ bigW := bw5 142 rfl rfl
set_option maxRecDepth 20000 in
theorem wd_1104 : (Cond.instanceMethod ({ cls := "HeadDotsModel", name := "readNumber", desc := "(I)I" } : MethodName)) ∈ bigW := bw5 144 rfl rfl
set_option maxRecDepth 20000 in
theorem wd_1105 : (Cond.code ({ cls := "HeadDotsModel", name := "readNumber", desc := "(I)I" } : MethodName) prog_8_method_42_code 3 (Option.some ClassFile.FieldType.int)) ∈ bigW := bw5 145 rfl rfl
set_option maxRecDepth 20000 in
theorem wd_1106 : (Cond.methodLink "HeadDotsModel" 151 ({ cls := "HeadDotsModel", name := "addPart", desc := "(III)Z" } : MethodName)) ∈ bigW := bw5 146 rfl rfl
set_option maxRecDepth 20000 in
theorem wd_1108 : (Cond.instanceMethod ({ cls := "HeadDotsModel", name := "addPart", desc := "(III)Z" } : MethodName)) ∈ bigW := bw5 148 rfl rfl
set_option maxRecDepth 20000 in
theorem wd_1109 : (Cond.code ({ cls := "HeadDotsModel", name := "addPart", desc := "(III)Z" } : MethodName) prog_8_method_41_code 4 (Option.some ClassFile.FieldType.boolean)) ∈ bigW := bw5 149 rfl rfl
set_option maxRecDepth 20000 in
theorem wd_1110 : (Cond.methodLink "HeadDotsModel" 162 ({ cls := "HeadDotsModel", name := "readPaper", desc := "()Z" } : MethodName)) ∈ bigW := bw5 150 rfl rfl
set_option maxRecDepth 20000 in
theorem wd_1112 : (Cond.instanceMethod ({ cls := "HeadDotsModel", name := "readPaper", desc := "()Z" } : MethodName)) ∈ bigW := bw5 152 rfl rfl
set_option maxRecDepth 20000 in
theorem wd_1113 : (Cond.code ({ cls := "HeadDotsModel", name := "readPaper", desc := "()Z" } : MethodName) prog_8_method_44_code 1 (Option.some ClassFile.FieldType.boolean)) ∈ bigW := bw5 153 rfl rfl
set_option maxRecDepth 20000 in
theorem wd_1114 : (Cond.methodLink "HeadDotsModel" 165 ({ cls := "HeadDotsModel", name := "readRest", desc := "()Z" } : MethodName)) ∈ bigW := bw5 154 rfl rfl
set_option maxRecDepth 20000 in
theorem wd_1116 : (Cond.instanceMethod ({ cls := "HeadDotsModel", name := "readRest", desc := "()Z" } : MethodName)) ∈ bigW := bw5 156 rfl rfl
set_option maxRecDepth 20000 in
theorem wd_1117 : (Cond.code ({ cls := "HeadDotsModel", name := "readRest", desc := "()Z" } : MethodName) prog_8_method_45_code 2 (Option.some ClassFile.FieldType.boolean)) ∈ bigW := bw5 157 rfl rfl
set_option maxRecDepth 20000 in
theorem wd_1118 : (Cond.methodLink "HeadDotsLaw" 109 ({ cls := "HeadDotsModel", name := "print", desc := "()I" } : MethodName)) ∈ bigW := bw5 158 rfl rfl
set_option maxRecDepth 20000 in
theorem wd_1119 : (Cond.instanceMethod ({ cls := "HeadDotsModel", name := "print", desc := "()I" } : MethodName)) ∈ bigW := bw5 159 rfl rfl
set_option maxRecDepth 20000 in
theorem wd_1120 : (Cond.selects "HeadDotsModel" ({ cls := "HeadDotsModel", name := "print", desc := "()I" } : MethodName) ({ cls := "HeadDotsModel", name := "print", desc := "()I" } : MethodName)) ∈ bigW := bw5 160 rfl rfl
set_option maxRecDepth 20000 in
theorem wd_1121 : (Cond.code ({ cls := "HeadDotsModel", name := "print", desc := "()I" } : MethodName) prog_8_method_49_code 4 (Option.some ClassFile.FieldType.int)) ∈ bigW := bw5 161 rfl rfl
set_option maxRecDepth 20000 in
theorem wd_1122 : (Cond.methodLink "HeadDotsLaw" 112 ({ cls := "HeadDotsModel", name := "told", desc := "(II)I" } : MethodName)) ∈ bigW := bw5 162 rfl rfl
set_option maxRecDepth 20000 in
theorem wd_1123 : (Cond.instanceMethod ({ cls := "HeadDotsModel", name := "told", desc := "(II)I" } : MethodName)) ∈ bigW := bw5 163 rfl rfl
set_option maxRecDepth 20000 in
theorem wd_1124 : (Cond.selects "HeadDotsModel" ({ cls := "HeadDotsModel", name := "told", desc := "(II)I" } : MethodName) ({ cls := "HeadDotsModel", name := "told", desc := "(II)I" } : MethodName)) ∈ bigW := bw5 164 rfl rfl
set_option maxRecDepth 20000 in
theorem wd_1125 : (Cond.code ({ cls := "HeadDotsModel", name := "told", desc := "(II)I" } : MethodName) prog_8_method_51_code 3 (Option.some ClassFile.FieldType.int)) ∈ bigW := bw5 165 rfl rfl
set_option maxRecDepth 20000 in
theorem wd_1126 : (Cond.methodLink "HeadDotsModel" 174 ({ cls := "HeadDotsModel", name := "toldAt", desc := "(II)I" } : MethodName)) ∈ bigW := bw5 166 rfl rfl
set_option maxRecDepth 20000 in
theorem wd_1128 : (Cond.instanceMethod ({ cls := "HeadDotsModel", name := "toldAt", desc := "(II)I" } : MethodName)) ∈ bigW := bw5 168 rfl rfl
set_option maxRecDepth 20000 in
theorem wd_1129 : (Cond.code ({ cls := "HeadDotsModel", name := "toldAt", desc := "(II)I" } : MethodName) prog_8_method_50_code 4 (Option.some ClassFile.FieldType.int)) ∈ bigW := bw5 169 rfl rfl
set_option maxRecDepth 20000 in
theorem wd_1130 : (Cond.methodLink "HeadDotsLaw" 125 ({ cls := "HeadDotsModel", name := "dot", desc := "(II)I" } : MethodName)) ∈ bigW := bw5 170 rfl rfl
set_option maxRecDepth 20000 in
theorem wd_1131 : (Cond.instanceMethod ({ cls := "HeadDotsModel", name := "dot", desc := "(II)I" } : MethodName)) ∈ bigW := bw5 171 rfl rfl
set_option maxRecDepth 20000 in
theorem wd_1132 : (Cond.selects "HeadDotsModel" ({ cls := "HeadDotsModel", name := "dot", desc := "(II)I" } : MethodName) ({ cls := "HeadDotsModel", name := "dot", desc := "(II)I" } : MethodName)) ∈ bigW := bw5 172 rfl rfl
set_option maxRecDepth 20000 in
theorem wd_1133 : (Cond.code ({ cls := "HeadDotsModel", name := "dot", desc := "(II)I" } : MethodName) prog_8_method_54_code 3 (Option.some ClassFile.FieldType.int)) ∈ bigW := bw5 173 rfl rfl
set_option maxRecDepth 20000 in
theorem wd_1134 : (Cond.methodLink "HeadDotsModel" 180 ({ cls := "HeadDotsModel", name := "ofDot", desc := "(II)I" } : MethodName)) ∈ bigW := bw5 174 rfl rfl
set_option maxRecDepth 20000 in
theorem wd_1136 : (Cond.instanceMethod ({ cls := "HeadDotsModel", name := "ofDot", desc := "(II)I" } : MethodName)) ∈ bigW := bw5 176 rfl rfl
set_option maxRecDepth 20000 in
theorem wd_1137 : (Cond.code ({ cls := "HeadDotsModel", name := "ofDot", desc := "(II)I" } : MethodName) prog_8_method_53_code 3 (Option.some ClassFile.FieldType.int)) ∈ bigW := bw5 177 rfl rfl
set_option maxRecDepth 20000 in
theorem wd_1138 : (Cond.methodLink "HeadDotsModel" 177 ({ cls := "HeadDotsModel", name := "waitOf", desc := "(I)I" } : MethodName)) ∈ bigW := bw5 178 rfl rfl
set_option maxRecDepth 20000 in
theorem wd_1140 : (Cond.instanceMethod ({ cls := "HeadDotsModel", name := "waitOf", desc := "(I)I" } : MethodName)) ∈ bigW := bw5 180 rfl rfl
set_option maxRecDepth 20000 in
theorem wd_1141 : (Cond.code ({ cls := "HeadDotsModel", name := "waitOf", desc := "(I)I" } : MethodName) prog_8_method_52_code 4 (Option.some ClassFile.FieldType.int)) ∈ bigW := bw5 181 rfl rfl
set_option maxRecDepth 20000 in
theorem wd_1142 : (Cond.methodLink "HeadDotsLaw" 128 ({ cls := "HeadDotsModel", name := "kept", desc := "(II)I" } : MethodName)) ∈ bigW := bw5 182 rfl rfl
set_option maxRecDepth 20000 in
theorem wd_1143 : (Cond.instanceMethod ({ cls := "HeadDotsModel", name := "kept", desc := "(II)I" } : MethodName)) ∈ bigW := bw5 183 rfl rfl
set_option maxRecDepth 20000 in
theorem wd_1144 : (Cond.selects "HeadDotsModel" ({ cls := "HeadDotsModel", name := "kept", desc := "(II)I" } : MethodName) ({ cls := "HeadDotsModel", name := "kept", desc := "(II)I" } : MethodName)) ∈ bigW := bw5 184 rfl rfl
set_option maxRecDepth 20000 in
theorem wd_1145 : (Cond.code ({ cls := "HeadDotsModel", name := "kept", desc := "(II)I" } : MethodName) prog_8_method_55_code 3 (Option.some ClassFile.FieldType.int)) ∈ bigW := bw5 185 rfl rfl
set_option maxRecDepth 20000 in
theorem wd_1146 : (Cond.methodLink "HeadDotsLaw" 131 ({ cls := "HeadDotsModel", name := "count", desc := "(I)I" } : MethodName)) ∈ bigW := bw5 186 rfl rfl
set_option maxRecDepth 20000 in
theorem wd_1147 : (Cond.instanceMethod ({ cls := "HeadDotsModel", name := "count", desc := "(I)I" } : MethodName)) ∈ bigW := bw5 187 rfl rfl
set_option maxRecDepth 20000 in
theorem wd_1148 : (Cond.selects "HeadDotsModel" ({ cls := "HeadDotsModel", name := "count", desc := "(I)I" } : MethodName) ({ cls := "HeadDotsModel", name := "count", desc := "(I)I" } : MethodName)) ∈ bigW := bw5 188 rfl rfl
set_option maxRecDepth 20000 in
theorem wd_1149 : (Cond.code ({ cls := "HeadDotsModel", name := "count", desc := "(I)I" } : MethodName) prog_8_method_57_code 2 (Option.some ClassFile.FieldType.int)) ∈ bigW := bw5 189 rfl rfl
set_option maxRecDepth 20000 in
theorem wd_1150 : (Cond.methodLink "HeadDotsModel" 183 ({ cls := "HeadDotsModel", name := "number", desc := "(I)I" } : MethodName)) ∈ bigW := bw5 190 rfl rfl
set_option maxRecDepth 20000 in
theorem wd_1152 : (Cond.instanceMethod ({ cls := "HeadDotsModel", name := "number", desc := "(I)I" } : MethodName)) ∈ bigW := bw5 192 rfl rfl
set_option maxRecDepth 20000 in
theorem wd_1153 : (Cond.code ({ cls := "HeadDotsModel", name := "number", desc := "(I)I" } : MethodName) prog_8_method_56_code 2 (Option.some ClassFile.FieldType.int)) ∈ bigW := bw5 193 rfl rfl
set_option maxRecDepth 20000 in
theorem wd_1154 : (Cond.methodLink "HeadDotsLaw" 134 ({ cls := "HeadDotsModel", name := "ifPrinted", desc := "(II)I" } : MethodName)) ∈ bigW := bw5 194 rfl rfl
set_option maxRecDepth 20000 in
theorem wd_1155 : (Cond.instanceMethod ({ cls := "HeadDotsModel", name := "ifPrinted", desc := "(II)I" } : MethodName)) ∈ bigW := bw5 195 rfl rfl
set_option maxRecDepth 20000 in
theorem wd_1156 : (Cond.selects "HeadDotsModel" ({ cls := "HeadDotsModel", name := "ifPrinted", desc := "(II)I" } : MethodName) ({ cls := "HeadDotsModel", name := "ifPrinted", desc := "(II)I" } : MethodName)) ∈ bigW := bw5 196 rfl rfl
set_option maxRecDepth 20000 in
theorem wd_1157 : (Cond.code ({ cls := "HeadDotsModel", name := "ifPrinted", desc := "(II)I" } : MethodName) prog_8_method_59_code 3 (Option.some ClassFile.FieldType.int)) ∈ bigW := bw5 197 rfl rfl
set_option maxRecDepth 20000 in
theorem wd_1158 : (Cond.methodLink "HeadDotsModel" 192 ({ cls := "HeadDotsModel", name := "wouldBring", desc := "(II)I" } : MethodName)) ∈ bigW := bw5 198 rfl rfl
set_option maxRecDepth 20000 in
theorem wd_1160 : (Cond.instanceMethod ({ cls := "HeadDotsModel", name := "wouldBring", desc := "(II)I" } : MethodName)) ∈ bigW := bw5 200 rfl rfl
set_option maxRecDepth 20000 in
theorem wd_1161 : (Cond.code ({ cls := "HeadDotsModel", name := "wouldBring", desc := "(II)I" } : MethodName) prog_8_method_58_code 7 (Option.some ClassFile.FieldType.int)) ∈ bigW := bw5 201 rfl rfl
set_option maxRecDepth 20000 in
theorem wd_1162 : (Cond.methodLink "HeadDotsModel" 186 ({ cls := "HeadDotsModel", name := "putAside", desc := "()V" } : MethodName)) ∈ bigW := bw5 202 rfl rfl
set_option maxRecDepth 20000 in
theorem wd_1164 : (Cond.instanceMethod ({ cls := "HeadDotsModel", name := "putAside", desc := "()V" } : MethodName)) ∈ bigW := bw5 204 rfl rfl
set_option maxRecDepth 20000 in
theorem wd_1165 : (Cond.code ({ cls := "HeadDotsModel", name := "putAside", desc := "()V" } : MethodName) prog_8_method_7_code 2 (Option.none : Option ClassFile.FieldType)) ∈ bigW := bw5 205 rfl rfl
set_option maxRecDepth 20000 in
theorem wd_1166 : (Cond.methodLink "HeadDotsModel" 189 ({ cls := "HeadDotsModel", name := "putBack", desc := "()V" } : MethodName)) ∈ bigW := bw5 206 rfl rfl
set_option maxRecDepth 20000 in
theorem wd_1168 : (Cond.instanceMethod ({ cls := "HeadDotsModel", name := "putBack", desc := "()V" } : MethodName)) ∈ bigW := bw5 208 rfl rfl
set_option maxRecDepth 20000 in
theorem wd_1169 : (Cond.code ({ cls := "HeadDotsModel", name := "putBack", desc := "()V" } : MethodName) prog_8_method_8_code 2 (Option.none : Option ClassFile.FieldType)) ∈ bigW := bw5 209 rfl rfl
set_option maxRecDepth 20000 in
theorem wd_1170 : (Cond.methodLink "HeadDotsLaw" 137 ({ cls := "HeadDotsModel", name := "betterWay", desc := "(I)I" } : MethodName)) ∈ bigW := bw5 210 rfl rfl
set_option maxRecDepth 20000 in
theorem wd_1171 : (Cond.instanceMethod ({ cls := "HeadDotsModel", name := "betterWay", desc := "(I)I" } : MethodName)) ∈ bigW := bw5 211 rfl rfl
set_option maxRecDepth 20000 in
theorem wd_1172 : (Cond.selects "HeadDotsModel" ({ cls := "HeadDotsModel", name := "betterWay", desc := "(I)I" } : MethodName) ({ cls := "HeadDotsModel", name := "betterWay", desc := "(I)I" } : MethodName)) ∈ bigW := bw5 212 rfl rfl
set_option maxRecDepth 20000 in
theorem wd_1173 : (Cond.code ({ cls := "HeadDotsModel", name := "betterWay", desc := "(I)I" } : MethodName) prog_8_method_61_code 2 (Option.some ClassFile.FieldType.int)) ∈ bigW := bw5 213 rfl rfl
set_option maxRecDepth 20000 in
theorem wd_1174 : (Cond.methodLink "HeadDotsModel" 195 ({ cls := "HeadDotsModel", name := "better", desc := "(I)I" } : MethodName)) ∈ bigW := bw5 214 rfl rfl
set_option maxRecDepth 20000 in
theorem wd_1176 : (Cond.instanceMethod ({ cls := "HeadDotsModel", name := "better", desc := "(I)I" } : MethodName)) ∈ bigW := bw5 216 rfl rfl
set_option maxRecDepth 20000 in
theorem wd_1177 : (Cond.code ({ cls := "HeadDotsModel", name := "better", desc := "(I)I" } : MethodName) prog_8_method_60_code 5 (Option.some ClassFile.FieldType.int)) ∈ bigW := bw5 217 rfl rfl
set_option maxRecDepth 20000 in
theorem wd_1178 : (Cond.methodLink "HeadDotsLaw" 140 ({ cls := "HeadDotsModel", name := "coolIn", desc := "(I)I" } : MethodName)) ∈ bigW := bw5 218 rfl rfl
set_option maxRecDepth 20000 in
theorem wd_1179 : (Cond.instanceMethod ({ cls := "HeadDotsModel", name := "coolIn", desc := "(I)I" } : MethodName)) ∈ bigW := bw5 219 rfl rfl
set_option maxRecDepth 20000 in
theorem wd_1180 : (Cond.selects "HeadDotsModel" ({ cls := "HeadDotsModel", name := "coolIn", desc := "(I)I" } : MethodName) ({ cls := "HeadDotsModel", name := "coolIn", desc := "(I)I" } : MethodName)) ∈ bigW := bw5 220 rfl rfl
set_option maxRecDepth 20000 in
theorem wd_1181 : (Cond.code ({ cls := "HeadDotsModel", name := "coolIn", desc := "(I)I" } : MethodName) prog_8_method_63_code 2 (Option.some ClassFile.FieldType.int)) ∈ bigW := bw5 221 rfl rfl
set_option maxRecDepth 20000 in
theorem wd_1182 : (Cond.methodLink "HeadDotsModel" 198 ({ cls := "HeadDotsModel", name := "timeToCool", desc := "(I)I" } : MethodName)) ∈ bigW := bw5 222 rfl rfl
set_option maxRecDepth 20000 in
theorem wd_1184 : (Cond.instanceMethod ({ cls := "HeadDotsModel", name := "timeToCool", desc := "(I)I" } : MethodName)) ∈ bigW := bw5 224 rfl rfl
set_option maxRecDepth 20000 in
theorem wd_1185 : (Cond.code ({ cls := "HeadDotsModel", name := "timeToCool", desc := "(I)I" } : MethodName) prog_8_method_62_code 4 (Option.some ClassFile.FieldType.int)) ∈ bigW := bw5 225 rfl rfl
set_option maxRecDepth 20000 in
theorem wd_1186 : (Cond.methodLink "HeadDotsLaw" 143 ({ cls := "HeadDotsModel", name := "darkFrom", desc := "(I)I" } : MethodName)) ∈ bigW := bw5 226 rfl rfl
set_option maxRecDepth 20000 in
theorem wd_1187 : (Cond.instanceMethod ({ cls := "HeadDotsModel", name := "darkFrom", desc := "(I)I" } : MethodName)) ∈ bigW := bw5 227 rfl rfl
set_option maxRecDepth 20000 in
theorem wd_1188 : (Cond.selects "HeadDotsModel" ({ cls := "HeadDotsModel", name := "darkFrom", desc := "(I)I" } : MethodName) ({ cls := "HeadDotsModel", name := "darkFrom", desc := "(I)I" } : MethodName)) ∈ bigW := bw5 228 rfl rfl
set_option maxRecDepth 20000 in
theorem wd_1189 : (Cond.code ({ cls := "HeadDotsModel", name := "darkFrom", desc := "(I)I" } : MethodName) prog_8_method_66_code 2 (Option.some ClassFile.FieldType.int)) ∈ bigW := bw5 229 rfl rfl
set_option maxRecDepth 20000 in
theorem wd_1190 : (Cond.methodLink "HeadDotsModel" 204 ({ cls := "HeadDotsModel", name := "leastDark", desc := "(I)I" } : MethodName)) ∈ bigW := bw5 230 rfl rfl
set_option maxRecDepth 20000 in
theorem wd_1192 : (Cond.instanceMethod ({ cls := "HeadDotsModel", name := "leastDark", desc := "(I)I" } : MethodName)) ∈ bigW := bw5 232 rfl rfl
set_option maxRecDepth 20000 in
theorem wd_1193 : (Cond.code ({ cls := "HeadDotsModel", name := "leastDark", desc := "(I)I" } : MethodName) prog_8_method_65_code 4 (Option.some ClassFile.FieldType.int)) ∈ bigW := bw5 233 rfl rfl
set_option maxRecDepth 20000 in
theorem wd_1194 : (Cond.methodLink "HeadDotsModel" 201 ({ cls := "HeadDotsModel", name := "isDarkBy", desc := "(II)Z" } : MethodName)) ∈ bigW := bw5 234 rfl rfl
set_option maxRecDepth 20000 in
theorem wd_1196 : (Cond.instanceMethod ({ cls := "HeadDotsModel", name := "isDarkBy", desc := "(II)Z" } : MethodName)) ∈ bigW := bw5 236 rfl rfl
set_option maxRecDepth 20000 in
theorem wd_1197 : (Cond.code ({ cls := "HeadDotsModel", name := "isDarkBy", desc := "(II)Z" } : MethodName) prog_8_method_64_code 5 (Option.some ClassFile.FieldType.boolean)) ∈ bigW := bw5 237 rfl rfl
set_option maxRecDepth 20000 in
theorem wd_1198 : (Cond.methodLink "HeadDotsLaw" 148 ({ cls := "HeadDotsModel", name := "darkness", desc := "()D" } : MethodName)) ∈ bigW := bw5 238 rfl rfl
set_option maxRecDepth 20000 in
theorem wd_1199 : (Cond.instanceMethod ({ cls := "HeadDotsModel", name := "darkness", desc := "()D" } : MethodName)) ∈ bigW := bw5 239 rfl rfl
set_option maxRecDepth 20000 in
theorem wd_1200 : (Cond.selects "HeadDotsModel" ({ cls := "HeadDotsModel", name := "darkness", desc := "()D" } : MethodName) ({ cls := "HeadDotsModel", name := "darkness", desc := "()D" } : MethodName)) ∈ bigW := bw6 0 rfl rfl
set_option maxRecDepth 20000 in
theorem wd_1201 : (Cond.code ({ cls := "HeadDotsModel", name := "darkness", desc := "()D" } : MethodName) prog_8_method_68_code 1 (Option.some ClassFile.FieldType.double)) ∈ bigW := bw6 1 rfl rfl
set_option maxRecDepth 20000 in
theorem wd_1202 : (Cond.methodLink "HeadDotsModel" 207 ({ cls := "HeadDotsModel", name := "share", desc := "()D" } : MethodName)) ∈ bigW := bw6 2 rfl rfl
set_option maxRecDepth 20000 in
theorem wd_1204 : (Cond.instanceMethod ({ cls := "HeadDotsModel", name := "share", desc := "()D" } : MethodName)) ∈ bigW := bw6 4 rfl rfl
set_option maxRecDepth 20000 in
theorem wd_1205 : (Cond.code ({ cls := "HeadDotsModel", name := "share", desc := "()D" } : MethodName) prog_8_method_67_code 2 (Option.some ClassFile.FieldType.double)) ∈ bigW := bw6 5 rfl rfl
set_option maxRecDepth 20000 in
theorem wd_1206 : (Cond.methodLink "HeadDotsLaw" 153 ({ cls := "HeadDotsModel", name := "meanHeat", desc := "()F" } : MethodName)) ∈ bigW := bw6 6 rfl rfl
set_option maxRecDepth 20000 in
theorem wd_1207 : (Cond.instanceMethod ({ cls := "HeadDotsModel", name := "meanHeat", desc := "()F" } : MethodName)) ∈ bigW := bw6 7 rfl rfl
set_option maxRecDepth 20000 in
theorem wd_1208 : (Cond.selects "HeadDotsModel" ({ cls := "HeadDotsModel", name := "meanHeat", desc := "()F" } : MethodName) ({ cls := "HeadDotsModel", name := "meanHeat", desc := "()F" } : MethodName)) ∈ bigW := bw6 8 rfl rfl
set_option maxRecDepth 20000 in
theorem wd_1209 : (Cond.code ({ cls := "HeadDotsModel", name := "meanHeat", desc := "()F" } : MethodName) prog_8_method_70_code 1 (Option.some ClassFile.FieldType.float)) ∈ bigW := bw6 9 rfl rfl
set_option maxRecDepth 20000 in
theorem wd_1210 : (Cond.methodLink "HeadDotsModel" 212 ({ cls := "HeadDotsModel", name := "mean", desc := "()F" } : MethodName)) ∈ bigW := bw6 10 rfl rfl
set_option maxRecDepth 20000 in
theorem wd_1212 : (Cond.instanceMethod ({ cls := "HeadDotsModel", name := "mean", desc := "()F" } : MethodName)) ∈ bigW := bw6 12 rfl rfl
set_option maxRecDepth 20000 in
theorem wd_1213 : (Cond.code ({ cls := "HeadDotsModel", name := "mean", desc := "()F" } : MethodName) prog_8_method_69_code 1 (Option.some ClassFile.FieldType.float)) ∈ bigW := bw6 13 rfl rfl
set_option maxRecDepth 20000 in
theorem wd_1214 : (Cond.constantFloat "HeadDotsModel" 211 (1103101952 : UInt32)) ∈ bigW := bw6 14 rfl rfl
set_option maxRecDepth 20000 in
theorem wd_1215 : (Cond.methodLink "HeadDotsLaw" 158 ({ cls := "HeadDotsModel", name := "digest", desc := "()J" } : MethodName)) ∈ bigW := bw6 15 rfl rfl
set_option maxRecDepth 20000 in
theorem wd_1216 : (Cond.instanceMethod ({ cls := "HeadDotsModel", name := "digest", desc := "()J" } : MethodName)) ∈ bigW := bw6 16 rfl rfl
set_option maxRecDepth 20000 in
theorem wd_1217 : (Cond.selects "HeadDotsModel" ({ cls := "HeadDotsModel", name := "digest", desc := "()J" } : MethodName) ({ cls := "HeadDotsModel", name := "digest", desc := "()J" } : MethodName)) ∈ bigW := bw6 17 rfl rfl
set_option maxRecDepth 20000 in
theorem wd_1218 : (Cond.code ({ cls := "HeadDotsModel", name := "digest", desc := "()J" } : MethodName) prog_8_method_73_code 2 (Option.some ClassFile.FieldType.long)) ∈ bigW := bw6 18 rfl rfl
set_option maxRecDepth 20000 in
theorem wd_1219 : (Cond.constantLong "HeadDotsModel" 226 (3833 : Int64)) ∈ bigW := bw6 19 rfl rfl
set_option maxRecDepth 20000 in
theorem wd_1220 : (Cond.methodLink "HeadDotsModel" 222 ({ cls := "HeadDotsModel", name := "mix", desc := "(J)V" } : MethodName)) ∈ bigW := bw6 20 rfl rfl
set_option maxRecDepth 20000 in
theorem wd_1222 : (Cond.instanceMethod ({ cls := "HeadDotsModel", name := "mix", desc := "(J)V" } : MethodName)) ∈ bigW := bw6 22 rfl rfl
set_option maxRecDepth 20000 in
theorem wd_1223 : (Cond.code ({ cls := "HeadDotsModel", name := "mix", desc := "(J)V" } : MethodName) prog_8_method_71_code 3 (Option.none : Option ClassFile.FieldType)) ∈ bigW := bw6 23 rfl rfl
set_option maxRecDepth 20000 in
theorem wd_1224 : (Cond.constantLong "HeadDotsModel" 216 (31 : Int64)) ∈ bigW := bw6 24 rfl rfl
set_option maxRecDepth 20000 in
theorem wd_1225 : (Cond.methodLink "HeadDotsModel" 228 ({ cls := "HeadDotsModel", name := "mixStrip", desc := "()V" } : MethodName)) ∈ bigW := bw6 25 rfl rfl
set_option maxRecDepth 20000 in
theorem wd_1227 : (Cond.instanceMethod ({ cls := "HeadDotsModel", name := "mixStrip", desc := "()V" } : MethodName)) ∈ bigW := bw6 27 rfl rfl
set_option maxRecDepth 20000 in
theorem wd_1228 : (Cond.code ({ cls := "HeadDotsModel", name := "mixStrip", desc := "()V" } : MethodName) prog_8_method_72_code 3 (Option.none : Option ClassFile.FieldType)) ∈ bigW := bw6 28 rfl rfl
set_option maxRecDepth 20000 in
theorem wd_1229 : (Cond.constant "HeadDotsModel" 231 (5592405 : Int32)) ∈ bigW := bw6 29 rfl rfl
set_option maxRecDepth 20000 in
theorem wd_1230 : (Cond.constant "HeadDotsModel" 232 (65535 : Int32)) ∈ bigW := bw6 30 rfl rfl
set_option maxRecDepth 20000 in
theorem wd_1231 : (Cond.methodLink "HeadDotsModel" 233 ({ cls := "java/lang/Double", name := "doubleToLongBits", desc := "(D)J" } : MethodName)) ∈ bigW := bw6 31 rfl rfl
set_option maxRecDepth 20000 in
theorem wd_1232 : (Cond.static ({ cls := "java/lang/Double", name := "doubleToLongBits", desc := "(D)J" } : MethodName)) ∈ bigW := bw6 32 rfl rfl
set_option maxRecDepth 20000 in
theorem wd_1233 : (Cond.code ({ cls := "java/lang/Double", name := "doubleToLongBits", desc := "(D)J" } : MethodName) prog_9_method_23_code 2 (Option.some ClassFile.FieldType.long)) ∈ bigW := bw6 33 rfl rfl
set_option maxRecDepth 20000 in
theorem wd_1234 : (Cond.methodLink "java/lang/Double" 122 ({ cls := "java/lang/Double", name := "isNaN", desc := "(D)Z" } : MethodName)) ∈ bigW := bw6 34 rfl rfl
set_option maxRecDepth 20000 in
theorem wd_1235 : (Cond.static ({ cls := "java/lang/Double", name := "isNaN", desc := "(D)Z" } : MethodName)) ∈ bigW := bw6 35 rfl rfl
set_option maxRecDepth 20000 in
theorem wd_1236 : (Cond.code ({ cls := "java/lang/Double", name := "isNaN", desc := "(D)Z" } : MethodName) prog_9_method_6_code 2 (Option.some ClassFile.FieldType.boolean)) ∈ bigW := bw6 36 rfl rfl
set_option maxRecDepth 20000 in
theorem wd_1237 : (Cond.methodLink "java/lang/Double" 134 ({ cls := "java/lang/Double", name := "doubleToRawLongBits", desc := "(D)J" } : MethodName)) ∈ bigW := bw6 37 rfl rfl
set_option maxRecDepth 20000 in
theorem wd_1238 : (Cond.static ({ cls := "java/lang/Double", name := "doubleToRawLongBits", desc := "(D)J" } : MethodName)) ∈ bigW := bw6 38 rfl rfl
set_option maxRecDepth 20000 in
theorem wd_1239 : (Cond.native ({ cls := "java/lang/Double", name := "doubleToRawLongBits", desc := "(D)J" } : MethodName)) ∈ bigW := bw6 39 rfl rfl
set_option maxRecDepth 20000 in
theorem wd_1240 : (Cond.constantLong "java/lang/Double" 137 (9221120237041090560 : Int64)) ∈ bigW := bw6 40 rfl rfl
set_option maxRecDepth 20000 in
theorem wd_1241 : (Cond.methodLink "HeadDotsModel" 239 ({ cls := "java/lang/Float", name := "floatToIntBits", desc := "(F)I" } : MethodName)) ∈ bigW := bw6 41 rfl rfl
set_option maxRecDepth 20000 in
theorem wd_1242 : (Cond.static ({ cls := "java/lang/Float", name := "floatToIntBits", desc := "(F)I" } : MethodName)) ∈ bigW := bw6 42 rfl rfl
set_option maxRecDepth 20000 in
theorem wd_1243 : (Cond.code ({ cls := "java/lang/Float", name := "floatToIntBits", desc := "(F)I" } : MethodName) prog_11_method_24_code 1 (Option.some ClassFile.FieldType.int)) ∈ bigW := bw6 43 rfl rfl
set_option maxRecDepth 20000 in
theorem wd_1244 : (Cond.methodLink "java/lang/Float" 59 ({ cls := "java/lang/Float", name := "isNaN", desc := "(F)Z" } : MethodName)) ∈ bigW := bw6 44 rfl rfl
set_option maxRecDepth 20000 in
theorem wd_1245 : (Cond.static ({ cls := "java/lang/Float", name := "isNaN", desc := "(F)Z" } : MethodName)) ∈ bigW := bw6 45 rfl rfl
set_option maxRecDepth 20000 in
theorem wd_1246 : (Cond.code ({ cls := "java/lang/Float", name := "isNaN", desc := "(F)Z" } : MethodName) prog_11_method_6_code 1 (Option.some ClassFile.FieldType.boolean)) ∈ bigW := bw6 46 rfl rfl
set_option maxRecDepth 20000 in
theorem wd_1247 : (Cond.methodLink "java/lang/Float" 74 ({ cls := "java/lang/Float", name := "floatToRawIntBits", desc := "(F)I" } : MethodName)) ∈ bigW := bw6 47 rfl rfl
set_option maxRecDepth 20000 in
theorem wd_1248 : (Cond.static ({ cls := "java/lang/Float", name := "floatToRawIntBits", desc := "(F)I" } : MethodName)) ∈ bigW := bw6 48 rfl rfl
set_option maxRecDepth 20000 in
theorem wd_1249 : (Cond.native ({ cls := "java/lang/Float", name := "floatToRawIntBits", desc := "(F)I" } : MethodName)) ∈ bigW := bw6 49 rfl rfl
set_option maxRecDepth 20000 in
theorem wd_1250 : (Cond.constant "java/lang/Float" 77 (2143289344 : Int32)) ∈ bigW := bw6 50 rfl rfl
set_option maxRecDepth 20000 in
theorem wd_1251 : (Cond.arrayClass ClassFile.FieldType.long) ∈ bigW := bw6 51 rfl rfl
set_option maxRecDepth 20000 in
theorem wd_1253 : (Cond.fieldLink "java/lang/String" 9 "java/lang/String" "value" "[B") ∈ bigW := bw6 53 rfl rfl
set_option maxRecDepth 20000 in
theorem wd_1254 : (Cond.fieldLink "java/lang/String" 15 "java/lang/String" "coder" "B") ∈ bigW := bw6 54 rfl rfl
end
section
def RX0 : String := "HeadDots$Buffer"
def TX0 : u_T := fun k => match k with
  | 0 => ("HeadDots$Buffer", "codes", "[I", true)
  | _ => ("HeadDots$Buffer", "length", "I", false)
def tyX0 : Nat → FieldType := fun k => match k with
  | 0 => .array .int
  | _ => .int
abbrev wsX00 : List Cond := u_ws RX0 TX0 2
theorem nmX0 : ∀ a, a < 2 → ∀ b, b < 2 → a ≠ b → (TX0 a).2.1 ≠ (TX0 b).2.1 := by decide +kernel
theorem tyX0_ok : ∀ k, k < 2 → parseFieldDescriptor (TX0 k).2.2.1 = some (tyX0 k) := by decide +kernel
abbrev cX0_init : ByteArray := prog_2_method_1_code
def yX0_init : MethodName := ⟨RX0, "<init>", "()V"⟩
abbrev cX0_isFull : ByteArray := prog_2_method_2_code
def yX0_isFull : MethodName := ⟨RX0, "isFull", "()Z"⟩
abbrev cX0_addCode : ByteArray := prog_2_method_3_code
def yX0_addCode : MethodName := ⟨RX0, "addCode", "(I)V"⟩
abbrev cX0_codeAt : ByteArray := prog_2_method_4_code
def yX0_codeAt : MethodName := ⟨RX0, "codeAt", "(I)I"⟩
def RX1 : String := "HeadDots$Reader"
def TX1 : u_T := fun k => match k with
  | 0 => ("HeadDots$Reader", "mode", "I", false)
  | 1 => ("HeadDots$Reader", "modeBehindWord", "I", false)
  | 2 => ("HeadDots$Reader", "word", "Ljava/lang/String;", false)
  | 3 => ("HeadDots$Reader", "wordAt", "I", false)
  | 4 => ("HeadDots$Reader", "kind", "I", false)
  | 5 => ("HeadDots$Reader", "dots", "I", false)
  | 6 => ("HeadDots$Reader", "dotsDigits", "I", false)
  | 7 => ("HeadDots$Reader", "paperKind", "I", false)
  | 8 => ("HeadDots$Reader", "number", "I", false)
  | _ => ("HeadDots$Reader", "numberMost", "I", false)
def tyX1 : Nat → FieldType := fun k => match k with
  | 0 => .int
  | 1 => .int
  | 2 => .object "java/lang/String"
  | 3 => .int
  | 4 => .int
  | 5 => .int
  | 6 => .int
  | 7 => .int
  | 8 => .int
  | _ => .int
abbrev wsX10 : List Cond := u_ws RX1 TX1 10
theorem nmX1 : ∀ a, a < 10 → ∀ b, b < 10 → a ≠ b → (TX1 a).2.1 ≠ (TX1 b).2.1 := by decide +kernel
theorem tyX1_ok : ∀ k, k < 10 → parseFieldDescriptor (TX1 k).2.2.1 = some (tyX1 k) := by decide +kernel
abbrev cX1_init : ByteArray := prog_3_method_1_code
def yX1_init : MethodName := ⟨RX1, "<init>", "()V"⟩
abbrev cX1_beginPart : ByteArray := prog_3_method_2_code
def yX1_beginPart : MethodName := ⟨RX1, "beginPart", "()V"⟩
abbrev cX1_readUntilError : ByteArray := prog_3_method_3_code
def yX1_readUntilError : MethodName := ⟨RX1, "readUntilError", "(LHeadDots$Buffer;)I"⟩
abbrev cX1_isComplete : ByteArray := prog_3_method_4_code
def yX1_isComplete : MethodName := ⟨RX1, "isComplete", "()Z"⟩
abbrev cX1_take : ByteArray := prog_3_method_5_code
def yX1_take : MethodName := ⟨RX1, "take", "(I)Z"⟩
abbrev cX1_takeBetween : ByteArray := prog_3_method_6_code
def yX1_takeBetween : MethodName := ⟨RX1, "takeBetween", "()Z"⟩
abbrev cX1_takeFirst : ByteArray := prog_3_method_7_code
def yX1_takeFirst : MethodName := ⟨RX1, "takeFirst", "(I)Z"⟩
abbrev cX1_takeFirstOfPaper : ByteArray := prog_3_method_8_code
def yX1_takeFirstOfPaper : MethodName := ⟨RX1, "takeFirstOfPaper", "(I)Z"⟩
abbrev cX1_beginKind : ByteArray := prog_3_method_9_code
def yX1_beginKind : MethodName := ⟨RX1, "beginKind", "(ILjava/lang/String;I)Z"⟩
abbrev cX1_beginPaper : ByteArray := prog_3_method_10_code
def yX1_beginPaper : MethodName := ⟨RX1, "beginPaper", "(ILjava/lang/String;)Z"⟩
abbrev cX1_beginWord : ByteArray := prog_3_method_11_code
def yX1_beginWord : MethodName := ⟨RX1, "beginWord", "(Ljava/lang/String;I)Z"⟩
abbrev cX1_takeOfWord : ByteArray := prog_3_method_12_code
def yX1_takeOfWord : MethodName := ⟨RX1, "takeOfWord", "(I)Z"⟩
abbrev cX1_takeOfDots : ByteArray := prog_3_method_13_code
def yX1_takeOfDots : MethodName := ⟨RX1, "takeOfDots", "(I)Z"⟩
abbrev cX1_takeStar : ByteArray := prog_3_method_14_code
def yX1_takeStar : MethodName := ⟨RX1, "takeStar", "(I)Z"⟩
abbrev cX1_takeDigit : ByteArray := prog_3_method_15_code
def yX1_takeDigit : MethodName := ⟨RX1, "takeDigit", "(I)Z"⟩
abbrev cX1_hexDigit : ByteArray := prog_3_method_16_code
def yX1_hexDigit : MethodName := ⟨RX1, "hexDigit", "(I)I"⟩
def RX2 : String := "HeadDots$State"
def TX2 : u_T := fun k => match k with
  | 0 => ("HeadDots$State", "heat", "[I", true)
  | 1 => ("HeadDots$State", "pulses", "[I", true)
  | 2 => ("HeadDots$State", "settings", "[I", true)
  | 3 => ("HeadDots$State", "strip", "LHeadDots$Strip;", true)
  | 4 => ("HeadDots$State", "totals", "LHeadDots$Totals;", true)
  | 5 => ("HeadDots$State", "lastLine", "I", false)
  | 6 => ("HeadDots$State", "lineBefore", "I", false)
  | _ => ("HeadDots$State", "paperKind", "I", false)
def tyX2 : Nat → FieldType := fun k => match k with
  | 0 => .array .int
  | 1 => .array .int
  | 2 => .array .int
  | 3 => .object "HeadDots$Strip"
  | 4 => .object "HeadDots$Totals"
  | 5 => .int
  | 6 => .int
  | _ => .int
abbrev wsX20 : List Cond := u_ws RX2 TX2 8
theorem nmX2 : ∀ a, a < 8 → ∀ b, b < 8 → a ≠ b → (TX2 a).2.1 ≠ (TX2 b).2.1 := by decide +kernel
theorem tyX2_ok : ∀ k, k < 8 → parseFieldDescriptor (TX2 k).2.2.1 = some (tyX2 k) := by decide +kernel
abbrev cX2_init : ByteArray := prog_4_method_1_code
def yX2_init : MethodName := ⟨RX2, "<init>", "()V"⟩
abbrev cX2_copyFrom : ByteArray := prog_4_method_2_code
def yX2_copyFrom : MethodName := ⟨RX2, "copyFrom", "(LHeadDots$State;)V"⟩
abbrev cX2_setting : ByteArray := prog_4_method_3_code
def yX2_setting : MethodName := ⟨RX2, "setting", "(I)I"⟩
abbrev cX2_changeSetting : ByteArray := prog_4_method_4_code
def yX2_changeSetting : MethodName := ⟨RX2, "changeSetting", "(II)V"⟩
abbrev cX2_changePaper : ByteArray := prog_4_method_5_code
def yX2_changePaper : MethodName := ⟨RX2, "changePaper", "(I)V"⟩
abbrev cX2_printLines : ByteArray := prog_4_method_6_code
def yX2_printLines : MethodName := ⟨RX2, "printLines", "(II)V"⟩
abbrev cX2_printLine : ByteArray := prog_4_method_7_code
def yX2_printLine : MethodName := ⟨RX2, "printLine", "(I)I"⟩
abbrev cX2_dotsAtOnce : ByteArray := prog_4_method_8_code
def yX2_dotsAtOnce : MethodName := ⟨RX2, "dotsAtOnce", "()I"⟩
abbrev cX2_preparePulses : ByteArray := prog_4_method_9_code
def yX2_preparePulses : MethodName := ⟨RX2, "preparePulses", "(I)V"⟩
abbrev cX2_dotsOfPart : ByteArray := prog_4_method_10_code
def yX2_dotsOfPart : MethodName := ⟨RX2, "dotsOfPart", "(IIII)I"⟩
abbrev cX2_waitOfPart : ByteArray := prog_4_method_11_code
def yX2_waitOfPart : MethodName := ⟨RX2, "waitOfPart", "(I)I"⟩
abbrev cX2_heatPart : ByteArray := prog_4_method_12_code
def yX2_heatPart : MethodName := ⟨RX2, "heatPart", "(I)I"⟩
abbrev cX2_longestPulse : ByteArray := prog_4_method_13_code
def yX2_longestPulse : MethodName := ⟨RX2, "longestPulse", "(I)I"⟩
abbrev cX2_pulseIn : ByteArray := prog_4_method_14_code
def yX2_pulseIn : MethodName := ⟨RX2, "pulseIn", "(III)I"⟩
abbrev cX2_pulseAlone : ByteArray := prog_4_method_15_code
def yX2_pulseAlone : MethodName := ⟨RX2, "pulseAlone", "(II)I"⟩
abbrev cX2_waitFor : ByteArray := prog_4_method_16_code
def yX2_waitFor : MethodName := ⟨RX2, "waitFor", "(II)I"⟩
abbrev cX2_isDark : ByteArray := prog_4_method_17_code
def yX2_isDark : MethodName := ⟨RX2, "isDark", "(I)Z"⟩
abbrev cX2_passTime : ByteArray := prog_4_method_18_code
def yX2_passTime : MethodName := ⟨RX2, "passTime", "(I)V"⟩
abbrev cX2_cooledFor : ByteArray := prog_4_method_19_code
def yX2_cooledFor : MethodName := ⟨RX2, "cooledFor", "(II)I"⟩
abbrev cX2_timeDownTo : ByteArray := prog_4_method_20_code
def yX2_timeDownTo : MethodName := ⟨RX2, "timeDownTo", "(II)I"⟩
abbrev cX2_cooled : ByteArray := prog_4_method_21_code
def yX2_cooled : MethodName := ⟨RX2, "cooled", "(II)I"⟩
abbrev cX2_timeUntilCool : ByteArray := prog_4_method_22_code
def yX2_timeUntilCool : MethodName := ⟨RX2, "timeUntilCool", "(I)I"⟩
abbrev cX2_hottestDot : ByteArray := prog_4_method_23_code
def yX2_hottestDot : MethodName := ⟨RX2, "hottestDot", "()I"⟩
abbrev cX2_leastDarkSetting : ByteArray := prog_4_method_24_code
def yX2_leastDarkSetting : MethodName := ⟨RX2, "leastDarkSetting", "(I)I"⟩
abbrev cX2_mean : ByteArray := prog_4_method_25_code
def yX2_mean : MethodName := ⟨RX2, "mean", "()F"⟩
abbrev cX2_numberOfDot : ByteArray := prog_4_method_26_code
def yX2_numberOfDot : MethodName := ⟨RX2, "numberOfDot", "(II)I"⟩
def RX3 : String := "HeadDots$Strip"
def TX3 : u_T := fun k => match k with
  | 0 => ("HeadDots$Strip", "dark", "[I", true)
  | 1 => ("HeadDots$Strip", "faint", "[I", true)
  | 2 => ("HeadDots$Strip", "parts", "[I", true)
  | _ => ("HeadDots$Strip", "size", "I", false)
def tyX3 : Nat → FieldType := fun k => match k with
  | 0 => .array .int
  | 1 => .array .int
  | 2 => .array .int
  | _ => .int
abbrev wsX30 : List Cond := u_ws RX3 TX3 4
theorem nmX3 : ∀ a, a < 4 → ∀ b, b < 4 → a ≠ b → (TX3 a).2.1 ≠ (TX3 b).2.1 := by decide +kernel
theorem tyX3_ok : ∀ k, k < 4 → parseFieldDescriptor (TX3 k).2.2.1 = some (tyX3 k) := by decide +kernel
abbrev cX3_init : ByteArray := prog_5_method_1_code
def yX3_init : MethodName := ⟨RX3, "<init>", "()V"⟩
abbrev cX3_copyFrom : ByteArray := prog_5_method_2_code
def yX3_copyFrom : MethodName := ⟨RX3, "copyFrom", "(LHeadDots$Strip;)V"⟩
abbrev cX3_addLine : ByteArray := prog_5_method_3_code
def yX3_addLine : MethodName := ⟨RX3, "addLine", "(III)V"⟩
abbrev cX3_pushFront : ByteArray := prog_5_method_4_code
def yX3_pushFront : MethodName := ⟨RX3, "pushFront", "([II)V"⟩
abbrev cX3_numberOfLine : ByteArray := prog_5_method_5_code
def yX3_numberOfLine : MethodName := ⟨RX3, "numberOfLine", "(II)I"⟩
abbrev cX3_textLength : ByteArray := prog_5_method_6_code
def yX3_textLength : MethodName := ⟨RX3, "textLength", "(I)I"⟩
abbrev cX3_sign : ByteArray := prog_5_method_7_code
def yX3_sign : MethodName := ⟨RX3, "sign", "(II)I"⟩
def RX4 : String := "HeadDots$Totals"
def TX4 : u_T := fun k => match k with
  | 0 => ("HeadDots$Totals", "dotsOf", "[I", true)
  | 1 => ("HeadDots$Totals", "faintOf", "[I", true)
  | 2 => ("HeadDots$Totals", "time", "I", false)
  | 3 => ("HeadDots$Totals", "lines", "I", false)
  | 4 => ("HeadDots$Totals", "parts", "I", false)
  | 5 => ("HeadDots$Totals", "waits", "I", false)
  | 6 => ("HeadDots$Totals", "dots", "I", false)
  | 7 => ("HeadDots$Totals", "faint", "I", false)
  | _ => ("HeadDots$Totals", "hottest", "I", false)
def tyX4 : Nat → FieldType := fun k => match k with
  | 0 => .array .int
  | 1 => .array .int
  | 2 => .int
  | 3 => .int
  | 4 => .int
  | 5 => .int
  | 6 => .int
  | 7 => .int
  | _ => .int
abbrev wsX40 : List Cond := u_ws RX4 TX4 9
theorem nmX4 : ∀ a, a < 9 → ∀ b, b < 9 → a ≠ b → (TX4 a).2.1 ≠ (TX4 b).2.1 := by decide +kernel
theorem tyX4_ok : ∀ k, k < 9 → parseFieldDescriptor (TX4 k).2.2.1 = some (tyX4 k) := by decide +kernel
abbrev cX4_init : ByteArray := prog_6_method_1_code
def yX4_init : MethodName := ⟨RX4, "<init>", "()V"⟩
abbrev cX4_copyFrom : ByteArray := prog_6_method_2_code
def yX4_copyFrom : MethodName := ⟨RX4, "copyFrom", "(LHeadDots$Totals;)V"⟩
abbrev cX4_addLine : ByteArray := prog_6_method_3_code
def yX4_addLine : MethodName := ⟨RX4, "addLine", "(III)V"⟩
abbrev cX4_addDots : ByteArray := prog_6_method_4_code
def yX4_addDots : MethodName := ⟨RX4, "addDots", "([II)V"⟩
abbrev cX4_dotByDot : ByteArray := prog_6_method_5_code
def yX4_dotByDot : MethodName := ⟨RX4, "dotByDot", "()I"⟩
abbrev cX4_darkShare : ByteArray := prog_6_method_6_code
def yX4_darkShare : MethodName := ⟨RX4, "darkShare", "()D"⟩
def RX5 : String := "HeadDots"
def TX5 : u_T := fun k => match k with
  | 0 => ("HeadDots", "now", "LHeadDots$State;", true)
  | 1 => ("HeadDots", "snapshot", "LHeadDots$State;", true)
  | 2 => ("HeadDots", "trial", "LHeadDots$State;", true)
  | 3 => ("HeadDots", "saved", "[LHeadDots$State;", true)
  | 4 => ("HeadDots", "buffer", "LHeadDots$Buffer;", true)
  | 5 => ("HeadDots", "reader", "LHeadDots$Reader;", true)
  | 6 => ("HeadDots", "savedCount", "I", false)
  | _ => ("HeadDots", "hasSnapshot", "Z", false)
def tyX5 : Nat → FieldType := fun k => match k with
  | 0 => .object "HeadDots$State"
  | 1 => .object "HeadDots$State"
  | 2 => .object "HeadDots$State"
  | 3 => .array (.object "HeadDots$State")
  | 4 => .object "HeadDots$Buffer"
  | 5 => .object "HeadDots$Reader"
  | 6 => .int
  | _ => .boolean
abbrev wsX50 : List Cond := u_ws RX5 TX5 8
theorem nmX5 : ∀ a, a < 8 → ∀ b, b < 8 → a ≠ b → (TX5 a).2.1 ≠ (TX5 b).2.1 := by decide +kernel
theorem tyX5_ok : ∀ k, k < 8 → parseFieldDescriptor (TX5 k).2.2.1 = some (tyX5 k) := by decide +kernel
abbrev cX5_init : ByteArray := prog_1_method_1_code
def yX5_init : MethodName := ⟨RX5, "<init>", "()V"⟩
abbrev cX5_line : ByteArray := prog_1_method_2_code
def yX5_line : MethodName := ⟨RX5, "line", "(I)I"⟩
abbrev cX5_lines : ByteArray := prog_1_method_3_code
def yX5_lines : MethodName := ⟨RX5, "lines", "(II)I"⟩
abbrev cX5_rest : ByteArray := prog_1_method_4_code
def yX5_rest : MethodName := ⟨RX5, "rest", "(I)I"⟩
abbrev cX5_paper : ByteArray := prog_1_method_5_code
def yX5_paper : MethodName := ⟨RX5, "paper", "(I)I"⟩
abbrev cX5_set : ByteArray := prog_1_method_6_code
def yX5_set : MethodName := ⟨RX5, "set", "(II)I"⟩
abbrev cX5_append : ByteArray := prog_1_method_7_code
def yX5_append : MethodName := ⟨RX5, "append", "(I)I"⟩
abbrev cX5_clearBuffer : ByteArray := prog_1_method_8_code
def yX5_clearBuffer : MethodName := ⟨RX5, "clearBuffer", "()I"⟩
abbrev cX5_firstError : ByteArray := prog_1_method_9_code
def yX5_firstError : MethodName := ⟨RX5, "firstError", "()I"⟩
abbrev cX5_print : ByteArray := prog_1_method_10_code
def yX5_print : MethodName := ⟨RX5, "print", "()I"⟩
abbrev cX5_told : ByteArray := prog_1_method_11_code
def yX5_told : MethodName := ⟨RX5, "told", "(II)I"⟩
abbrev cX5_undo : ByteArray := prog_1_method_12_code
def yX5_undo : MethodName := ⟨RX5, "undo", "()I"⟩
abbrev cX5_keep : ByteArray := prog_1_method_13_code
def yX5_keep : MethodName := ⟨RX5, "keep", "()I"⟩
abbrev cX5_restore : ByteArray := prog_1_method_14_code
def yX5_restore : MethodName := ⟨RX5, "restore", "()I"⟩
abbrev cX5_dot : ByteArray := prog_1_method_15_code
def yX5_dot : MethodName := ⟨RX5, "dot", "(II)I"⟩
abbrev cX5_kept : ByteArray := prog_1_method_16_code
def yX5_kept : MethodName := ⟨RX5, "kept", "(II)I"⟩
abbrev cX5_count : ByteArray := prog_1_method_17_code
def yX5_count : MethodName := ⟨RX5, "count", "(I)I"⟩
abbrev cX5_ifPrinted : ByteArray := prog_1_method_18_code
def yX5_ifPrinted : MethodName := ⟨RX5, "ifPrinted", "(II)I"⟩
abbrev cX5_betterWay : ByteArray := prog_1_method_19_code
def yX5_betterWay : MethodName := ⟨RX5, "betterWay", "(I)I"⟩
abbrev cX5_coolIn : ByteArray := prog_1_method_20_code
def yX5_coolIn : MethodName := ⟨RX5, "coolIn", "(I)I"⟩
abbrev cX5_darkFrom : ByteArray := prog_1_method_21_code
def yX5_darkFrom : MethodName := ⟨RX5, "darkFrom", "(I)I"⟩
abbrev cX5_darkness : ByteArray := prog_1_method_22_code
def yX5_darkness : MethodName := ⟨RX5, "darkness", "()D"⟩
abbrev cX5_meanHeat : ByteArray := prog_1_method_23_code
def yX5_meanHeat : MethodName := ⟨RX5, "meanHeat", "()F"⟩
abbrev cX5_digest : ByteArray := prog_1_method_24_code
def yX5_digest : MethodName := ⟨RX5, "digest", "()J"⟩
abbrev cX5_saveState : ByteArray := prog_1_method_25_code
def yX5_saveState : MethodName := ⟨RX5, "saveState", "()V"⟩
abbrev cX5_dropOldest : ByteArray := prog_1_method_26_code
def yX5_dropOldest : MethodName := ⟨RX5, "dropOldest", "()V"⟩
abbrev cX5_savedAt : ByteArray := prog_1_method_27_code
def yX5_savedAt : MethodName := ⟨RX5, "savedAt", "(I)LHeadDots$State;"⟩
abbrev cX5_printPartOfText : ByteArray := prog_1_method_28_code
def yX5_printPartOfText : MethodName := ⟨RX5, "printPartOfText", "()V"⟩
abbrev cX5_counted : ByteArray := prog_1_method_29_code
def yX5_counted : MethodName := ⟨RX5, "counted", "(I)I"⟩
abbrev cX5_tryLine : ByteArray := prog_1_method_30_code
def yX5_tryLine : MethodName := ⟨RX5, "tryLine", "(II)V"⟩
abbrev cX5_tried : ByteArray := prog_1_method_31_code
def yX5_tried : MethodName := ⟨RX5, "tried", "(I)I"⟩
abbrev cX5_fasterWay : ByteArray := prog_1_method_32_code
def yX5_fasterWay : MethodName := ⟨RX5, "fasterWay", "(I)I"⟩
abbrev cX5_mixedDots : ByteArray := prog_1_method_33_code
def yX5_mixedDots : MethodName := ⟨RX5, "mixedDots", "(J)J"⟩
abbrev cX5_mixedStrip : ByteArray := prog_1_method_34_code
def yX5_mixedStrip : MethodName := ⟨RX5, "mixedStrip", "(J)J"⟩
abbrev cX5_mixedTrials : ByteArray := prog_1_method_35_code
def yX5_mixedTrials : MethodName := ⟨RX5, "mixedTrials", "(J)J"⟩
abbrev cX5_mixedBuffer : ByteArray := prog_1_method_36_code
def yX5_mixedBuffer : MethodName := ⟨RX5, "mixedBuffer", "(J)J"⟩
abbrev cX5_mixed : ByteArray := prog_1_method_37_code
def yX5_mixed : MethodName := ⟨RX5, "mixed", "(JJ)J"⟩
abbrev cX5_bitsOfDouble : ByteArray := prog_1_method_38_code
def yX5_bitsOfDouble : MethodName := ⟨RX5, "bitsOfDouble", "(D)J"⟩
abbrev cX5_bitsOfFloat : ByteArray := prog_1_method_39_code
def yX5_bitsOfFloat : MethodName := ⟨RX5, "bitsOfFloat", "(F)I"⟩
abbrev cX5_isWithin : ByteArray := prog_1_method_40_code
def yX5_isWithin : MethodName := ⟨RX5, "isWithin", "(III)Z"⟩
abbrev cX5_isLine : ByteArray := prog_1_method_41_code
def yX5_isLine : MethodName := ⟨RX5, "isLine", "(I)Z"⟩
abbrev cX5_isDot : ByteArray := prog_1_method_42_code
def yX5_isDot : MethodName := ⟨RX5, "isDot", "(I)Z"⟩
abbrev cX5_bitOf : ByteArray := prog_1_method_43_code
def yX5_bitOf : MethodName := ⟨RX5, "bitOf", "(II)I"⟩
abbrev cX5_at : ByteArray := prog_1_method_44_code
def yX5_at : MethodName := ⟨RX5, "at", "([II)I"⟩
abbrev cX5_put : ByteArray := prog_1_method_45_code
def yX5_put : MethodName := ⟨RX5, "put", "([III)V"⟩
abbrev cX5_copyRow : ByteArray := prog_1_method_46_code
def yX5_copyRow : MethodName := ⟨RX5, "copyRow", "([I[I)V"⟩
def RX6 : String := "HeadDotsModel"
def TX6 : u_T := fun k => match k with
  | 0 => ("HeadDotsModel", "row", "[I", true)
  | 1 => ("HeadDotsModel", "saved", "[I", true)
  | 2 => ("HeadDotsModel", "savedMany", "I", false)
  | 3 => ("HeadDotsModel", "snapshot", "[I", true)
  | 4 => ("HeadDotsModel", "isKept", "Z", false)
  | 5 => ("HeadDotsModel", "aside", "[I", true)
  | 6 => ("HeadDotsModel", "thrown", "I", false)
  | 7 => ("HeadDotsModel", "waits", "I", false)
  | 8 => ("HeadDotsModel", "dark", "I", false)
  | 9 => ("HeadDotsModel", "hottest", "I", false)
  | 10 => ("HeadDotsModel", "buffer", "[I", true)
  | 11 => ("HeadDotsModel", "length", "I", false)
  | 12 => ("HeadDotsModel", "spot", "I", false)
  | 13 => ("HeadDotsModel", "parts", "I", false)
  | 14 => ("HeadDotsModel", "kind", "[I", true)
  | 15 => ("HeadDotsModel", "what", "[I", true)
  | 16 => ("HeadDotsModel", "times", "[I", true)
  | _ => ("HeadDotsModel", "hash", "J", false)
def tyX6 : Nat → FieldType := fun k => match k with
  | 0 => .array .int
  | 1 => .array .int
  | 2 => .int
  | 3 => .array .int
  | 4 => .boolean
  | 5 => .array .int
  | 6 => .int
  | 7 => .int
  | 8 => .int
  | 9 => .int
  | 10 => .array .int
  | 11 => .int
  | 12 => .int
  | 13 => .int
  | 14 => .array .int
  | 15 => .array .int
  | 16 => .array .int
  | _ => .long
abbrev wsX60 : List Cond := u_ws RX6 TX6 18
theorem nmX6 : ∀ a, a < 18 → ∀ b, b < 18 → a ≠ b → (TX6 a).2.1 ≠ (TX6 b).2.1 := by decide +kernel
theorem tyX6_ok : ∀ k, k < 18 → parseFieldDescriptor (TX6 k).2.2.1 = some (tyX6 k) := by decide +kernel
abbrev cX6_init : ByteArray := prog_8_method_1_code
def yX6_init : MethodName := ⟨RX6, "<init>", "()V"⟩
abbrev cX6_thrown : ByteArray := prog_8_method_2_code
def yX6_thrown : MethodName := ⟨RX6, "thrown", "()I"⟩
abbrev cX6_fails : ByteArray := prog_8_method_3_code
def yX6_fails : MethodName := ⟨RX6, "fails", "(I)I"⟩
abbrev cX6_in : ByteArray := prog_8_method_4_code
def yX6_in : MethodName := ⟨RX6, "in", "(III)Z"⟩
abbrev cX6_isLine : ByteArray := prog_8_method_5_code
def yX6_isLine : MethodName := ⟨RX6, "isLine", "(I)Z"⟩
abbrev cX6_save : ByteArray := prog_8_method_6_code
def yX6_save : MethodName := ⟨RX6, "save", "()V"⟩
abbrev cX6_putAside : ByteArray := prog_8_method_7_code
def yX6_putAside : MethodName := ⟨RX6, "putAside", "()V"⟩
abbrev cX6_putBack : ByteArray := prog_8_method_8_code
def yX6_putBack : MethodName := ⟨RX6, "putBack", "()V"⟩
abbrev cX6_undo : ByteArray := prog_8_method_9_code
def yX6_undo : MethodName := ⟨RX6, "undo", "()I"⟩
abbrev cX6_keep : ByteArray := prog_8_method_10_code
def yX6_keep : MethodName := ⟨RX6, "keep", "()I"⟩
abbrev cX6_restore : ByteArray := prog_8_method_11_code
def yX6_restore : MethodName := ⟨RX6, "restore", "()I"⟩
abbrev cX6_cooled : ByteArray := prog_8_method_12_code
def yX6_cooled : MethodName := ⟨RX6, "cooled", "(I)I"⟩
abbrev cX6_pass : ByteArray := prog_8_method_13_code
def yX6_pass : MethodName := ⟨RX6, "pass", "(I)V"⟩
abbrev cX6_bit : ByteArray := prog_8_method_14_code
def yX6_bit : MethodName := ⟨RX6, "bit", "(II)I"⟩
abbrev cX6_pulseBy : ByteArray := prog_8_method_15_code
def yX6_pulseBy : MethodName := ⟨RX6, "pulseBy", "(III)I"⟩
abbrev cX6_pulse : ByteArray := prog_8_method_16_code
def yX6_pulse : MethodName := ⟨RX6, "pulse", "(II)I"⟩
abbrev cX6_darkHeat : ByteArray := prog_8_method_17_code
def yX6_darkHeat : MethodName := ⟨RX6, "darkHeat", "()I"⟩
abbrev cX6_ones : ByteArray := prog_8_method_18_code
def yX6_ones : MethodName := ⟨RX6, "ones", "(I)I"⟩
abbrev cX6_atOnce : ByteArray := prog_8_method_19_code
def yX6_atOnce : MethodName := ⟨RX6, "atOnce", "()I"⟩
abbrev cX6_partsOf : ByteArray := prog_8_method_20_code
def yX6_partsOf : MethodName := ⟨RX6, "partsOf", "(I)I"⟩
abbrev cX6_dotsOfPart : ByteArray := prog_8_method_21_code
def yX6_dotsOfPart : MethodName := ⟨RX6, "dotsOfPart", "(II)I"⟩
abbrev cX6_isCool : ByteArray := prog_8_method_22_code
def yX6_isCool : MethodName := ⟨RX6, "isCool", "(II)Z"⟩
abbrev cX6_printPart : ByteArray := prog_8_method_23_code
def yX6_printPart : MethodName := ⟨RX6, "printPart", "(II)I"⟩
abbrev cX6_keepLine : ByteArray := prog_8_method_24_code
def yX6_keepLine : MethodName := ⟨RX6, "keepLine", "(II)V"⟩
abbrev cX6_printLine : ByteArray := prog_8_method_25_code
def yX6_printLine : MethodName := ⟨RX6, "printLine", "(I)I"⟩
abbrev cX6_sum : ByteArray := prog_8_method_26_code
def yX6_sum : MethodName := ⟨RX6, "sum", "(I)I"⟩
abbrev cX6_hottestNow : ByteArray := prog_8_method_27_code
def yX6_hottestNow : MethodName := ⟨RX6, "hottestNow", "()I"⟩
abbrev cX6_line : ByteArray := prog_8_method_28_code
def yX6_line : MethodName := ⟨RX6, "line", "(I)I"⟩
abbrev cX6_printSome : ByteArray := prog_8_method_29_code
def yX6_printSome : MethodName := ⟨RX6, "printSome", "(II)I"⟩
abbrev cX6_lines : ByteArray := prog_8_method_30_code
def yX6_lines : MethodName := ⟨RX6, "lines", "(II)I"⟩
abbrev cX6_rest : ByteArray := prog_8_method_31_code
def yX6_rest : MethodName := ⟨RX6, "rest", "(I)I"⟩
abbrev cX6_paperNow : ByteArray := prog_8_method_32_code
def yX6_paperNow : MethodName := ⟨RX6, "paperNow", "(I)I"⟩
abbrev cX6_paper : ByteArray := prog_8_method_33_code
def yX6_paper : MethodName := ⟨RX6, "paper", "(I)I"⟩
abbrev cX6_maySet : ByteArray := prog_8_method_34_code
def yX6_maySet : MethodName := ⟨RX6, "maySet", "(II)Z"⟩
abbrev cX6_set : ByteArray := prog_8_method_35_code
def yX6_set : MethodName := ⟨RX6, "set", "(II)I"⟩
abbrev cX6_append : ByteArray := prog_8_method_36_code
def yX6_append : MethodName := ⟨RX6, "append", "(I)I"⟩
abbrev cX6_clearBuffer : ByteArray := prog_8_method_37_code
def yX6_clearBuffer : MethodName := ⟨RX6, "clearBuffer", "()I"⟩
abbrev cX6_sign : ByteArray := prog_8_method_38_code
def yX6_sign : MethodName := ⟨RX6, "sign", "()I"⟩
abbrev cX6_takes : ByteArray := prog_8_method_39_code
def yX6_takes : MethodName := ⟨RX6, "takes", "(I)Z"⟩
abbrev cX6_takesFour : ByteArray := prog_8_method_40_code
def yX6_takesFour : MethodName := ⟨RX6, "takesFour", "(IIII)Z"⟩
abbrev cX6_addPart : ByteArray := prog_8_method_41_code
def yX6_addPart : MethodName := ⟨RX6, "addPart", "(III)Z"⟩
abbrev cX6_readNumber : ByteArray := prog_8_method_42_code
def yX6_readNumber : MethodName := ⟨RX6, "readNumber", "(I)I"⟩
abbrev cX6_readLine : ByteArray := prog_8_method_43_code
def yX6_readLine : MethodName := ⟨RX6, "readLine", "()Z"⟩
abbrev cX6_readPaper : ByteArray := prog_8_method_44_code
def yX6_readPaper : MethodName := ⟨RX6, "readPaper", "()Z"⟩
abbrev cX6_readRest : ByteArray := prog_8_method_45_code
def yX6_readRest : MethodName := ⟨RX6, "readRest", "()Z"⟩
abbrev cX6_readPart : ByteArray := prog_8_method_46_code
def yX6_readPart : MethodName := ⟨RX6, "readPart", "()Z"⟩
abbrev cX6_arePrints : ByteArray := prog_8_method_47_code
def yX6_arePrints : MethodName := ⟨RX6, "arePrints", "()Z"⟩
abbrev cX6_firstError : ByteArray := prog_8_method_48_code
def yX6_firstError : MethodName := ⟨RX6, "firstError", "()I"⟩
abbrev cX6_print : ByteArray := prog_8_method_49_code
def yX6_print : MethodName := ⟨RX6, "print", "()I"⟩
abbrev cX6_toldAt : ByteArray := prog_8_method_50_code
def yX6_toldAt : MethodName := ⟨RX6, "toldAt", "(II)I"⟩
abbrev cX6_told : ByteArray := prog_8_method_51_code
def yX6_told : MethodName := ⟨RX6, "told", "(II)I"⟩
abbrev cX6_waitOf : ByteArray := prog_8_method_52_code
def yX6_waitOf : MethodName := ⟨RX6, "waitOf", "(I)I"⟩
abbrev cX6_ofDot : ByteArray := prog_8_method_53_code
def yX6_ofDot : MethodName := ⟨RX6, "ofDot", "(II)I"⟩
abbrev cX6_dot : ByteArray := prog_8_method_54_code
def yX6_dot : MethodName := ⟨RX6, "dot", "(II)I"⟩
abbrev cX6_kept : ByteArray := prog_8_method_55_code
def yX6_kept : MethodName := ⟨RX6, "kept", "(II)I"⟩
abbrev cX6_number : ByteArray := prog_8_method_56_code
def yX6_number : MethodName := ⟨RX6, "number", "(I)I"⟩
abbrev cX6_count : ByteArray := prog_8_method_57_code
def yX6_count : MethodName := ⟨RX6, "count", "(I)I"⟩
abbrev cX6_wouldBring : ByteArray := prog_8_method_58_code
def yX6_wouldBring : MethodName := ⟨RX6, "wouldBring", "(II)I"⟩
abbrev cX6_ifPrinted : ByteArray := prog_8_method_59_code
def yX6_ifPrinted : MethodName := ⟨RX6, "ifPrinted", "(II)I"⟩
abbrev cX6_better : ByteArray := prog_8_method_60_code
def yX6_better : MethodName := ⟨RX6, "better", "(I)I"⟩
abbrev cX6_betterWay : ByteArray := prog_8_method_61_code
def yX6_betterWay : MethodName := ⟨RX6, "betterWay", "(I)I"⟩
abbrev cX6_timeToCool : ByteArray := prog_8_method_62_code
def yX6_timeToCool : MethodName := ⟨RX6, "timeToCool", "(I)I"⟩
abbrev cX6_coolIn : ByteArray := prog_8_method_63_code
def yX6_coolIn : MethodName := ⟨RX6, "coolIn", "(I)I"⟩
abbrev cX6_isDarkBy : ByteArray := prog_8_method_64_code
def yX6_isDarkBy : MethodName := ⟨RX6, "isDarkBy", "(II)Z"⟩
abbrev cX6_leastDark : ByteArray := prog_8_method_65_code
def yX6_leastDark : MethodName := ⟨RX6, "leastDark", "(I)I"⟩
abbrev cX6_darkFrom : ByteArray := prog_8_method_66_code
def yX6_darkFrom : MethodName := ⟨RX6, "darkFrom", "(I)I"⟩
abbrev cX6_share : ByteArray := prog_8_method_67_code
def yX6_share : MethodName := ⟨RX6, "share", "()D"⟩
abbrev cX6_darkness : ByteArray := prog_8_method_68_code
def yX6_darkness : MethodName := ⟨RX6, "darkness", "()D"⟩
abbrev cX6_mean : ByteArray := prog_8_method_69_code
def yX6_mean : MethodName := ⟨RX6, "mean", "()F"⟩
abbrev cX6_meanHeat : ByteArray := prog_8_method_70_code
def yX6_meanHeat : MethodName := ⟨RX6, "meanHeat", "()F"⟩
abbrev cX6_mix : ByteArray := prog_8_method_71_code
def yX6_mix : MethodName := ⟨RX6, "mix", "(J)V"⟩
abbrev cX6_mixStrip : ByteArray := prog_8_method_72_code
def yX6_mixStrip : MethodName := ⟨RX6, "mixStrip", "()V"⟩
abbrev cX6_digest : ByteArray := prog_8_method_73_code
def yX6_digest : MethodName := ⟨RX6, "digest", "()J"⟩
def RJxe99ae : String := "java/lang/Double"
def TJxe99ae : u_T := fun k => match k with
  | _ => ("", "", "", false)
def tyJxe99ae : Nat → FieldType := fun k => match k with
  | _ => .int
abbrev wsJxe99ae0 : List Cond := u_ws RJxe99ae TJxe99ae 0
theorem nmJxe99ae : ∀ a, a < 0 → ∀ b, b < 0 → a ≠ b → (TJxe99ae a).2.1 ≠ (TJxe99ae b).2.1 := by decide +kernel
theorem tyJxe99ae_ok : ∀ k, k < 0 → parseFieldDescriptor (TJxe99ae k).2.2.1 = some (tyJxe99ae k) := by decide +kernel
abbrev cJxe99ae_isNaN_b9ae7 : ByteArray := prog_9_method_6_code
def yJxe99ae_isNaN_b9ae7 : MethodName := ⟨RJxe99ae, "isNaN", "(D)Z"⟩
abbrev cJxe99ae_doubleToLongBits_ccdee : ByteArray := prog_9_method_23_code
def yJxe99ae_doubleToLongBits_ccdee : MethodName := ⟨RJxe99ae, "doubleToLongBits", "(D)J"⟩
def RJxf58ca : String := "java/lang/Float"
def TJxf58ca : u_T := fun k => match k with
  | _ => ("", "", "", false)
def tyJxf58ca : Nat → FieldType := fun k => match k with
  | _ => .int
abbrev wsJxf58ca0 : List Cond := u_ws RJxf58ca TJxf58ca 0
theorem nmJxf58ca : ∀ a, a < 0 → ∀ b, b < 0 → a ≠ b → (TJxf58ca a).2.1 ≠ (TJxf58ca b).2.1 := by decide +kernel
theorem tyJxf58ca_ok : ∀ k, k < 0 → parseFieldDescriptor (TJxf58ca k).2.2.1 = some (tyJxf58ca k) := by decide +kernel
abbrev cJxf58ca_isNaN_12338 : ByteArray := prog_11_method_6_code
def yJxf58ca_isNaN_12338 : MethodName := ⟨RJxf58ca, "isNaN", "(F)Z"⟩
abbrev cJxf58ca_floatToIntBits_5c35a : ByteArray := prog_11_method_24_code
def yJxf58ca_floatToIntBits_5c35a : MethodName := ⟨RJxf58ca, "floatToIntBits", "(F)I"⟩
def RJ6 : String := "java/lang/Integer"
def TJ6 : u_T := fun k => match k with
  | _ => ("", "", "", false)
def tyJ6 : Nat → FieldType := fun k => match k with
  | _ => .int
abbrev wsJ60 : List Cond := u_ws RJ6 TJ6 0
theorem nmJ6 : ∀ a, a < 0 → ∀ b, b < 0 → a ≠ b → (TJ6 a).2.1 ≠ (TJ6 b).2.1 := by decide +kernel
theorem tyJ6_ok : ∀ k, k < 0 → parseFieldDescriptor (TJ6 k).2.2.1 = some (tyJ6 k) := by decide +kernel
abbrev cJ6_bitCount_0f7a4 : ByteArray := prog_15_method_49_code
def yJ6_bitCount_0f7a4 : MethodName := ⟨RJ6, "bitCount", "(I)I"⟩
def RJ9 : String := "java/lang/Math"
def TJ9 : u_T := fun k => match k with
  | _ => ("", "", "", false)
def tyJ9 : Nat → FieldType := fun k => match k with
  | _ => .int
abbrev wsJ90 : List Cond := u_ws RJ9 TJ9 0
theorem nmJ9 : ∀ a, a < 0 → ∀ b, b < 0 → a ≠ b → (TJ9 a).2.1 ≠ (TJ9 b).2.1 := by decide +kernel
theorem tyJ9_ok : ∀ k, k < 0 → parseFieldDescriptor (TJ9 k).2.2.1 = some (tyJ9 k) := by decide +kernel
abbrev cJ9_max_7cf53 : ByteArray := prog_16_method_65_code
def yJ9_max_7cf53 : MethodName := ⟨RJ9, "max", "(II)I"⟩
abbrev cJ9_min_7cf53 : ByteArray := prog_16_method_69_code
def yJ9_min_7cf53 : MethodName := ⟨RJ9, "min", "(II)I"⟩
def RJ0 : String := "java/lang/String"
def TJ0 : u_T := fun k => match k with
  | _ => ("", "", "", false)
def tyJ0 : Nat → FieldType := fun k => match k with
  | _ => .int
abbrev wsJ00 : List Cond := u_ws RJ0 TJ0 0
theorem nmJ0 : ∀ a, a < 0 → ∀ b, b < 0 → a ≠ b → (TJ0 a).2.1 ≠ (TJ0 b).2.1 := by decide +kernel
theorem tyJ0_ok : ∀ k, k < 0 → parseFieldDescriptor (TJ0 k).2.2.1 = some (tyJ0 k) := by decide +kernel
abbrev cJ0_length_8abf5 : ByteArray := prog_18_method_54_code
def yJ0_length_8abf5 : MethodName := ⟨RJ0, "length", "()I"⟩
abbrev cJ0_charAt_5068e : ByteArray := prog_18_method_56_code
def yJ0_charAt_5068e : MethodName := ⟨RJ0, "charAt", "(I)C"⟩
abbrev cJ0_coder_7d493 : ByteArray := prog_18_method_152_code
def yJ0_coder_7d493 : MethodName := ⟨RJ0, "coder", "()B"⟩
abbrev cJ0_isLatin1_aae02 : ByteArray := prog_18_method_154_code
def yJ0_isLatin1_aae02 : MethodName := ⟨RJ0, "isLatin1", "()Z"⟩
abbrev cJ0_checkIndex_df160 : ByteArray := prog_18_method_155_code
def yJ0_checkIndex_df160 : MethodName := ⟨RJ0, "checkIndex", "(II)V"⟩
def RJ1 : String := "java/lang/StringLatin1"
def TJ1 : u_T := fun k => match k with
  | _ => ("", "", "", false)
def tyJ1 : Nat → FieldType := fun k => match k with
  | _ => .int
abbrev wsJ10 : List Cond := u_ws RJ1 TJ1 0
theorem nmJ1 : ∀ a, a < 0 → ∀ b, b < 0 → a ≠ b → (TJ1 a).2.1 ≠ (TJ1 b).2.1 := by decide +kernel
theorem tyJ1_ok : ∀ k, k < 0 → parseFieldDescriptor (TJ1 k).2.2.1 = some (tyJ1 k) := by decide +kernel
abbrev cJ1_charAt_3b067 : ByteArray := prog_19_method_2_code
def yJ1_charAt_3b067 : MethodName := ⟨RJ1, "charAt", "([BI)C"⟩
def RJ2 : String := "java/lang/StringUTF16"
def TJ2 : u_T := fun k => match k with
  | _ => ("", "", "", false)
def tyJ2 : Nat → FieldType := fun k => match k with
  | _ => .int
abbrev wsJ20 : List Cond := u_ws RJ2 TJ2 0
theorem nmJ2 : ∀ a, a < 0 → ∀ b, b < 0 → a ≠ b → (TJ2 a).2.1 ≠ (TJ2 b).2.1 := by decide +kernel
theorem tyJ2_ok : ∀ k, k < 0 → parseFieldDescriptor (TJ2 k).2.2.1 = some (tyJ2 k) := by decide +kernel
abbrev cJ2_getChar_3b067 : ByteArray := prog_20_method_5_code
def yJ2_getChar_3b067 : MethodName := ⟨RJ2, "getChar", "([BI)C"⟩
abbrev cJ2_length_9d52b : ByteArray := prog_20_method_6_code
def yJ2_length_9d52b : MethodName := ⟨RJ2, "length", "([B)I"⟩
abbrev cJ2_charAt_3b067 : ByteArray := prog_20_method_83_code
def yJ2_charAt_3b067 : MethodName := ⟨RJ2, "charAt", "([BI)C"⟩
abbrev cJ2_checkIndex_2214a : ByteArray := prog_20_method_91_code
def yJ2_checkIndex_2214a : MethodName := ⟨RJ2, "checkIndex", "(I[B)V"⟩
def RJ10 : String := "java/lang/System"
def TJ10 : u_T := fun k => match k with
  | _ => ("", "", "", false)
def tyJ10 : Nat → FieldType := fun k => match k with
  | _ => .int
abbrev wsJ100 : List Cond := u_ws RJ10 TJ10 0
theorem nmJ10 : ∀ a, a < 0 → ∀ b, b < 0 → a ≠ b → (TJ10 a).2.1 ≠ (TJ10 b).2.1 := by decide +kernel
theorem tyJ10_ok : ∀ k, k < 0 → parseFieldDescriptor (TJ10 k).2.2.1 = some (tyJ10 k) := by decide +kernel
def RJ3 : String := "jdk/internal/util/Preconditions"
def TJ3 : u_T := fun k => match k with
  | _ => ("", "", "", false)
def tyJ3 : Nat → FieldType := fun k => match k with
  | _ => .int
abbrev wsJ30 : List Cond := u_ws RJ3 TJ3 0
theorem nmJ3 : ∀ a, a < 0 → ∀ b, b < 0 → a ≠ b → (TJ3 a).2.1 ≠ (TJ3 b).2.1 := by decide +kernel
theorem tyJ3_ok : ∀ k, k < 0 → parseFieldDescriptor (TJ3 k).2.2.1 = some (tyJ3 k) := by decide +kernel
abbrev cJ3_checkIndex_8e157 : ByteArray := prog_23_method_11_code
def yJ3_checkIndex_8e157 : MethodName := ⟨RJ3, "checkIndex", "(IILjava/util/function/BiFunction;)I"⟩
def RL : String := "HeadDotsLaw"
abbrev cL_line : ByteArray := method_3_code
def yL_line : MethodName := ⟨RL, "line", "(LHeadDots;I[J)I"⟩
abbrev cL_lines : ByteArray := method_4_code
def yL_lines : MethodName := ⟨RL, "lines", "(LHeadDots;II[J)I"⟩
abbrev cL_rest : ByteArray := method_5_code
def yL_rest : MethodName := ⟨RL, "rest", "(LHeadDots;I[J)I"⟩
abbrev cL_paper : ByteArray := method_6_code
def yL_paper : MethodName := ⟨RL, "paper", "(LHeadDots;I[J)I"⟩
abbrev cL_set : ByteArray := method_7_code
def yL_set : MethodName := ⟨RL, "set", "(LHeadDots;II[J)I"⟩
abbrev cL_append : ByteArray := method_8_code
def yL_append : MethodName := ⟨RL, "append", "(LHeadDots;I[J)I"⟩
abbrev cL_print : ByteArray := method_9_code
def yL_print : MethodName := ⟨RL, "print", "(LHeadDots;[J)I"⟩
abbrev cL_told : ByteArray := method_10_code
def yL_told : MethodName := ⟨RL, "told", "(LHeadDots;II[J)I"⟩
abbrev cL_undo : ByteArray := method_11_code
def yL_undo : MethodName := ⟨RL, "undo", "(LHeadDots;[J)I"⟩
abbrev cL_restore : ByteArray := method_12_code
def yL_restore : MethodName := ⟨RL, "restore", "(LHeadDots;[J)I"⟩
abbrev cL_dot : ByteArray := method_13_code
def yL_dot : MethodName := ⟨RL, "dot", "(LHeadDots;II[J)I"⟩
abbrev cL_kept : ByteArray := method_14_code
def yL_kept : MethodName := ⟨RL, "kept", "(LHeadDots;II[J)I"⟩
abbrev cL_count : ByteArray := method_15_code
def yL_count : MethodName := ⟨RL, "count", "(LHeadDots;I[J)I"⟩
abbrev cL_ifPrinted : ByteArray := method_16_code
def yL_ifPrinted : MethodName := ⟨RL, "ifPrinted", "(LHeadDots;II[J)I"⟩
abbrev cL_betterWay : ByteArray := method_17_code
def yL_betterWay : MethodName := ⟨RL, "betterWay", "(LHeadDots;I[J)I"⟩
abbrev cL_coolIn : ByteArray := method_18_code
def yL_coolIn : MethodName := ⟨RL, "coolIn", "(LHeadDots;I[J)I"⟩
abbrev cL_darkFrom : ByteArray := method_19_code
def yL_darkFrom : MethodName := ⟨RL, "darkFrom", "(LHeadDots;I[J)I"⟩
abbrev cL_law : ByteArray := code
def yL_law : MethodName := ⟨RL, "law", "([I)Z"⟩
abbrev vwCl : List vw_C := [(RX0, TX0, 2), (RX1, TX1, 10), (RX2, TX2, 8), (RX3, TX3, 4), (RX4, TX4, 9), (RX5, TX5, 8), (RX6, TX6, 18)]
end
section
theorem bw_good {w : Cond} (h : w ∈ bigW) : (w.onTables && w.keeps) = true ∨ ∃ ty, w = .arrayClass ty := good_of_word (List.mem_filter.mp h).2
theorem bw_gi {x y : Cond} (h : y ∈ bigW) : GoodIn (x :: bigW) (y :: bigW) := fun w hw => by
  rcases List.mem_cons.mp hw with e | e
  · subst e; exact ⟨List.mem_cons_of_mem _ h, bw_good h⟩
  · exact ⟨List.mem_cons_of_mem _ e, bw_good e⟩
def nestF : List (String × Nat × String × String × String × String) := [(RX2, 18, RX5, "SETTING_FIRST", "[I", "HeadDots"), (RX2, 67, RX3, "size", "I", "HeadDots"), (RX5, 101, RX3, "size", "I", "HeadDots"), (RX2, 166, RX4, "dotsOf", "[I", "HeadDots"), (RX2, 169, RX4, "faintOf", "[I", "HeadDots"), (RX2, 74, RX4, "time", "I", "HeadDots"), (RX5, 283, RX4, "time", "I", "HeadDots"), (RX5, 158, RX4, "lines", "I", "HeadDots"), (RX5, 285, RX4, "parts", "I", "HeadDots"), (RX2, 100, RX4, "waits", "I", "HeadDots"), (RX5, 288, RX4, "waits", "I", "HeadDots"), (RX5, 291, RX4, "dots", "I", "HeadDots"), (RX5, 76, RX4, "faint", "I", "HeadDots"), (RX2, 130, RX4, "hottest", "I", "HeadDots"), (RX5, 295, RX4, "hottest", "I", "HeadDots"), (RX5, 97, RX2, "strip", "LHeadDots$Strip;", "HeadDots"), (RX5, 72, RX2, "totals", "LHeadDots$Totals;", "HeadDots"), (RX5, 298, RX2, "paperKind", "I", "HeadDots"), (RX1, 48, RX0, "length", "I", "HeadDots"), (RX5, 146, RX0, "length", "I", "HeadDots"), (RX5, 267, RX1, "kind", "I", "HeadDots"), (RX5, 270, RX1, "dots", "I", "HeadDots"), (RX5, 280, RX1, "paperKind", "I", "HeadDots"), (RX5, 272, RX1, "number", "I", "HeadDots"), (RX2, 137, RX5, "PAPER_PULSE", "[I", "HeadDots"), (RX2, 140, RX5, "PAPER_DARK", "[I", "HeadDots"), (RX2, 153, RX5, "SETTING_MOST", "[I", "HeadDots"), (RX2, 156, RX5, "SETTING_LEAST", "[I", "HeadDots")]
def nestM : List (String × Nat × MethodName × String) := [(RX2, 24, yX5_copyRow, "HeadDots"), (RX0, 23, yX5_at, "HeadDots"), (RX1, 124, yX5_isWithin, "HeadDots"), (RX3, 25, yX5_copyRow, "HeadDots"), (RX4, 40, yX5_copyRow, "HeadDots"), (RX2, 59, yX5_at, "HeadDots"), (RX2, 124, yX5_bitOf, "HeadDots"), (RX3, 43, yX5_at, "HeadDots"), (RX3, 54, yX5_bitOf, "HeadDots"), (RX2, 63, yX5_put, "HeadDots"), (RX3, 39, yX5_put, "HeadDots"), (RX4, 54, yX5_bitOf, "HeadDots"), (RX0, 17, yX5_put, "HeadDots")]
/-- the classes, the classes of the arrays (int, long, State), where the law begins to make, the addresses of what lies below -/
abbrev GT : Type := va_G × (Nat → ClassId) × Nat × (Nat → Nat)
abbrev gI (G : GT) : ClassId := G.2.1 0
abbrev gJ (G : GT) : ClassId := G.2.1 1
abbrev gR (G : GT) : ClassId := G.2.1 2
abbrev gL (G : GT) : Nat := G.2.2.1
abbrev gA (G : GT) : Nat → Nat := G.2.2.2
def gT (G : GT) : List (ClassId × FieldType) := [(gI G, .int), (gJ G, .long), (gR G, .object "HeadDots$State")]
def lowA (G : GT) : Nat → Prop := fun q => gL G ≤ q
abbrev PW (G : GT) (ws : va_W) (H : Heap) : Prop := va_P G.1 vwCl ws H
def stNm : Nat → String := fun k => match k with
  | 0 => "SETTING_FIRST"
  | 1 => "SETTING_LEAST"
  | 2 => "SETTING_MOST"
  | 3 => "PAPER_PULSE"
  | 4 => "PAPER_DARK"
  | _ => ""
def stLn : Nat → Nat := fun k => match k with
  | 0 => 7
  | 1 => 7
  | 2 => 7
  | 3 => 3
  | 4 => 3
  | _ => 0
def st0 : Nat → Int32 := fun j => ([120, 40, 500, 8, 100, 0, 5] : List Int32).getD j 0
def st1 : Nat → Int32 := fun j => ([50, 5, 330, 1, 1, 0, 0] : List Int32).getD j 0
def st2 : Nat → Int32 := fun j => ([300, 200, 900, 20, 200, 1, 50] : List Int32).getD j 0
def st3 : Nat → Int32 := fun j => ([0, (-15), 25] : List Int32).getD j 0
def st4 : Nat → Int32 := fun j => ([110, 90, 150] : List Int32).getD j 0
def stFn : Nat → Nat → Int32 := fun k => match k with
  | 0 => st0
  | 1 => st1
  | 2 => st2
  | 3 => st3
  | 4 => st4
  | _ => fun _ => 0
def wLen : List Nat := [0, 4, 6, 4, 5, 5, 4, 5]
def wByt : List (List Int32) := [[], [108, 105, 110, 101], [112, 97, 112, 101, 114, 58], [114, 101, 115, 116], [101, 109, 112, 116, 121], [112, 108, 97, 105, 110], [102, 105, 110, 101], [108, 97, 98, 101, 108]]
def wIx : Nat → Nat := fun k => match k with
  | 0 => 9
  | 1 => 83
  | 2 => 89
  | 3 => 91
  | 4 => 93
  | 5 => 95
  | 6 => 101
  | 7 => 103
  | _ => 0
def wTx : Nat → String := fun k => match k with
  | 0 => ""
  | 1 => "line"
  | 2 => "paper:"
  | 3 => "rest"
  | 4 => "empty"
  | 5 => "plain"
  | 6 => "fine"
  | 7 => "label"
  | _ => ""
def xIx : Nat → Nat := fun k => match k with
  | 0 => 54
  | 1 => 70
  | 2 => 85
  | 3 => 95
  | 4 => 111
  | 5 => 125
  | 6 => 132
  | 7 => 140
  | 8 => 156
  | 9 => 173
  | 10 => 179
  | 11 => 189
  | 12 => 194
  | 13 => 196
  | 14 => 201
  | 15 => 209
  | 16 => 220
  | _ => 0
def xTx : Nat → String := fun k => match k with
  | 0 => "dots"
  | 1 => "dots or times"
  | 2 => "time"
  | 3 => "paper"
  | 4 => "setting"
  | 5 => "value"
  | 6 => "code"
  | 7 => "the buffer is full"
  | 8 => "the buffer is not complete"
  | 9 => "back or index"
  | 10 => "no saved state"
  | 11 => "no snapshot"
  | 12 => "dot"
  | 13 => "what"
  | 14 => "back or what"
  | 15 => "dots or what"
  | 16 => "heat"
  | _ => ""
def castX : List String := ["java/lang/IllegalArgumentException", "java/lang/IndexOutOfBoundsException", "java/lang/IllegalStateException"]
def KN (G : GT) (U : State) (H : Heap) : Prop :=
  (va_K G.1 vwCl (gT G) U ∧ gL G ≤ H.size) ∧ ((∀ q ∈ nestF, va_Nw (.fieldLinkNest q.1 q.2.1 q.2.2.1 q.2.2.2.1 q.2.2.2.2.1 q.2.2.2.2.2) U) ∧ (∀ q ∈ nestM, va_Nw (.methodLinkNest q.1 q.2.1 q.2.2.1 q.2.2.2) U)) ∧
  (∀ i, i < 5 → va_Z "HeadDots" (stNm i) "[I" (.ref (gA G i)) (lowA G) U H ∧ va_T .int (gA G i) (stLn i) (fun j => .int (stFn i j)) (lowA G) U H) ∧
  (vk_S 8 wLen wByt (fun i => gA G (10 + i)) (fun i => gA G (20 + i)) (lowA G) U H ∧ (∀ i, i < 8 → vk_R "HeadDots$Reader" (wIx i) (wTx i) (gA G (10 + i)) U) ∧ va_Z "java/lang/String" "COMPACT_STRINGS" "Z" (.int 1) (lowA G) U H) ∧
  ((∀ i, i < 17 → vk_R "HeadDots" (xIx i) (xTx i) (gA G (30 + i)) U) ∧ vx_Zq Bundle.tN "UNASSIGNED_STACK" Bundle.steD (lowA G) U H ∧ vx_Zq Bundle.tN "SUPPRESSED_SENTINEL" Bundle.listD (lowA G) U H) ∧
  ((∀ E ∈ castX, va_Nw (.castable E E) U) ∧ va_Nc "java/lang/IllegalArgumentException" "java/lang/IndexOutOfBoundsException" U ∧ va_Nc "java/lang/IllegalStateException" "java/lang/IllegalArgumentException" U ∧ va_AO "HeadDots$State" U)
theorem KN.warm {G : GT} {s U : State} {H : Heap} (hW : s.WarmedH U.vm) (h : KN G s H) : KN G U H := by
  obtain ⟨⟨a1, a2⟩, ⟨b1, b2⟩, c1, ⟨d1, d2, d3⟩, ⟨e1, e2, e3⟩, f1, f2, f3, f4⟩ := h
  have hv := hW.alike
  exact ⟨⟨va_K.moved hv a1, a2⟩, ⟨fun q hq => va_Nw.warmF hW (b1 q hq), fun q hq => va_Nw.warmM hW (b2 q hq)⟩, fun i hi => ⟨va_Z.moved hv (c1 i hi).1, va_T.moved hv (c1 i hi).2⟩, ⟨vk_S.moved hv d1, fun i hi => vk_R.warm hW (d2 i hi), va_Z.moved hv d3⟩, ⟨fun i hi => vk_R.warm hW (e1 i hi), vx_Zq.moved hv e2, vx_Zq.moved hv e3⟩, fun E hE => va_Nw.warmC hW (f1 E hE), f2.moved hv, f3.moved hv, va_AO.moved hv f4⟩
theorem KN.kept {G : GT} {s : State} {H H1 : Heap} (h : KN G s H) (hz : H.size ≤ H1.size) (hq : ∀ a : Nat, a < H.size → ¬ lowA G a → H1[a]? = H[a]?) : KN G s H1 := by
  obtain ⟨⟨a1, a2⟩, b, c1, ⟨d1, d2, d3⟩, ⟨e1, e2, e3⟩, f⟩ := h
  exact ⟨⟨a1, Nat.le_trans a2 hz⟩, b, fun i hi => ⟨(c1 i hi).1.kept hq, (c1 i hi).2.kept hq⟩, ⟨d1.kept hq, d2, d3.kept hq⟩, ⟨e1, e2.kept hq, e3.kept hq⟩, f⟩
theorem KN.go {G : GT} {s : State} {H0 H : Heap} {A : Nat → Prop} {locs : List Loc} (h : KN G s H0) (hA : ∀ a, A a → gL G ≤ a) (hS : va_S A H0 H locs) : KN G s H := h.kept hS.1 (fun a h1 h2 => hS.2.1 a h1 (fun z => h2 (hA a z)))
theorem KN.calling {G : GT} {U : State} (g : JFrame) (mk : MethodId) (a : Array Value) (h : KN G U U.heap) : KN G (U.calling g mk a) (U.calling g mk a).heap := KN.warm (s := U) (U := U.calling g mk a) (State.WarmedH.refl U) h
theorem KN.k {G : GT} {s : State} {H : Heap} (h : KN G s H) : va_K G.1 vwCl (gT G) s := h.1.1
/-- a picture that the tables' warming leaves as it is -/
def Stb (B : State → Heap → Prop) : Prop := ∀ (s U : State) (H : Heap), s.WarmedH U.vm → B s H → B U H
theorem stb_h (P : Heap → Prop) : Stb (fun _ H => P H) := fun _ _ _ _ h => h
theorem stb_and {B C : State → Heap → Prop} (h1 : Stb B) (h2 : Stb C) : Stb (fun U H => B U H ∧ C U H) := fun s U H hW h => ⟨h1 s U H hW h.1, h2 s U H hW h.2⟩
/-- an int array that is only read -/
def RD (a n : Nat) (f : Nat → Int32) (U : State) (H : Heap) : Prop := va_T .int a n (fun j => .int (f j)) (fun _ => False) U H
theorem stb_RD (a n : Nat) (f : Nat → Int32) : Stb (RD a n f) := fun _ _ _ hW h => va_T.moved hW.alike h
theorem KN.rd {G : GT} {s : State} {H : Heap} (h : KN G s H) (i : Nat) (hi : i < 5) : RD (gA G i) (stLn i) (stFn i) s H := ((h.2.2.1 i hi).2).narrow (fun _ q => q.elim)
theorem RD.ofP {G : GT} {s : State} {H : Heap} {ws : va_W} {a n : Nat} {f : Nat → Int32} (hK : KN G s H) (hP : PW G ws H) (k : Nat) (ha : ws[k]? = some (a, .inl (gI G, n, .inl f))) : RD a n f s H := by
  have h := hP k _ ha
  have hA : s.isArrayOf (arrV (gI G) n (fun j => .int (f j))) .int := (hK.1.1.2 0 _ rfl).1 n _
  refine ⟨_, h, hA, (fun q => by cases q), ?_, ?_, ?_, id⟩
  · show n ≤ (arrV _ _ _).slots.size
    rw [arrV_size]; exact Nat.le_refl _
  · show (arrV _ _ _).slots.size.toInt32 = _
    rw [arrV_size]
  · intro j hj
    show (arrV _ _ _).slots[j]? = _
    rw [arrV_read _ _ hj]
/-- a method's start: the arguments, what lies below, a picture of the heap -/
abbrev BP (G : GT) (av : List Value) (B : State → Heap → Prop) : Array Value → State → Prop := va_Pc av (fun U => KN G U U.heap ∧ B U U.heap)
theorem BP.blind {G : GT} {av : List Value} {B : State → Heap → Prop} (hB : Stb B) : FrameBlind (BP G av B) := fun a U g mk h => ⟨h.1, h.2.1.calling g mk a, hB U (U.calling g mk a) _ (State.WarmedH.refl U) h.2.2⟩
/-- a method that writes nothing -/
def QP (F : Value) : Array Value → State → Outcome → State → Prop := fun _ st o t => o = .returned (some F) ∧ t.heap = st.heap
/-- a method that writes in A alone -/
def QE (F : Option Value) (B : Heap → Prop) (A : Nat → Prop) : Array Value → State → Outcome → State → Prop := fun _ st o t => (o = .returned F ∧ B t.heap) ∧ va_F A st t
/-- what stands fast in a body -/
def CX (p : Program) (s : State) (m : MethodId) (meth : Method) (c : Code) (y : MethodName) (cc : ByteArray) (maxL : Nat) (ret : Option FieldType) (av : Array Value) : Prop :=
  p.tables.exec = Jvm.exec ∧ c.code = cc ∧ meth.sig.returnType = ret ∧ c.maxLocals = maxL ∧ s.vm.findClass y.cls = some m.cls ∧ meth.locks = false ∧ (∀ w ∈ bigW, w.before av s = true) ∧ meth.name = y.name
theorem met_of {l : Launch} {y : MethodName} {cc : ByteArray} {maxL : Nat} {ret : Option FieldType} {rm : Room} {G : GT} {av : List Value} {B : State → Heap → Prop} {Qc : Array Value → State → Outcome → State → Prop} {mc ms : Nat} {free : Addr → Prop}
    (hy : plainName y.cls = true) (hn : (lg_sl av).length ≤ maxL)
    (body : ∀ (p : Program) (e : Env) (s : State) (m : MethodId) (below : List Frame) (meth : Method) (c : Code) (ls : Array Slot), CX p s m meth c y cc maxL ret av.toArray → KN G s s.heap → B s s.heap → lv_has ls maxL (lv_args 0 av) → W p l e rm s m av.toArray below meth c s.heap [] 0 0 (MQ below Qc av.toArray s mc ms free) (F0 m 0 ls [])) :
    Met l y (Cond.code y cc maxL ret :: bigW) rm (BP G av B) Qc mc ms free := by
  refine Met.ofW (cc := cc) (maxL := maxL) (ret := ret) hy rfl ?_
  intro p e s m args below meth c s₁ Bd hml hv
  obtain ⟨rfl, hK, hB⟩ := hv
  have hts := atoms_spec (ws := Cond.code y cc maxL ret :: bigW) Bd.pre
  rw [lg_entry_eq]
  exact body p e s m below meth c _ ⟨Bd.exec, Bd.bytes, Bd.returns, hml, findClass_of_methodNamed Bd.named, Bd.notSynchronized, fun w hw => hts w (List.mem_cons_of_mem _ hw), (name_of_methodNamed Bd.named Bd.method).1⟩ hK hB (lv_entry av hn)
/-- a method's words, for those who call it -/
abbrev MW (y : MethodName) (bytes : ByteArray) (maxL : Nat) (ret : Option FieldType) (n : Nat) : Prop :=
  Cond.code y bytes maxL ret ∈ bigW ∧ Cond.initialized y.cls ∈ bigW ∧ y.cls ≠ "java/lang/invoke/MethodHandle" ∧ y.cls ≠ "java/lang/invoke/VarHandle" ∧ (parseMethodDescriptor y.desc).map (fun d => d.parameters.length) = some n
abbrev IW (y : MethodName) : Prop := Cond.instanceMethod y ∈ bigW ∧ Cond.selects y.cls y y ∈ bigW
theorem gi_B {y : MethodName} {bytes : ByteArray} {maxL n : Nat} {ret : Option FieldType} (h : MW y bytes maxL ret n) : GoodIn bigW (Cond.code y bytes maxL ret :: bigW) := fun w hw => by
  rcases List.mem_cons.mp hw with e | e
  · subst e; exact ⟨h.1, bw_good h.1⟩
  · exact ⟨e, bw_good e⟩
section CALLS
variable {p : Program} {l : Launch} {e : Env} {R : Room} {s : State} {m : MethodId} {args : Array Value} {below : List Frame} {meth : Method} {c : Code} {H : Heap} {locs : List Loc} {cells slots : Nat} {Q : State → Prop}
variable {y y0 : MethodName} {bytes cc : ByteArray} {maxL nL mc ms n index : Nat} {ret ret0 : Option FieldType} {rm : Room} {Qc : Array Value → State → Outcome → State → Prop} {free : Addr → Prop} {own host : String} {b : Addr} {As rest st0 : List Value} {pc : Nat} {ls : Array Slot} {G : GT} {B : State → Heap → Prop}
theorem cb_of (hC : CX p s m meth c y0 cc nL ret0 args) (hm : MW y bytes maxL ret n) (hlk : Cond.methodLink own index y ∈ bigW) (hrm : rm.cells = mc ∧ rm.slots = ms) (hR : rm.frames + 1 ≤ R.frames ∧ 8 + (maxL + 11) + rm.locals ≤ R.locals) :
    CallB R s args own index y bytes maxL ret (Cond.code y bytes maxL ret :: bigW) rm mc ms n :=
  callB_of n hC.2.2.2.2.2.2.1 (gi_B hm) rfl hrm.1 hrm.2 (hC.2.2.2.2.2.2.1 _ hm.2.1) (hC.2.2.2.2.2.2.1 _ hlk) hm.2.2 hR
theorem rV (hC : CX p s m meth c y0 cc nL ret0 args) (hm : MW y bytes maxL ret n) (hM : Met l y (Cond.code y bytes maxL ret :: bigW) rm (BP G (.ref b :: As) B) Qc mc ms free) (hi : IW y) (hlk : Cond.methodLink y0.cls index y ∈ bigW) (hrm : rm.cells = mc ∧ rm.slots = ms) (hR : rm.frames + 1 ≤ R.frames ∧ 8 + (maxL + 11) + rm.locals ≤ R.locals)
    (hSt : Stb B) (hKN : KN G s H) (hB : B s H)
    (hrc : ∃ cellB : Cell, H[b]? = some cellB ∧ cellB.vm.isStatics = false ∧ s.vm.findClass y.cls = some cellB.cls)
    (hn : As.length = n) (hls : ls.size = nL) (hst : st0 = As.reverse ++ .ref b :: rest) (hW : (rest.map fun v => v.category).sum ≤ 8) (hdg : decode cc pc = .ok (.invokevirtual index, 3)) (hf : cells + mc ≤ R.cells ∧ slots + ms ≤ R.slots) :
    va_Run p l e R s m args below meth c H locs cells slots mc ms (F0 m pc ls st0) rest (Qc (Value.ref b :: As).toArray) free :=
  va_runV (own := y0.cls) (C := y.cls) (Ts := bigW) ⟨hC.1, hC.2.1, hC.2.2.2.1, hC.2.2.2.2.1, hC.2.2.2.2.2.2.1⟩ hM ⟨cb_of hC hm hlk hrm hR, hC.2.2.2.2.2.2.1 _ hi.1, hC.2.2.2.2.2.2.1 _ hi.2⟩
    ⟨BP.blind hSt, hrc, fun U hU hw => ⟨rfl, by rw [hU]; exact hKN.warm hw, by rw [hU]; exact hSt s U H hw hB⟩⟩ rfl hn hls hst (lv_room hW) hdg hf
theorem rS (hC : CX p s m meth c y0 cc nL ret0 args) (hm : MW y bytes maxL ret n) (hM : Met l y (Cond.code y bytes maxL ret :: bigW) rm (BP G As B) Qc mc ms free) (hi : Cond.static y ∈ bigW) (hlk : Cond.methodLink y0.cls index y ∈ bigW) (hrm : rm.cells = mc ∧ rm.slots = ms) (hR : rm.frames + 1 ≤ R.frames ∧ 8 + (maxL + 11) + rm.locals ≤ R.locals)
    (hSt : Stb B) (hKN : KN G s H) (hB : B s H)
    (hn : As.length = n) (hls : ls.size = nL) (hst : st0 = As.reverse ++ rest) (hW : (rest.map fun v => v.category).sum ≤ 8) (hdg : decode cc pc = .ok (.invokestatic index, 3)) (hf : cells + mc ≤ R.cells ∧ slots + ms ≤ R.slots) :
    va_Run p l e R s m args below meth c H locs cells slots mc ms (F0 m pc ls st0) rest (Qc As.toArray) free :=
  va_runS (own := y0.cls) (Ts := bigW) ⟨hC.1, hC.2.1, hC.2.2.2.1, hC.2.2.2.2.1, hC.2.2.2.2.2.2.1⟩ hM ⟨cb_of hC hm hlk hrm hR, hC.2.2.2.2.2.2.1 _ hi⟩
    ⟨BP.blind hSt, fun U hU hw => ⟨rfl, by rw [hU]; exact hKN.warm hw, by rw [hU]; exact hSt s U H hw hB⟩⟩ rfl hn hls hst (lv_room hW) hdg hf
theorem rSN (hC : CX p s m meth c y0 cc nL ret0 args) (hm : MW y bytes maxL ret n) (hM : Met l y (Cond.code y bytes maxL ret :: bigW) rm (BP G As B) Qc mc ms free) (hi : Cond.static y ∈ bigW) (hlk : va_Nw (.methodLinkNest y0.cls index y host) s) (hrm : rm.cells = mc ∧ rm.slots = ms) (hR : rm.frames + 1 ≤ R.frames ∧ 8 + (maxL + 11) + rm.locals ≤ R.locals)
    (hSt : Stb B) (hKN : KN G s H) (hB : B s H)
    (hn : As.length = n) (hls : ls.size = nL) (hst : st0 = As.reverse ++ rest) (hW : (rest.map fun v => v.category).sum ≤ 8) (hdg : decode cc pc = .ok (.invokestatic index, 3)) (hf : cells + mc ≤ R.cells ∧ slots + ms ≤ R.slots) :
    va_Run p l e R s m args below meth c H locs cells slots mc ms (F0 m pc ls st0) rest (Qc As.toArray) free :=
  va_runSN (own := y0.cls) (Ts := bigW) ⟨hC.1, hC.2.1, hC.2.2.2.1, hC.2.2.2.2.1, hC.2.2.2.2.2.2.1⟩ hM ⟨va_cnB n hC.2.2.2.2.2.2.1 (gi_B hm) rfl hrm.1 hrm.2 hlk (hC.2.2.2.2.2.2.1 _ hm.2.1) hm.2.2 hR, hC.2.2.2.2.2.2.1 _ hi, trivial⟩
    ⟨BP.blind hSt, fun U hU hw => ⟨rfl, by rw [hU]; exact hKN.warm hw, by rw [hU]; exact hSt s U H hw hB⟩⟩ rfl hn hls hst (lv_room hW) hdg hf
theorem runP {F : Value} {a : Array Value} (hr : va_Run p l e R s m args below meth c H locs cells slots 0 0 (F0 m pc ls st0) rest (QP F a) (fun _ => False))
    (kk : W p l e R s m args below meth c H locs cells slots Q (F0 m (pc + 3) ls (F :: rest))) : W p l e R s m args below meth c H locs cells slots Q (F0 m pc ls st0) := by
  intro T hT X
  obtain ⟨v, st₀, t, T', L, h0, X', hL, e1, e2, ⟨hv, hz⟩, st⟩ := hr T hT X
  cases hv
  have hL0 : L = [] := by
    cases L with
    | nil => rfl
    | cons q L => exact absurd (hL q List.mem_cons_self) id
  subst hL0
  rw [List.append_nil] at X'
  obtain ⟨t2, a1, b1⟩ := kk T' (by rw [e1, hz, h0]) X'
  exact ⟨t2, st t2 a1, b1⟩
theorem runE {F : Option Value} {a : Array Value} {B1 : Heap → Prop} {A0 A1 : Nat → Prop} {H0 : Heap} (hr : va_Run p l e R s m args below meth c H locs cells slots mc ms (F0 m pc ls st0) rest (QE F B1 A1 a) free) (hS : va_S A0 H0 H locs) (hA : ∀ q, A1 q → A0 q) (hf : ∀ q, free q → A0 q)
    (kk : ∀ (H1 : Heap) (locs1 : List Loc), B1 H1 → H.size ≤ H1.size → (∀ q : Nat, q < H.size → ¬ A1 q → H1[q]? = H[q]?) → va_S A0 H0 H1 locs1 → W p l e R s m args below meth c H1 locs1 (cells + mc) (slots + ms) Q (F0 m (pc + 3) ls (F.toList ++ rest))) : W p l e R s m args below meth c H locs cells slots Q (F0 m pc ls st0) := by
  intro T hT X
  obtain ⟨v, st₀, t, T', L, h0, X', hL, e1, e2, ⟨⟨hv, hb⟩, hz, hk⟩, st⟩ := hr T hT X
  cases hv
  rw [h0] at hz hk
  obtain ⟨t2, a1, b1⟩ := kk T'.heap (locs ++ L) (by rw [e1]; exact hb) (by rw [e1]; exact hz) (fun q h1 h2 => by rw [e1]; exact hk q h1 h2)
    ⟨Nat.le_trans hS.1 (by rw [e1]; exact hz), fun q h1 h2 => by rw [e1, hk q (Nat.lt_of_lt_of_le h1 hS.1) (fun z => h2 (hA q z))]; exact hS.2.1 q h1 h2, fun q hq => by
      rcases List.mem_append.mp hq with h | h
      · exact hS.2.2 q h
      · exact hf _ (hL q h)⟩ T' rfl X'
  exact ⟨t2, st t2 a1, b1⟩
end CALLS
section ROWS
variable {p : Program} {l : Launch} {e : Env} {R : Room} {s : State} {m : MethodId} {args : Array Value} {below : List Frame} {meth : Method} {c : Code} {H : Heap} {locs : List Loc} {cells slots : Nat} {Q : State → Prop}
variable {y0 : MethodName} {cc : ByteArray} {nL : Nat} {ret0 : Option FieldType} {rest : List Value} {pc : Nat} {ls : Array Slot} {G : GT} {ws : va_W} {A : Nat → Prop} {H0 : Heap} {a : Nat}
theorem iald_k (hC : CX p s m meth c y0 cc nL ret0 args) (hKN : KN G s H) (hP : PW G ws H) (q0 : Nat) {n : Nat} {f : Nat → Int32} (ha : ws[q0]? = some (a, .inl (gI G, n, .inl f))) {i : Int32} (k : Nat) (hi : i = nI k) (hk : k < n) (hn : n < 2 ^ 31) (hdg : decode cc pc = .ok (.iaload, 1))
    (kk : W p l e R s m args below meth c H locs cells slots Q (F0 m (pc + 1) ls (.int (f k) :: rest))) : W p l e R s m args below meth c H locs cells slots Q (F0 m pc ls (.int i :: .ref a :: rest)) := by
  subst hi
  refine va_iald hC.1 hC.2.1 hKN.k hP q0 0 ha rfl (vp_in_nI hk hn) hdg ?_
  rw [nI_clamp (Nat.lt_trans hk hn)]
  exact kk
theorem iald_i (hC : CX p s m meth c y0 cc nL ret0 args) (hKN : KN G s H) (hP : PW G ws H) (q0 : Nat) {n : Nat} {f : Nat → Int32} (ha : ws[q0]? = some (a, .inl (gI G, n, .inl f))) {i : Int32} (hin : vp_in i n) (hdg : decode cc pc = .ok (.iaload, 1))
    (kk : W p l e R s m args below meth c H locs cells slots Q (F0 m (pc + 1) ls (.int (f i.toNatClampNeg) :: rest))) : W p l e R s m args below meth c H locs cells slots Q (F0 m pc ls (.int i :: .ref a :: rest)) :=
  va_iald hC.1 hC.2.1 hKN.k hP q0 0 ha rfl hin hdg kk
theorem alen_n (hC : CX p s m meth c y0 cc nL ret0 args) (hKN : KN G s H) (hP : PW G ws H) (q0 : Nat) {n : Nat} {f : Nat → Int32} (ha : ws[q0]? = some (a, .inl (gI G, n, .inl f))) (hdg : decode cc pc = .ok (.arraylength, 1))
    (kk : W p l e R s m args below meth c H locs cells slots Q (F0 m (pc + 1) ls (.int (nI n) :: rest))) : W p l e R s m args below meth c H locs cells slots Q (F0 m pc ls (.ref a :: rest)) :=
  va_alen hC.1 hC.2.1 hKN.k hP q0 0 ha rfl rfl hdg kk
theorem iast_k (hC : CX p s m meth c y0 cc nL ret0 args) (hKN : KN G s H) (hP : PW G ws H) (hD : va_D A ws) (hS : va_S A H0 H locs) (q0 : Nat) {n : Nat} {f : Nat → Int32} (ha : ws[q0]? = some (a, .inl (gI G, n, .inl f))) {i x : Int32} (k : Nat) (hi : i = nI k) (hk : k < n) (hn : n < 2 ^ 31) (hdg : decode cc pc = .ok (.iastore, 1))
    (kk : ∀ (H1 : Heap) (locs1 : List Loc), PW G (ws.set q0 (a, .inl (gI G, n, .inl (upd f k x)))) H1 → va_S A H0 H1 locs1 → W p l e R s m args below meth c H1 locs1 cells slots Q (F0 m (pc + 1) ls rest)) : W p l e R s m args below meth c H locs cells slots Q (F0 m pc ls (.int x :: .int i :: .ref a :: rest)) := by
  subst hi
  refine va_iast hC.1 hC.2.1 hKN.k hP hD hS q0 0 ha rfl (vp_in_nI hk hn) hdg (fun H1 locs1 h1 _ h3 => ?_)
  rw [nI_clamp (Nat.lt_trans hk hn)] at h1
  exact kk H1 locs1 h1 h3
theorem iast_i (hC : CX p s m meth c y0 cc nL ret0 args) (hKN : KN G s H) (hP : PW G ws H) (hD : va_D A ws) (hS : va_S A H0 H locs) (q0 : Nat) {n : Nat} {f : Nat → Int32} (ha : ws[q0]? = some (a, .inl (gI G, n, .inl f))) {i x : Int32} (hin : vp_in i n) (hdg : decode cc pc = .ok (.iastore, 1))
    (kk : ∀ (H1 : Heap) (locs1 : List Loc), PW G (ws.set q0 (a, .inl (gI G, n, .inl (upd f i.toNatClampNeg x)))) H1 → va_S A H0 H1 locs1 → W p l e R s m args below meth c H1 locs1 cells slots Q (F0 m (pc + 1) ls rest)) : W p l e R s m args below meth c H locs cells slots Q (F0 m pc ls (.int x :: .int i :: .ref a :: rest)) :=
  va_iast hC.1 hC.2.1 hKN.k hP hD hS q0 0 ha rfl hin hdg (fun H1 locs1 h1 _ h3 => kk H1 locs1 h1 h3)
theorem rd_ld (hC : CX p s m meth c y0 cc nL ret0 args) {n : Nat} {f : Nat → Int32} (hR : RD a n f s H) {i : Int32} (hin : vp_in i n) (hdg : decode cc pc = .ok (.iaload, 1))
    (kk : W p l e R s m args below meth c H locs cells slots Q (F0 m (pc + 1) ls (.int (f i.toNatClampNeg) :: rest))) : W p l e R s m args below meth c H locs cells slots Q (F0 m pc ls (.int i :: .ref a :: rest)) := by
  obtain ⟨cell, h1, h2, h3, h4, h5, h6, -⟩ := hR
  have hlt : i.toNatClampNeg < n := Nat.not_le.mp fun q => hin (Or.inr q)
  exact W.iald (v := .int (f i.toNatClampNeg)) hC.1 hC.2.1 h1 h2 h3 (fun q => q.elim (fun z => hin (Or.inl z)) (fun z => hin (Or.inr (Nat.le_trans h4 z)))) (h6 _ hlt) rfl rfl hdg kk
theorem rd_len (hC : CX p s m meth c y0 cc nL ret0 args) {n : Nat} {f : Nat → Int32} (hR : RD a n f s H) (hdg : decode cc pc = .ok (.arraylength, 1))
    (kk : W p l e R s m args below meth c H locs cells slots Q (F0 m (pc + 1) ls (.int (nI n) :: rest))) : W p l e R s m args below meth c H locs cells slots Q (F0 m pc ls (.ref a :: rest)) := by
  obtain ⟨cell, h1, h2, h3, h4, h5, h6, -⟩ := hR
  exact W.alen (n := nI n) hC.1 hC.2.1 h1 h2 h5 rfl rfl hdg kk
theorem gsN (hC : CX p s m meth c y0 cc nL ret0 args) {C n d host : String} {v : Value} {index : Nat} (hZ : va_Z C n d v A s H) (hlink : va_Nw (.fieldLinkNest y0.cls index C n d host) s) (hdg : decode cc pc = .ok (.getstatic index, 3))
    (kk : W p l e R s m args below meth c H locs cells slots Q (F0 m (pc + 3) ls (v :: rest))) : W p l e R s m args below meth c H locs cells slots Q (F0 m pc ls rest) := by
  obtain ⟨cf, kf, fi, f, a, cell, h1, h2, h3, h4, h5, h6, h7, h8⟩ := hZ
  exact va_WgetsN hC.1 hC.2.1 hC.2.2.2.2.1 (va_Nw.use rfl hlink) h1 h2 h3 h4 h5 (fun e => by rw [e] at h6; cases h6) h7 rfl hdg kk
theorem gs (hC : CX p s m meth c y0 cc nL ret0 args) {C n d : String} {v : Value} {index : Nat} (hZ : va_Z C n d v A s H) (hlink : Cond.fieldLink y0.cls index C n d ∈ bigW) (hdg : decode cc pc = .ok (.getstatic index, 3))
    (kk : W p l e R s m args below meth c H locs cells slots Q (F0 m (pc + 3) ls (v :: rest))) : W p l e R s m args below meth c H locs cells slots Q (F0 m pc ls rest) := by
  obtain ⟨cf, kf, fi, f, a, cell, h1, h2, h3, h4, h5, h6, h7, h8⟩ := hZ
  exact W.gets hC.1 hC.2.1 hC.2.2.2.2.1 (hC.2.2.2.2.2.2.1 _ hlink) h1 h2 h3 h4 h5 (fun e => by rw [e] at h6; cases h6) h7 rfl hdg kk
/-- a class of the world: its words in the common list, its types -/
abbrev FW (C : String) (T : u_T) (N : Nat) (ty : Nat → FieldType) : Prop := (∀ w ∈ u_ws C T N, w ∈ bigW) ∧ (∀ k, k < N → parseFieldDescriptor (T k).2.2.1 = some (ty k)) ∧ (∀ a, a < N → ∀ b, b < N → a ≠ b → (T a).2.1 ≠ (T b).2.1)
theorem gf (hC : CX p s m meth c y0 cc nL ret0 args) {C : String} {T : u_T} {N ci index : Nat} {ty : Nat → FieldType} (hw : FW C T N ty) (hKN : KN G s H) (hP : PW G ws H) (q0 : Nat) {fs : List Value} (he : ws[q0]? = some (a, .inr (ci, fs))) (hc : vwCl[ci]? = some (C, T, N)) (k : Nat) (hk : k < N) {fo fn fd : String} {ff : Bool} (hT : T k = (fo, fn, fd, ff)) (hlink : Cond.fieldLink y0.cls index fo fn fd ∈ bigW) {v : Value} (hv : fs[k]? = some v) (hdg : decode cc pc = .ok (.getfield index, 3))
    (kk : W p l e R s m args below meth c H locs cells slots Q (F0 m (pc + 3) ls (v :: rest))) : W p l e R s m args below meth c H locs cells slots Q (F0 m pc ls (.ref a :: rest)) :=
  va_get (ref := fo) (index := index) hC.1 hC.2.1 hC.2.2.2.2.2.2.1 hw.1 hC.2.2.2.2.1 hKN.k hP q0 he hc k hk (by rw [hT]; exact hC.2.2.2.2.2.2.1 _ hlink) (by rw [hT]; exact fun _ h => h) hv hdg kk
theorem gfN (hC : CX p s m meth c y0 cc nL ret0 args) {C host : String} {T : u_T} {N ci index : Nat} {ty : Nat → FieldType} (hw : FW C T N ty) (hKN : KN G s H) (hP : PW G ws H) (q0 : Nat) {fs : List Value} (he : ws[q0]? = some (a, .inr (ci, fs))) (hc : vwCl[ci]? = some (C, T, N)) (k : Nat) (hk : k < N) {fo fn fd : String} {ff : Bool} (hT : T k = (fo, fn, fd, ff)) (hlink : va_Nw (.fieldLinkNest y0.cls index fo fn fd host) s) {v : Value} (hv : fs[k]? = some v) (hdg : decode cc pc = .ok (.getfield index, 3))
    (kk : W p l e R s m args below meth c H locs cells slots Q (F0 m (pc + 3) ls (v :: rest))) : W p l e R s m args below meth c H locs cells slots Q (F0 m pc ls (.ref a :: rest)) :=
  va_getN (host := host) (ref := fo) (index := index) hC.1 hC.2.1 hC.2.2.2.2.2.2.1 hw.1 hC.2.2.2.2.1 hKN.k hP q0 he hc k hk (by rw [hT]; exact va_Nw.use rfl hlink) (by rw [hT]; exact fun _ h => h) hv hdg kk
theorem pf (hC : CX p s m meth c y0 cc nL ret0 args) {C : String} {T : u_T} {N ci index : Nat} {ty : Nat → FieldType} (hw : FW C T N ty) (hKN : KN G s H) (hP : PW G ws H) (hD : va_D A ws) (hS : va_S A H0 H locs) (q0 : Nat) {fs : List Value} (he : ws[q0]? = some (a, .inr (ci, fs))) (hc : vwCl[ci]? = some (C, T, N)) (k : Nat) (hk : k < N) {fo fn fd : String} (hT : T k = (fo, fn, fd, false)) (hlink : Cond.fieldLink y0.cls index fo fn fd ∈ bigW) {v : Value} {tv : FieldType} (ht : ty k = tv) (hn : narrow tv v = v) (hfit : fits tv v = true) (hl : k < fs.length) (hdg : decode cc pc = .ok (.putfield index, 3))
    (kk : ∀ (H1 : Heap) (locs1 : List Loc), PW G (ws.set q0 (a, .inr (ci, fs.set k v))) H1 → va_S A H0 H1 locs1 → W p l e R s m args below meth c H1 locs1 cells slots Q (F0 m (pc + 3) ls rest)) : W p l e R s m args below meth c H locs cells slots Q (F0 m pc ls (v :: .ref a :: rest)) :=
  va_put (ref := fo) (index := index) (ty := tv) hC.1 hC.2.1 hC.2.2.2.2.2.2.1 hw.1 ty hw.2.1 hw.2.2 hC.2.2.2.2.1 hKN.k hP hD hS q0 he hc k hk (by rw [hT]; exact hC.2.2.2.2.2.2.1 _ hlink) (by rw [hT]; exact fun _ h => h) (by rw [hT]) (by rw [hw.2.1 k hk, ht]) hn hfit hl hdg (fun H1 locs1 h1 _ h3 => kk H1 locs1 h1 h3)
theorem pfN (hC : CX p s m meth c y0 cc nL ret0 args) {C host : String} {T : u_T} {N ci index : Nat} {ty : Nat → FieldType} (hw : FW C T N ty) (hKN : KN G s H) (hP : PW G ws H) (hD : va_D A ws) (hS : va_S A H0 H locs) (q0 : Nat) {fs : List Value} (he : ws[q0]? = some (a, .inr (ci, fs))) (hc : vwCl[ci]? = some (C, T, N)) (k : Nat) (hk : k < N) {fo fn fd : String} (hT : T k = (fo, fn, fd, false)) (hlink : va_Nw (.fieldLinkNest y0.cls index fo fn fd host) s) {v : Value} {tv : FieldType} (ht : ty k = tv) (hn : narrow tv v = v) (hfit : fits tv v = true) (hl : k < fs.length) (hdg : decode cc pc = .ok (.putfield index, 3))
    (kk : ∀ (H1 : Heap) (locs1 : List Loc), PW G (ws.set q0 (a, .inr (ci, fs.set k v))) H1 → va_S A H0 H1 locs1 → W p l e R s m args below meth c H1 locs1 cells slots Q (F0 m (pc + 3) ls rest)) : W p l e R s m args below meth c H locs cells slots Q (F0 m pc ls (v :: .ref a :: rest)) :=
  va_putN (host := host) (ref := fo) (index := index) (ty := tv) hC.1 hC.2.1 hC.2.2.2.2.2.2.1 hw.1 ty hw.2.1 hw.2.2 hC.2.2.2.2.1 hKN.k hP hD hS q0 he hc k hk (by rw [hT]; exact va_Nw.use rfl hlink) (by rw [hT]; exact fun _ h => h) (by rw [hT]) (by rw [hw.2.1 k hk, ht]) hn hfit hl hdg (fun H1 locs1 h1 _ h3 => kk H1 locs1 h1 h3)
theorem eP_i {F : Value} {v : Int32} (hC : CX p s m meth c y0 cc nL (some .int) args) (hF : F = .int v) (hdg : decode cc pc = .ok (.ireturn, 1)) : W p l e R s m args below meth c s.heap [] 0 0 (MQ below (QP F) args s 0 0 (fun _ => False)) (F0 m pc ls [.int v]) := by
  subst hF; exact W.iret hC.1 hC.2.1 hC.2.2.1 (fun t ht _ => ⟨rfl, ht⟩) (fun _ h => nomatch h) hdg hC.2.2.2.2.2.1
theorem eP_z {F : Value} {v : Int32} (hC : CX p s m meth c y0 cc nL (some .boolean) args) (hF : F = .int v) (hn : narrow .boolean (.int v) = .int v) (hdg : decode cc pc = .ok (.ireturn, 1)) : W p l e R s m args below meth c s.heap [] 0 0 (MQ below (QP F) args s 0 0 (fun _ => False)) (F0 m pc ls [.int v]) := by
  subst hF; exact W.zret hC.1 hC.2.1 hC.2.2.1 hn (fun t ht _ => ⟨rfl, ht⟩) (fun _ h => nomatch h) hdg hC.2.2.2.2.2.1
theorem eP_l {F : Value} {v : Int64} (hC : CX p s m meth c y0 cc nL (some .long) args) (hF : F = .long v) (hdg : decode cc pc = .ok (.lreturn, 1)) : W p l e R s m args below meth c s.heap [] 0 0 (MQ below (QP F) args s 0 0 (fun _ => False)) (F0 m pc ls [.long v]) := by
  subst hF; exact W.lret hC.1 hC.2.1 hC.2.2.1 (fun t ht _ => ⟨rfl, ht⟩) (fun _ h => nomatch h) hdg hC.2.2.2.2.2.1
theorem eP_d {F : Value} {v : UInt64} (hC : CX p s m meth c y0 cc nL (some .double) args) (hF : F = .double v) (hdg : decode cc pc = .ok (.dreturn, 1)) : W p l e R s m args below meth c s.heap [] 0 0 (MQ below (QP F) args s 0 0 (fun _ => False)) (F0 m pc ls [.double v]) := by
  subst hF; exact W.dret hC.1 hC.2.1 hC.2.2.1 (fun t ht _ => ⟨rfl, ht⟩) (fun _ h => nomatch h) hdg hC.2.2.2.2.2.1
theorem eP_f {F : Value} {v : UInt32} (hC : CX p s m meth c y0 cc nL (some .float) args) (hF : F = .float v) (hdg : decode cc pc = .ok (.freturn, 1)) : W p l e R s m args below meth c s.heap [] 0 0 (MQ below (QP F) args s 0 0 (fun _ => False)) (F0 m pc ls [.float v]) := by
  subst hF; exact W.fret hC.1 hC.2.1 hC.2.2.1 (fun t ht _ => ⟨rfl, ht⟩) (fun _ h => nomatch h) hdg hC.2.2.2.2.2.1
theorem eE_v {B1 : Heap → Prop} (hC : CX p s m meth c y0 cc nL none args) (hB : B1 H) (hS : va_S A s.heap H locs) (hdg : decode cc pc = .ok (.return_, 1)) : W p l e R s m args below meth c H locs cells slots (MQ below (QE none B1 A) args s cells slots A) (F0 m pc ls []) :=
  W.vret hC.1 hC.2.1 hC.2.2.1 (fun t ht _ => ⟨⟨rfl, by rw [ht]; exact hB⟩, hS.F ht⟩) hS.2.2 hdg hC.2.2.2.2.2.1
theorem eE_i {B1 : Heap → Prop} {F : Option Value} {v : Int32} (hC : CX p s m meth c y0 cc nL (some .int) args) (hF : F = some (.int v)) (hB : B1 H) (hS : va_S A s.heap H locs) (hdg : decode cc pc = .ok (.ireturn, 1)) : W p l e R s m args below meth c H locs cells slots (MQ below (QE F B1 A) args s cells slots A) (F0 m pc ls [.int v]) := by
  subst hF; exact W.iret hC.1 hC.2.1 hC.2.2.1 (fun t ht _ => ⟨⟨rfl, by rw [ht]; exact hB⟩, hS.F ht⟩) hS.2.2 hdg hC.2.2.2.2.2.1
theorem eE_z {B1 : Heap → Prop} {F : Option Value} {v : Int32} (hC : CX p s m meth c y0 cc nL (some .boolean) args) (hF : F = some (.int v)) (hn : narrow .boolean (.int v) = .int v) (hB : B1 H) (hS : va_S A s.heap H locs) (hdg : decode cc pc = .ok (.ireturn, 1)) : W p l e R s m args below meth c H locs cells slots (MQ below (QE F B1 A) args s cells slots A) (F0 m pc ls [.int v]) := by
  subst hF; exact W.zret hC.1 hC.2.1 hC.2.2.1 hn (fun t ht _ => ⟨⟨rfl, by rw [ht]; exact hB⟩, hS.F ht⟩) hS.2.2 hdg hC.2.2.2.2.2.1
theorem eE_l {B1 : Heap → Prop} {F : Option Value} {v : Int64} (hC : CX p s m meth c y0 cc nL (some .long) args) (hF : F = some (.long v)) (hB : B1 H) (hS : va_S A s.heap H locs) (hdg : decode cc pc = .ok (.lreturn, 1)) : W p l e R s m args below meth c H locs cells slots (MQ below (QE F B1 A) args s cells slots A) (F0 m pc ls [.long v]) := by
  subst hF; exact W.lret hC.1 hC.2.1 hC.2.2.1 (fun t ht _ => ⟨⟨rfl, by rw [ht]; exact hB⟩, hS.F ht⟩) hS.2.2 hdg hC.2.2.2.2.2.1
end ROWS
end
section
/-! the pictures of the worlds, small lemmas for the walks -/
abbrev SV : Type := Nat → Nat → Int32
def sr (v : SV) (i : Nat) (f : Nat → Int32) : SV := fun j => if j = i then f else v j
def ss (v : SV) (i k : Nat) (x : Int32) : SV := sr v i (upd (v i) k x)
def mkS (r0 r1 r2 r3 r4 r5 r6 r7 : Nat → Int32) (s0 s1 s2 s3 s4 s5 s6 s7 s8 s9 s10 : Int32) : SV := fun i => match i with
  | 0 => r0
  | 1 => r1
  | 2 => r2
  | 3 => r3
  | 4 => r4
  | 5 => r5
  | 6 => r6
  | 7 => r7
  | _ => fun k => match k with
    | 0 => s0
    | 1 => s1
    | 2 => s2
    | 3 => s3
    | 4 => s4
    | 5 => s5
    | 6 => s6
    | 7 => s7
    | 8 => s8
    | 9 => s9
    | _ => s10
def mkM (r0 r1 r2 r3 r4 r5 r6 r7 : Nat → Int32) (s0 s1 s2 s3 s4 s5 s6 s7 s8 : Int32) : SV := fun i => match i with
  | 0 => r0
  | 1 => r1
  | 2 => r2
  | 3 => r3
  | 4 => r4
  | 5 => r5
  | 6 => r6
  | 7 => r7
  | _ => fun k => match k with
    | 0 => s0
    | 1 => s1
    | 2 => s2
    | 3 => s3
    | 4 => s4
    | 5 => s5
    | 6 => s6
    | 7 => s7
    | _ => s8
/-- a State with its Strip and its Totals; rows 0 heat, 1 pulses, 2 settings, 3 dark, 4 faint, 5 parts, 6 dotsOf, 7 faintOf; row 8: 0 size, 1 time, 2 lines, 3 parts, 4 waits, 5 dots, 6 faint, 7 hottest, 8 lastLine, 9 lineBefore, 10 paperKind -/
def stW (G : GT) (q : Nat → Nat) (v : SV) : va_W :=
  [(q 0, .inr (2, [.ref (q 1), .ref (q 2), .ref (q 3), .ref (q 4), .ref (q 8), .int (v 8 8), .int (v 8 9), .int (v 8 10)])),
   (q 1, .inl (gI G, 24, .inl (v 0))), (q 2, .inl (gI G, 24, .inl (v 1))), (q 3, .inl (gI G, 7, .inl (v 2))),
   (q 4, .inr (3, [.ref (q 5), .ref (q 6), .ref (q 7), .int (v 8 0)])), (q 5, .inl (gI G, 12, .inl (v 3))), (q 6, .inl (gI G, 12, .inl (v 4))), (q 7, .inl (gI G, 12, .inl (v 5))),
   (q 8, .inr (4, [.ref (q 9), .ref (q 10), .int (v 8 1), .int (v 8 2), .int (v 8 3), .int (v 8 4), .int (v 8 5), .int (v 8 6), .int (v 8 7)])), (q 9, .inl (gI G, 24, .inl (v 6))), (q 10, .inl (gI G, 24, .inl (v 7)))]
def stA (q : Nat → Nat) : Nat → Prop := fun a => ∃ i, i < 11 ∧ a = q i
def stD (G : GT) (q : Nat → Nat) : Prop := (∀ i, i < 11 → gL G ≤ q i) ∧ ∀ i j, i < 11 → j < 11 → q i = q j → i = j
theorem va_D_of {A : Nat → Prop} {ws : va_W} {q : Nat → Nat} {n : Nat} (hw : ws.map Prod.fst = (List.range n).map q) (hA : ∀ i, i < n → A (q i)) (hi : ∀ i j, i < n → j < n → q i = q j → i = j) : va_D A ws := by
  have key : ∀ (k : Nat) (p : Nat × va_E), ws[k]? = some p → k < n ∧ p.1 = q k := by
    intro k p hk
    have h1 : (ws.map Prod.fst)[k]? = some p.1 := by rw [List.getElem?_map, hk]; rfl
    rw [hw, List.getElem?_map] at h1
    cases hr : (List.range n)[k]? with
    | none => rw [hr] at h1; cases h1
    | some z =>
      rw [hr] at h1
      obtain ⟨h2, h3⟩ := List.getElem?_eq_some_iff.mp hr
      simp at h2 h3
      subst h3
      exact ⟨h2, (Option.some.inj h1).symm⟩
  refine ⟨fun i j x y hx hy e => ?_, fun k p hk => ?_⟩
  · obtain ⟨a1, a2⟩ := key i x hx
    obtain ⟨b1, b2⟩ := key j y hy
    exact hi i j a1 b1 (by rw [← a2, ← b2]; exact e)
  · obtain ⟨a1, a2⟩ := key k p hk
    rw [a2]; exact hA k a1
theorem stD_D {G : GT} {q : Nat → Nat} (h : stD G q) (v : SV) : va_D (stA q) (stW G q v) := va_D_of (n := 11) (q := q) rfl (fun i hi => ⟨i, hi, rfl⟩) h.2
theorem stD_low {G : GT} {q : Nat → Nat} (h : stD G q) : ∀ a, stA q a → gL G ≤ a := fun a ⟨i, hi, e⟩ => by rw [e]; exact h.1 i hi
/-- the reference -/
def mdW (G : GT) (q : Nat → Nat) (v : SV) (hs : Int64) : va_W :=
  [(q 0, .inr (6, [.ref (q 1), .ref (q 2), .int (v 8 0), .ref (q 3), .int (v 8 1), .ref (q 4), .int (v 8 2), .int (v 8 3), .int (v 8 4), .int (v 8 5), .ref (q 5), .int (v 8 6), .int (v 8 7), .int (v 8 8), .ref (q 6), .ref (q 7), .ref (q 8), .long hs])),
   (q 1, .inl (gI G, 124, .inl (v 0))), (q 2, .inl (gI G, 744, .inl (v 1))), (q 3, .inl (gI G, 124, .inl (v 2))), (q 4, .inl (gI G, 124, .inl (v 3))),
   (q 5, .inl (gI G, 60, .inl (v 4))), (q 6, .inl (gI G, 16, .inl (v 5))), (q 7, .inl (gI G, 16, .inl (v 6))), (q 8, .inl (gI G, 16, .inl (v 7)))]
def mdA (q : Nat → Nat) : Nat → Prop := fun a => ∃ i, i < 9 ∧ a = q i
def mdD (G : GT) (q : Nat → Nat) : Prop := (∀ i, i < 9 → gL G ≤ q i) ∧ ∀ i j, i < 9 → j < 9 → q i = q j → i = j
theorem mdD_D {G : GT} {q : Nat → Nat} (h : mdD G q) (v : SV) (hs : Int64) : va_D (mdA q) (mdW G q v hs) := va_D_of (n := 9) (q := q) rfl (fun i hi => ⟨i, hi, rfl⟩) h.2
theorem mdD_low {G : GT} {q : Nat → Nat} (h : mdD G q) : ∀ a, mdA q a → gL G ≤ a := fun a ⟨i, hi, e⟩ => by rw [e]; exact h.1 i hi
/-- one int array -/
def a1W (G : GT) (a n : Nat) (f : Nat → Int32) : va_W := [(a, .inl (gI G, n, .inl f))]
theorem a1W_D {G : GT} {a n : Nat} (f : Nat → Int32) : va_D (fun z => z = a) (a1W G a n f) := va_D_of (n := 1) (q := fun _ => a) rfl (fun _ _ => rfl) (fun i j hi hj _ => by omega)
theorem one_of {G : GT} {ws : va_W} {H : Heap} {a n : Nat} {f : Nat → Int32} (hP : PW G ws H) (k : Nat) (h : ws[k]? = some (a, .inl (gI G, n, .inl f))) : PW G (a1W G a n f) H := by
  intro j q hj
  cases j with
  | zero => cases hj; exact hP k _ h
  | succ j => simp [a1W] at hj
theorem one_set {G : GT} {ws : va_W} {H H1 : Heap} {A : Nat → Prop} {a n : Nat} {f f1 : Nat → Int32} (hP : PW G ws H) (hD : va_D A ws) (k : Nat) (h : ws[k]? = some (a, .inl (gI G, n, .inl f))) (h1 : PW G (a1W G a n f1) H1) (hk : ∀ q : Nat, q < H.size → ¬ (fun z => z = a) q → H1[q]? = H[q]?) : PW G (ws.set k (a, .inl (gI G, n, .inl f1))) H1 := by
  have hl := (List.getElem?_eq_some_iff.mp h).1
  intro j q hj
  by_cases hjk : j = k
  · subst hjk
    rw [List.getElem?_set_self hl] at hj
    cases hj
    exact h1 0 _ rfl
  · rw [List.getElem?_set_ne (Ne.symm hjk)] at hj
    have hq := hP j q hj
    exact hq.kept (hk q.1 hq.lt (fun e => hjk (hD.1 j k q _ hj h e)))
/-! loops -/
section LP
variable {σ ρ : Type}
def lpF : Nat → Nat → (Nat → σ → σ) → σ → σ
  | 0, _, _, s => s
  | n + 1, d, b, s => lpF n (d + 1) b (b d s)
def lpD : Nat → (Nat → σ → σ) → σ → σ
  | 0, _, s => s
  | n + 1, b, s => lpD n b (b (n + 1) s)
def lpR : Nat → Nat → (Nat → σ → σ ⊕ ρ) → σ → σ ⊕ ρ
  | 0, _, _, s => .inl s
  | n + 1, d, b, s => match b d s with
    | .inl s' => lpR n (d + 1) b s'
    | .inr r => .inr r
def lpRs (n d : Nat) (b : Nat → σ → σ ⊕ ρ) (z : σ ⊕ ρ) : σ ⊕ ρ := match z with
    | .inl s' => lpR n (d + 1) b s'
    | .inr r => .inr r
def lpB : Nat → (σ → Bool × σ) → σ → σ
  | 0, _, s => s
  | n + 1, g, s => bif (g s).1 then lpB n g (g s).2 else (g s).2
def lpBs (n : Nat) (g : σ → Bool × σ) (z : Bool × σ) : σ := bif z.1 then lpB n g z.2 else z.2
def lpT : Nat → (σ → Bool × σ) → σ → Prop
  | 0, _, _ => False
  | n + 1, g, s => (g s).1 = false ∨ lpT n g (g s).2
def lpTs (n : Nat) (g : σ → Bool × σ) (z : Bool × σ) : Prop := z.1 = false ∨ lpT n g z.2
theorem lpT_go {n : Nat} {g : σ → Bool × σ} {s : σ} (h : lpTs n g (true, s)) : lpT n g s := h.elim (fun q => by cases q) id
end LP
/-- far above the steps of a loop that cools -/
def mS : Nat := 1000000
/-! numbers -/
theorem nE_add {x y : Int32} {a b : Nat} (h1 : x = nI a) (h2 : y = nI b) : x + y = nI (a + b) := by rw [h1, h2]; exact nI_add a b
theorem nE_mul {x y : Int32} {a b : Nat} (h1 : x = nI a) (h2 : y = nI b) : x * y = nI (a * b) := by rw [h1, h2]; exact pk_mul a b
theorem nE_sub {x y : Int32} {a b : Nat} (h1 : x = nI a) (h2 : y = nI b) (h : b ≤ a) : x - y = nI (a - b) := by rw [h1, h2]; exact pk_sub h
theorem i_clamp {x : Int32} (h : ¬ x < 0) : x = nI x.toNatClampNeg ∧ x.toNatClampNeg < 2 ^ 31 := by
  obtain ⟨j, hj, rfl⟩ := nI_of h
  rw [nI_clamp hj]; exact ⟨rfl, hj⟩
theorem vp_path {x : Int32} {n : Nat} (h1 : ¬ x < 0) (h2 : ¬ nI n ≤ x) : vp_in x n := by
  obtain ⟨e, hj⟩ := i_clamp h1
  intro h
  rcases h with h | h
  · exact h1 h
  · apply h2
    rw [e]
    exact nI_le h hj
theorem cl_lt (x : Int32) : x.toNatClampNeg < 2 ^ 31 := by
  by_cases h : x < 0
  · have : x.toNatClampNeg = 0 := by
      have h1 : x.toInt < 0 := by simpa using Int32.lt_iff_toInt_lt.mp h
      show x.toInt.toNat = 0
      omega
    rw [this]; decide
  · exact (i_clamp h).2
theorem cl_le {x : Int32} {d : Nat} (h : x.toNatClampNeg ≤ d) (hd : d < 2 ^ 31) : x ≤ nI d := by
  by_cases hx : x < 0
  · have h1 : x.toInt < 0 := by simpa using Int32.lt_iff_toInt_lt.mp hx
    rw [Int32.le_iff_toInt_le, nI_toInt hd]
    omega
  · obtain ⟨e, hj⟩ := i_clamp hx
    rw [e]; exact nI_le h hd
theorem cl_nle {x : Int32} {d : Nat} (h : d < x.toNatClampNeg) : ¬ x ≤ nI d := by
  have hx : ¬ x < 0 := fun hx => by
    have h1 : x.toInt < 0 := by simpa using Int32.lt_iff_toInt_lt.mp hx
    have : x.toNatClampNeg = 0 := by
      show x.toInt.toNat = 0
      omega
    omega
  obtain ⟨e, hj⟩ := i_clamp hx
  rw [e]; exact nI_ge h hj
theorem nb01 {v : Int32} (h : v = 0 ∨ v = 1) : narrow .boolean (.int v) = .int v := by
  rcases h with rfl | rfl <;> rfl
theorem sw_out {x : Int32} (lo hi : Nat) (hh : hi < 2 ^ 31) (h : ∀ k, lo ≤ k → k ≤ hi → ¬ x = nI k) : x.toInt < (lo : Int) ∨ (hi : Int) < x.toInt := by
  by_cases q : x.toInt < (lo : Int)
  · exact Or.inl q
  · refine Or.inr ?_
    have q := Int.not_lt.mp q
    have hx : ¬ x < 0 := fun z => by
      have h1 : x.toInt < 0 := by simpa using Int32.lt_iff_toInt_lt.mp z
      omega
    obtain ⟨e, hj⟩ := i_clamp hx
    have e2 : x.toInt = (x.toNatClampNeg : Int) := by
      have := nI_toInt hj
      rw [← e] at this
      exact this
    rcases Nat.lt_or_ge hi x.toNatClampNeg with z | z
    · rw [e2]; exact Int.ofNat_lt.mpr z
    · exact absurd e (h _ (by rw [e2] at q; exact Int.ofNat_le.mp q) z)
section SW
variable {p : Program} {l : Launch} {e : Env} {R : Room} {s : State} {m : MethodId} {args : Array Value} {below : List Frame} {meth : Method} {c : Code} {H : Heap} {locs : List Loc} {cells slots : Nat} {Q : State → Prop}
variable {y0 : MethodName} {cc : ByteArray} {nL : Nat} {ret0 : Option FieldType} {rest : List Value} {pc : Nat} {ls : Array Slot}
theorem swIn (hC : CX p s m meth c y0 cc nL ret0 args) {dflt lo hi : Int} {offs : Array Int} {len : Nat} {x : Int32} {off : Int} {tgt : Nat} (k : Int32) (hk : x = k) (hdg : decode cc pc = .ok (.tableswitch dflt lo hi offs, len)) (h1 : ¬ k.toInt < lo) (h2 : ¬ hi < k.toInt) (ho : offs[(k.toInt - lo).toNat]? = some off) (ht : (pc : Int) + off = (tgt : Int))
    (kk : W p l e R s m args below meth c H locs cells slots Q (F0 m tgt ls rest)) : W p l e R s m args below meth c H locs cells slots Q (F0 m pc ls (.int x :: rest)) := by
  subst hk; exact lv_tableIn hC.1 hC.2.1 hdg h1 h2 ho ht kk
theorem lkIn (hC : CX p s m meth c y0 cc nL ret0 args) {dflt : Int} {ps : Array (Int × Int)} {len : Nat} {x : Int32} {off : Int} {tgt : Nat} (k : Int32) (hk : x = k) (hdg : decode cc pc = .ok (.lookupswitch dflt ps, len)) (hp : (ps.toList.zip (ps.toList.drop 1)).all (fun (a, next) => a.1 < next.1) = true) (ho : Op.lookupswitch.offset ps.toList dflt k.toInt = off) (ht : (pc : Int) + off = (tgt : Int))
    (kk : W p l e R s m args below meth c H locs cells slots Q (F0 m tgt ls rest)) : W p l e R s m args below meth c H locs cells slots Q (F0 m pc ls (.int x :: rest)) := by
  subst hk; exact lv_lookup hC.1 hC.2.1 hdg hp ho ht kk
end SW
theorem ne_toInt {x : Int32} {k : Int32} (h : ¬ x = k) : x.toInt ≠ k.toInt := fun e => h (Int32.toInt_inj.mp e)
/-- another world, whose cells this method doesn't write -/
def naW (A : Nat → Prop) (ws : va_W) : Prop := ∀ (k : Nat) (p : Nat × va_E), ws[k]? = some p → ¬ A p.1
theorem keepS {G : GT} {ws : va_W} {H0 H : Heap} {A : Nat → Prop} {locs : List Loc} (hP : PW G ws H0) (hS : va_S A H0 H locs) (hn : naW A ws) : PW G ws H := hP.kept (fun k q hk => hS.2.1 q.1 (hP k q hk).lt (hn k q hk))
def stN (q q2 : Nat → Nat) : Prop := ∀ i j, i < 11 → j < 11 → ¬ q i = q2 j
theorem fst_of {ws : va_W} {q : Nat → Nat} {n : Nat} (hw : ws.map Prod.fst = (List.range n).map q) {k : Nat} {p : Nat × va_E} (hk : ws[k]? = some p) : k < n ∧ p.1 = q k := by
  have h1 : (ws.map Prod.fst)[k]? = some p.1 := by rw [List.getElem?_map, hk]; rfl
  rw [hw, List.getElem?_map] at h1
  cases hr : (List.range n)[k]? with
  | none => rw [hr] at h1; cases h1
  | some z =>
    rw [hr] at h1
    obtain ⟨h2, h3⟩ := List.getElem?_eq_some_iff.mp hr
    simp at h2 h3
    subst h3
    exact ⟨h2, (Option.some.inj h1).symm⟩
theorem stN_na {G : GT} {q q2 : Nat → Nat} (h : stN q q2) (v : SV) : naW (stA q) (stW G q2 v) := fun k p hk ⟨i, hi, e⟩ => by
  obtain ⟨a1, a2⟩ := fst_of (n := 11) (q := q2) rfl hk
  exact h i k hi a1 (by rw [← a2]; exact e.symm)
end
section
theorem nf_0 {G : GT} {s : State} {H : Heap} (h : KN G s H) : va_Nw (.fieldLinkNest RX2 18 RX5 "SETTING_FIRST" "[I" "HeadDots") s := h.2.1.1 (RX2, 18, RX5, "SETTING_FIRST", "[I", "HeadDots") (List.mem_of_getElem? (i := 0) rfl)
theorem nf_1 {G : GT} {s : State} {H : Heap} (h : KN G s H) : va_Nw (.fieldLinkNest RX2 67 RX3 "size" "I" "HeadDots") s := h.2.1.1 (RX2, 67, RX3, "size", "I", "HeadDots") (List.mem_of_getElem? (i := 1) rfl)
theorem nf_2 {G : GT} {s : State} {H : Heap} (h : KN G s H) : va_Nw (.fieldLinkNest RX5 101 RX3 "size" "I" "HeadDots") s := h.2.1.1 (RX5, 101, RX3, "size", "I", "HeadDots") (List.mem_of_getElem? (i := 2) rfl)
theorem nf_3 {G : GT} {s : State} {H : Heap} (h : KN G s H) : va_Nw (.fieldLinkNest RX2 166 RX4 "dotsOf" "[I" "HeadDots") s := h.2.1.1 (RX2, 166, RX4, "dotsOf", "[I", "HeadDots") (List.mem_of_getElem? (i := 3) rfl)
theorem nf_4 {G : GT} {s : State} {H : Heap} (h : KN G s H) : va_Nw (.fieldLinkNest RX2 169 RX4 "faintOf" "[I" "HeadDots") s := h.2.1.1 (RX2, 169, RX4, "faintOf", "[I", "HeadDots") (List.mem_of_getElem? (i := 4) rfl)
theorem nf_5 {G : GT} {s : State} {H : Heap} (h : KN G s H) : va_Nw (.fieldLinkNest RX2 74 RX4 "time" "I" "HeadDots") s := h.2.1.1 (RX2, 74, RX4, "time", "I", "HeadDots") (List.mem_of_getElem? (i := 5) rfl)
theorem nf_6 {G : GT} {s : State} {H : Heap} (h : KN G s H) : va_Nw (.fieldLinkNest RX5 283 RX4 "time" "I" "HeadDots") s := h.2.1.1 (RX5, 283, RX4, "time", "I", "HeadDots") (List.mem_of_getElem? (i := 6) rfl)
theorem nf_7 {G : GT} {s : State} {H : Heap} (h : KN G s H) : va_Nw (.fieldLinkNest RX5 158 RX4 "lines" "I" "HeadDots") s := h.2.1.1 (RX5, 158, RX4, "lines", "I", "HeadDots") (List.mem_of_getElem? (i := 7) rfl)
theorem nf_8 {G : GT} {s : State} {H : Heap} (h : KN G s H) : va_Nw (.fieldLinkNest RX5 285 RX4 "parts" "I" "HeadDots") s := h.2.1.1 (RX5, 285, RX4, "parts", "I", "HeadDots") (List.mem_of_getElem? (i := 8) rfl)
theorem nf_9 {G : GT} {s : State} {H : Heap} (h : KN G s H) : va_Nw (.fieldLinkNest RX2 100 RX4 "waits" "I" "HeadDots") s := h.2.1.1 (RX2, 100, RX4, "waits", "I", "HeadDots") (List.mem_of_getElem? (i := 9) rfl)
theorem nf_10 {G : GT} {s : State} {H : Heap} (h : KN G s H) : va_Nw (.fieldLinkNest RX5 288 RX4 "waits" "I" "HeadDots") s := h.2.1.1 (RX5, 288, RX4, "waits", "I", "HeadDots") (List.mem_of_getElem? (i := 10) rfl)
theorem nf_11 {G : GT} {s : State} {H : Heap} (h : KN G s H) : va_Nw (.fieldLinkNest RX5 291 RX4 "dots" "I" "HeadDots") s := h.2.1.1 (RX5, 291, RX4, "dots", "I", "HeadDots") (List.mem_of_getElem? (i := 11) rfl)
theorem nf_12 {G : GT} {s : State} {H : Heap} (h : KN G s H) : va_Nw (.fieldLinkNest RX5 76 RX4 "faint" "I" "HeadDots") s := h.2.1.1 (RX5, 76, RX4, "faint", "I", "HeadDots") (List.mem_of_getElem? (i := 12) rfl)
theorem nf_13 {G : GT} {s : State} {H : Heap} (h : KN G s H) : va_Nw (.fieldLinkNest RX2 130 RX4 "hottest" "I" "HeadDots") s := h.2.1.1 (RX2, 130, RX4, "hottest", "I", "HeadDots") (List.mem_of_getElem? (i := 13) rfl)
theorem nf_14 {G : GT} {s : State} {H : Heap} (h : KN G s H) : va_Nw (.fieldLinkNest RX5 295 RX4 "hottest" "I" "HeadDots") s := h.2.1.1 (RX5, 295, RX4, "hottest", "I", "HeadDots") (List.mem_of_getElem? (i := 14) rfl)
theorem nf_15 {G : GT} {s : State} {H : Heap} (h : KN G s H) : va_Nw (.fieldLinkNest RX5 97 RX2 "strip" "LHeadDots$Strip;" "HeadDots") s := h.2.1.1 (RX5, 97, RX2, "strip", "LHeadDots$Strip;", "HeadDots") (List.mem_of_getElem? (i := 15) rfl)
theorem nf_16 {G : GT} {s : State} {H : Heap} (h : KN G s H) : va_Nw (.fieldLinkNest RX5 72 RX2 "totals" "LHeadDots$Totals;" "HeadDots") s := h.2.1.1 (RX5, 72, RX2, "totals", "LHeadDots$Totals;", "HeadDots") (List.mem_of_getElem? (i := 16) rfl)
theorem nf_17 {G : GT} {s : State} {H : Heap} (h : KN G s H) : va_Nw (.fieldLinkNest RX5 298 RX2 "paperKind" "I" "HeadDots") s := h.2.1.1 (RX5, 298, RX2, "paperKind", "I", "HeadDots") (List.mem_of_getElem? (i := 17) rfl)
theorem nf_18 {G : GT} {s : State} {H : Heap} (h : KN G s H) : va_Nw (.fieldLinkNest RX1 48 RX0 "length" "I" "HeadDots") s := h.2.1.1 (RX1, 48, RX0, "length", "I", "HeadDots") (List.mem_of_getElem? (i := 18) rfl)
theorem nf_19 {G : GT} {s : State} {H : Heap} (h : KN G s H) : va_Nw (.fieldLinkNest RX5 146 RX0 "length" "I" "HeadDots") s := h.2.1.1 (RX5, 146, RX0, "length", "I", "HeadDots") (List.mem_of_getElem? (i := 19) rfl)
theorem nf_20 {G : GT} {s : State} {H : Heap} (h : KN G s H) : va_Nw (.fieldLinkNest RX5 267 RX1 "kind" "I" "HeadDots") s := h.2.1.1 (RX5, 267, RX1, "kind", "I", "HeadDots") (List.mem_of_getElem? (i := 20) rfl)
theorem nf_21 {G : GT} {s : State} {H : Heap} (h : KN G s H) : va_Nw (.fieldLinkNest RX5 270 RX1 "dots" "I" "HeadDots") s := h.2.1.1 (RX5, 270, RX1, "dots", "I", "HeadDots") (List.mem_of_getElem? (i := 21) rfl)
theorem nf_22 {G : GT} {s : State} {H : Heap} (h : KN G s H) : va_Nw (.fieldLinkNest RX5 280 RX1 "paperKind" "I" "HeadDots") s := h.2.1.1 (RX5, 280, RX1, "paperKind", "I", "HeadDots") (List.mem_of_getElem? (i := 22) rfl)
theorem nf_23 {G : GT} {s : State} {H : Heap} (h : KN G s H) : va_Nw (.fieldLinkNest RX5 272 RX1 "number" "I" "HeadDots") s := h.2.1.1 (RX5, 272, RX1, "number", "I", "HeadDots") (List.mem_of_getElem? (i := 23) rfl)
theorem nf_24 {G : GT} {s : State} {H : Heap} (h : KN G s H) : va_Nw (.fieldLinkNest RX2 137 RX5 "PAPER_PULSE" "[I" "HeadDots") s := h.2.1.1 (RX2, 137, RX5, "PAPER_PULSE", "[I", "HeadDots") (List.mem_of_getElem? (i := 24) rfl)
theorem nf_25 {G : GT} {s : State} {H : Heap} (h : KN G s H) : va_Nw (.fieldLinkNest RX2 140 RX5 "PAPER_DARK" "[I" "HeadDots") s := h.2.1.1 (RX2, 140, RX5, "PAPER_DARK", "[I", "HeadDots") (List.mem_of_getElem? (i := 25) rfl)
theorem nf_26 {G : GT} {s : State} {H : Heap} (h : KN G s H) : va_Nw (.fieldLinkNest RX2 153 RX5 "SETTING_MOST" "[I" "HeadDots") s := h.2.1.1 (RX2, 153, RX5, "SETTING_MOST", "[I", "HeadDots") (List.mem_of_getElem? (i := 26) rfl)
theorem nf_27 {G : GT} {s : State} {H : Heap} (h : KN G s H) : va_Nw (.fieldLinkNest RX2 156 RX5 "SETTING_LEAST" "[I" "HeadDots") s := h.2.1.1 (RX2, 156, RX5, "SETTING_LEAST", "[I", "HeadDots") (List.mem_of_getElem? (i := 27) rfl)
theorem nm_0 {G : GT} {s : State} {H : Heap} (h : KN G s H) : va_Nw (.methodLinkNest RX2 24 yX5_copyRow "HeadDots") s := h.2.1.2 (RX2, 24, yX5_copyRow, "HeadDots") (List.mem_of_getElem? (i := 0) rfl)
theorem nm_1 {G : GT} {s : State} {H : Heap} (h : KN G s H) : va_Nw (.methodLinkNest RX0 23 yX5_at "HeadDots") s := h.2.1.2 (RX0, 23, yX5_at, "HeadDots") (List.mem_of_getElem? (i := 1) rfl)
theorem nm_2 {G : GT} {s : State} {H : Heap} (h : KN G s H) : va_Nw (.methodLinkNest RX1 124 yX5_isWithin "HeadDots") s := h.2.1.2 (RX1, 124, yX5_isWithin, "HeadDots") (List.mem_of_getElem? (i := 2) rfl)
theorem nm_3 {G : GT} {s : State} {H : Heap} (h : KN G s H) : va_Nw (.methodLinkNest RX3 25 yX5_copyRow "HeadDots") s := h.2.1.2 (RX3, 25, yX5_copyRow, "HeadDots") (List.mem_of_getElem? (i := 3) rfl)
theorem nm_4 {G : GT} {s : State} {H : Heap} (h : KN G s H) : va_Nw (.methodLinkNest RX4 40 yX5_copyRow "HeadDots") s := h.2.1.2 (RX4, 40, yX5_copyRow, "HeadDots") (List.mem_of_getElem? (i := 4) rfl)
theorem nm_5 {G : GT} {s : State} {H : Heap} (h : KN G s H) : va_Nw (.methodLinkNest RX2 59 yX5_at "HeadDots") s := h.2.1.2 (RX2, 59, yX5_at, "HeadDots") (List.mem_of_getElem? (i := 5) rfl)
theorem nm_6 {G : GT} {s : State} {H : Heap} (h : KN G s H) : va_Nw (.methodLinkNest RX2 124 yX5_bitOf "HeadDots") s := h.2.1.2 (RX2, 124, yX5_bitOf, "HeadDots") (List.mem_of_getElem? (i := 6) rfl)
theorem nm_7 {G : GT} {s : State} {H : Heap} (h : KN G s H) : va_Nw (.methodLinkNest RX3 43 yX5_at "HeadDots") s := h.2.1.2 (RX3, 43, yX5_at, "HeadDots") (List.mem_of_getElem? (i := 7) rfl)
theorem nm_8 {G : GT} {s : State} {H : Heap} (h : KN G s H) : va_Nw (.methodLinkNest RX3 54 yX5_bitOf "HeadDots") s := h.2.1.2 (RX3, 54, yX5_bitOf, "HeadDots") (List.mem_of_getElem? (i := 8) rfl)
theorem nm_9 {G : GT} {s : State} {H : Heap} (h : KN G s H) : va_Nw (.methodLinkNest RX2 63 yX5_put "HeadDots") s := h.2.1.2 (RX2, 63, yX5_put, "HeadDots") (List.mem_of_getElem? (i := 9) rfl)
theorem nm_10 {G : GT} {s : State} {H : Heap} (h : KN G s H) : va_Nw (.methodLinkNest RX3 39 yX5_put "HeadDots") s := h.2.1.2 (RX3, 39, yX5_put, "HeadDots") (List.mem_of_getElem? (i := 10) rfl)
theorem nm_11 {G : GT} {s : State} {H : Heap} (h : KN G s H) : va_Nw (.methodLinkNest RX4 54 yX5_bitOf "HeadDots") s := h.2.1.2 (RX4, 54, yX5_bitOf, "HeadDots") (List.mem_of_getElem? (i := 11) rfl)
theorem nm_12 {G : GT} {s : State} {H : Heap} (h : KN G s H) : va_Nw (.methodLinkNest RX0 17 yX5_put "HeadDots") s := h.2.1.2 (RX0, 17, yX5_put, "HeadDots") (List.mem_of_getElem? (i := 12) rfl)
theorem fwX0 : FW RX0 TX0 2 tyX0 := ⟨(show ∀ w ∈ u_ws RX0 TX0 2, w ∈ bigW from List.forall_mem_cons.mpr ⟨wd_155, List.forall_mem_cons.mpr ⟨wd_157, List.forall_mem_nil _⟩⟩), tyX0_ok, nmX0⟩
theorem fwX1 : FW RX1 TX1 10 tyX1 := ⟨(show ∀ w ∈ u_ws RX1 TX1 10, w ∈ bigW from List.forall_mem_cons.mpr ⟨wd_181, List.forall_mem_cons.mpr ⟨wd_183, List.forall_mem_cons.mpr ⟨wd_185, List.forall_mem_cons.mpr ⟨wd_187, List.forall_mem_cons.mpr ⟨wd_189, List.forall_mem_cons.mpr ⟨wd_191, List.forall_mem_cons.mpr ⟨wd_193, List.forall_mem_cons.mpr ⟨wd_195, List.forall_mem_cons.mpr ⟨wd_197, List.forall_mem_cons.mpr ⟨wd_199, List.forall_mem_nil _⟩⟩⟩⟩⟩⟩⟩⟩⟩⟩), tyX1_ok, nmX1⟩
theorem fwX2 : FW RX2 TX2 8 tyX2 := ⟨(show ∀ w ∈ u_ws RX2 TX2 8, w ∈ bigW from List.forall_mem_cons.mpr ⟨wd_127, List.forall_mem_cons.mpr ⟨wd_129, List.forall_mem_cons.mpr ⟨wd_131, List.forall_mem_cons.mpr ⟨wd_133, List.forall_mem_cons.mpr ⟨wd_135, List.forall_mem_cons.mpr ⟨wd_137, List.forall_mem_cons.mpr ⟨wd_139, List.forall_mem_cons.mpr ⟨wd_141, List.forall_mem_nil _⟩⟩⟩⟩⟩⟩⟩⟩), tyX2_ok, nmX2⟩
theorem fwX3 : FW RX3 TX3 4 tyX3 := ⟨(show ∀ w ∈ u_ws RX3 TX3 4, w ∈ bigW from List.forall_mem_cons.mpr ⟨wd_60, List.forall_mem_cons.mpr ⟨wd_62, List.forall_mem_cons.mpr ⟨wd_64, List.forall_mem_cons.mpr ⟨wd_66, List.forall_mem_nil _⟩⟩⟩⟩), tyX3_ok, nmX3⟩
theorem fwX4 : FW RX4 TX4 9 tyX4 := ⟨(show ∀ w ∈ u_ws RX4 TX4 9, w ∈ bigW from List.forall_mem_cons.mpr ⟨wd_97, List.forall_mem_cons.mpr ⟨wd_99, List.forall_mem_cons.mpr ⟨wd_101, List.forall_mem_cons.mpr ⟨wd_103, List.forall_mem_cons.mpr ⟨wd_105, List.forall_mem_cons.mpr ⟨wd_107, List.forall_mem_cons.mpr ⟨wd_109, List.forall_mem_cons.mpr ⟨wd_111, List.forall_mem_cons.mpr ⟨wd_113, List.forall_mem_nil _⟩⟩⟩⟩⟩⟩⟩⟩⟩), tyX4_ok, nmX4⟩
theorem fwX5 : FW RX5 TX5 8 tyX5 := ⟨(show ∀ w ∈ u_ws RX5 TX5 8, w ∈ bigW from List.forall_mem_cons.mpr ⟨wd_211, List.forall_mem_cons.mpr ⟨wd_213, List.forall_mem_cons.mpr ⟨wd_215, List.forall_mem_cons.mpr ⟨wd_217, List.forall_mem_cons.mpr ⟨wd_219, List.forall_mem_cons.mpr ⟨wd_221, List.forall_mem_cons.mpr ⟨wd_223, List.forall_mem_cons.mpr ⟨wd_225, List.forall_mem_nil _⟩⟩⟩⟩⟩⟩⟩⟩), tyX5_ok, nmX5⟩
theorem fwX6 : FW RX6 TX6 18 tyX6 := ⟨(show ∀ w ∈ u_ws RX6 TX6 18, w ∈ bigW from List.forall_mem_cons.mpr ⟨wd_905, List.forall_mem_cons.mpr ⟨wd_907, List.forall_mem_cons.mpr ⟨wd_909, List.forall_mem_cons.mpr ⟨wd_911, List.forall_mem_cons.mpr ⟨wd_913, List.forall_mem_cons.mpr ⟨wd_915, List.forall_mem_cons.mpr ⟨wd_917, List.forall_mem_cons.mpr ⟨wd_919, List.forall_mem_cons.mpr ⟨wd_921, List.forall_mem_cons.mpr ⟨wd_923, List.forall_mem_cons.mpr ⟨wd_925, List.forall_mem_cons.mpr ⟨wd_927, List.forall_mem_cons.mpr ⟨wd_929, List.forall_mem_cons.mpr ⟨wd_931, List.forall_mem_cons.mpr ⟨wd_933, List.forall_mem_cons.mpr ⟨wd_935, List.forall_mem_cons.mpr ⟨wd_937, List.forall_mem_cons.mpr ⟨wd_939, List.forall_mem_nil _⟩⟩⟩⟩⟩⟩⟩⟩⟩⟩⟩⟩⟩⟩⟩⟩⟩⟩), tyX6_ok, nmX6⟩
theorem mwX0_init : MW yX0_init cX0_init 1 none 0 := ⟨wd_149, wd_7, by decide, by decide, by decide +kernel⟩
theorem mwX0_isFull : MW yX0_isFull cX0_isFull 1 (some .boolean) 0 := ⟨wd_762, wd_7, by decide, by decide, by decide +kernel⟩
theorem mwX0_addCode : MW yX0_addCode cX0_addCode 2 none 1 := ⟨wd_782, wd_7, by decide, by decide, by decide +kernel⟩
theorem mwX0_codeAt : MW yX0_codeAt cX0_codeAt 2 (some .int) 1 := ⟨wd_247, wd_7, by decide, by decide, by decide +kernel⟩
theorem mwX1_init : MW yX1_init cX1_init 1 none 0 := ⟨wd_164, wd_8, by decide, by decide, by decide +kernel⟩
theorem mwX1_beginPart : MW yX1_beginPart cX1_beginPart 1 none 0 := ⟨wd_243, wd_8, by decide, by decide, by decide +kernel⟩
theorem mwX1_readUntilError : MW yX1_readUntilError cX1_readUntilError 3 (some .int) 1 := ⟨wd_239, wd_8, by decide, by decide, by decide +kernel⟩
theorem mwX1_isComplete : MW yX1_isComplete cX1_isComplete 1 (some .boolean) 0 := ⟨wd_262, wd_8, by decide, by decide, by decide +kernel⟩
theorem mwX1_take : MW yX1_take cX1_take 2 (some .boolean) 1 := ⟨wd_254, wd_8, by decide, by decide, by decide +kernel⟩
theorem mwX1_takeBetween : MW yX1_takeBetween cX1_takeBetween 1 (some .boolean) 0 := ⟨wd_258, wd_8, by decide, by decide, by decide +kernel⟩
theorem mwX1_takeFirst : MW yX1_takeFirst cX1_takeFirst 2 (some .boolean) 1 := ⟨wd_266, wd_8, by decide, by decide, by decide +kernel⟩
theorem mwX1_takeFirstOfPaper : MW yX1_takeFirstOfPaper cX1_takeFirstOfPaper 2 (some .boolean) 1 := ⟨wd_348, wd_8, by decide, by decide, by decide +kernel⟩
theorem mwX1_beginKind : MW yX1_beginKind cX1_beginKind 4 (some .boolean) 3 := ⟨wd_271, wd_8, by decide, by decide, by decide +kernel⟩
theorem mwX1_beginPaper : MW yX1_beginPaper cX1_beginPaper 3 (some .boolean) 2 := ⟨wd_353, wd_8, by decide, by decide, by decide +kernel⟩
theorem mwX1_beginWord : MW yX1_beginWord cX1_beginWord 3 (some .boolean) 2 := ⟨wd_275, wd_8, by decide, by decide, by decide +kernel⟩
theorem mwX1_takeOfWord : MW yX1_takeOfWord cX1_takeOfWord 2 (some .boolean) 1 := ⟨wd_282, wd_8, by decide, by decide, by decide +kernel⟩
theorem mwX1_takeOfDots : MW yX1_takeOfDots cX1_takeOfDots 3 (some .boolean) 1 := ⟨wd_334, wd_8, by decide, by decide, by decide +kernel⟩
theorem mwX1_takeStar : MW yX1_takeStar cX1_takeStar 2 (some .boolean) 1 := ⟨wd_338, wd_8, by decide, by decide, by decide +kernel⟩
theorem mwX1_takeDigit : MW yX1_takeDigit cX1_takeDigit 3 (some .boolean) 1 := ⟨wd_359, wd_8, by decide, by decide, by decide +kernel⟩
theorem mwX1_hexDigit : MW yX1_hexDigit cX1_hexDigit 1 (some .int) 1 := ⟨wd_341, wd_8, by decide, by decide, by decide +kernel⟩
theorem mwX2_init : MW yX2_init cX2_init 1 none 0 := ⟨wd_35, wd_2, by decide, by decide, by decide +kernel⟩
theorem mwX2_copyFrom : MW yX2_copyFrom cX2_copyFrom 2 none 1 := ⟨wd_367, wd_2, by decide, by decide, by decide +kernel⟩
theorem mwX2_setting : MW yX2_setting cX2_setting 2 (some .int) 1 := ⟨wd_418, wd_2, by decide, by decide, by decide +kernel⟩
theorem mwX2_changeSetting : MW yX2_changeSetting cX2_changeSetting 3 none 2 := ⟨wd_490, wd_2, by decide, by decide, by decide +kernel⟩
theorem mwX2_changePaper : MW yX2_changePaper cX2_changePaper 2 none 1 := ⟨wd_721, wd_2, by decide, by decide, by decide +kernel⟩
theorem mwX2_printLines : MW yX2_printLines cX2_printLines 4 none 2 := ⟨wd_699, wd_2, by decide, by decide, by decide +kernel⟩
theorem mwX2_printLine : MW yX2_printLine cX2_printLine 9 (some .int) 1 := ⟨wd_497, wd_2, by decide, by decide, by decide +kernel⟩
theorem mwX2_dotsAtOnce : MW yX2_dotsAtOnce cX2_dotsAtOnce 2 (some .int) 0 := ⟨wd_501, wd_2, by decide, by decide, by decide +kernel⟩
theorem mwX2_preparePulses : MW yX2_preparePulses cX2_preparePulses 4 none 1 := ⟨wd_511, wd_2, by decide, by decide, by decide +kernel⟩
theorem mwX2_dotsOfPart : MW yX2_dotsOfPart cX2_dotsOfPart 10 (some .int) 4 := ⟨wd_515, wd_2, by decide, by decide, by decide +kernel⟩
theorem mwX2_waitOfPart : MW yX2_waitOfPart cX2_waitOfPart 5 (some .int) 1 := ⟨wd_519, wd_2, by decide, by decide, by decide +kernel⟩
theorem mwX2_heatPart : MW yX2_heatPart cX2_heatPart 4 (some .int) 1 := ⟨wd_531, wd_2, by decide, by decide, by decide +kernel⟩
theorem mwX2_longestPulse : MW yX2_longestPulse cX2_longestPulse 4 (some .int) 1 := ⟨wd_541, wd_2, by decide, by decide, by decide +kernel⟩
theorem mwX2_pulseIn : MW yX2_pulseIn cX2_pulseIn 5 (some .int) 3 := ⟨wd_442, wd_2, by decide, by decide, by decide +kernel⟩
theorem mwX2_pulseAlone : MW yX2_pulseAlone cX2_pulseAlone 3 (some .int) 2 := ⟨wd_438, wd_2, by decide, by decide, by decide +kernel⟩
theorem mwX2_waitFor : MW yX2_waitFor cX2_waitFor 3 (some .int) 2 := ⟨wd_448, wd_2, by decide, by decide, by decide +kernel⟩
theorem mwX2_isDark : MW yX2_isDark cX2_isDark 2 (some .boolean) 1 := ⟨wd_535, wd_2, by decide, by decide, by decide +kernel⟩
theorem mwX2_passTime : MW yX2_passTime cX2_passTime 3 none 1 := ⟨wd_523, wd_2, by decide, by decide, by decide +kernel⟩
theorem mwX2_cooledFor : MW yX2_cooledFor cX2_cooledFor 6 (some .int) 2 := ⟨wd_527, wd_2, by decide, by decide, by decide +kernel⟩
theorem mwX2_timeDownTo : MW yX2_timeDownTo cX2_timeDownTo 6 (some .int) 2 := ⟨wd_452, wd_2, by decide, by decide, by decide +kernel⟩
theorem mwX2_cooled : MW yX2_cooled cX2_cooled 3 (some .int) 2 := ⟨wd_456, wd_2, by decide, by decide, by decide +kernel⟩
theorem mwX2_timeUntilCool : MW yX2_timeUntilCool cX2_timeUntilCool 2 (some .int) 1 := ⟨wd_572, wd_2, by decide, by decide, by decide +kernel⟩
theorem mwX2_hottestDot : MW yX2_hottestDot cX2_hottestDot 3 (some .int) 0 := ⟨wd_411, wd_2, by decide, by decide, by decide +kernel⟩
theorem mwX2_leastDarkSetting : MW yX2_leastDarkSetting cX2_leastDarkSetting 6 (some .int) 1 := ⟨wd_577, wd_2, by decide, by decide, by decide +kernel⟩
theorem mwX2_mean : MW yX2_mean cX2_mean 3 (some .float) 0 := ⟨wd_393, wd_2, by decide, by decide, by decide +kernel⟩
theorem mwX2_numberOfDot : MW yX2_numberOfDot cX2_numberOfDot 3 (some .int) 2 := ⟨wd_431, wd_2, by decide, by decide, by decide +kernel⟩
theorem mwX3_init : MW yX3_init cX3_init 1 none 0 := ⟨wd_52, wd_5, by decide, by decide, by decide +kernel⟩
theorem mwX3_copyFrom : MW yX3_copyFrom cX3_copyFrom 2 none 1 := ⟨wd_371, wd_5, by decide, by decide, by decide +kernel⟩
theorem mwX3_addLine : MW yX3_addLine cX3_addLine 4 none 3 := ⟨wd_545, wd_5, by decide, by decide, by decide +kernel⟩
theorem mwX3_pushFront : MW yX3_pushFront cX3_pushFront 3 none 2 := ⟨wd_548, wd_5, by decide, by decide, by decide +kernel⟩
theorem mwX3_numberOfLine : MW yX3_numberOfLine cX3_numberOfLine 3 (some .int) 2 := ⟨wd_464, wd_5, by decide, by decide, by decide +kernel⟩
theorem mwX3_textLength : MW yX3_textLength cX3_textLength 2 (some .int) 1 := ⟨wd_469, wd_5, by decide, by decide, by decide +kernel⟩
theorem mwX3_sign : MW yX3_sign cX3_sign 3 (some .int) 2 := ⟨wd_474, wd_5, by decide, by decide, by decide +kernel⟩
theorem mwX4_init : MW yX4_init cX4_init 1 none 0 := ⟨wd_74, wd_6, by decide, by decide, by decide +kernel⟩
theorem mwX4_copyFrom : MW yX4_copyFrom cX4_copyFrom 2 none 1 := ⟨wd_376, wd_6, by decide, by decide, by decide +kernel⟩
theorem mwX4_addLine : MW yX4_addLine cX4_addLine 4 none 3 := ⟨wd_554, wd_6, by decide, by decide, by decide +kernel⟩
theorem mwX4_addDots : MW yX4_addDots cX4_addDots 3 none 2 := ⟨wd_558, wd_6, by decide, by decide, by decide +kernel⟩
theorem mwX4_dotByDot : MW yX4_dotByDot cX4_dotByDot 3 (some .int) 0 := ⟨wd_407, wd_6, by decide, by decide, by decide +kernel⟩
theorem mwX4_darkShare : MW yX4_darkShare cX4_darkShare 1 (some .double) 0 := ⟨wd_385, wd_6, by decide, by decide, by decide +kernel⟩
theorem mwX5_init : MW yX5_init cX5_init 2 none 0 := ⟨wd_27, wd_1, by decide, by decide, by decide +kernel⟩
theorem mwX5_line : MW yX5_line cX5_line 2 (some .int) 1 := ⟨wd_604, wd_1, by decide, by decide, by decide +kernel⟩
theorem mwX5_lines : MW yX5_lines cX5_lines 4 (some .int) 2 := ⟨wd_694, wd_1, by decide, by decide, by decide +kernel⟩
theorem mwX5_rest : MW yX5_rest cX5_rest 2 (some .int) 1 := ⟨wd_707, wd_1, by decide, by decide, by decide +kernel⟩
theorem mwX5_paper : MW yX5_paper cX5_paper 3 (some .int) 1 := ⟨wd_716, wd_1, by decide, by decide, by decide +kernel⟩
theorem mwX5_set : MW yX5_set cX5_set 4 (some .int) 2 := ⟨wd_729, wd_1, by decide, by decide, by decide +kernel⟩
theorem mwX5_append : MW yX5_append cX5_append 2 (some .int) 1 := ⟨wd_757, wd_1, by decide, by decide, by decide +kernel⟩
theorem mwX5_clearBuffer : MW yX5_clearBuffer cX5_clearBuffer 2 (some .int) 0 := ⟨wd_231, wd_1, by decide, by decide, by decide +kernel⟩
theorem mwX5_firstError : MW yX5_firstError cX5_firstError 1 (some .int) 0 := ⟨wd_235, wd_1, by decide, by decide, by decide +kernel⟩
theorem mwX5_print : MW yX5_print cX5_print 4 (some .int) 0 := ⟨wd_790, wd_1, by decide, by decide, by decide +kernel⟩
theorem mwX5_told : MW yX5_told cX5_told 3 (some .int) 2 := ⟨wd_806, wd_1, by decide, by decide, by decide +kernel⟩
theorem mwX5_undo : MW yX5_undo cX5_undo 2 (some .int) 0 := ⟨wd_814, wd_1, by decide, by decide, by decide +kernel⟩
theorem mwX5_keep : MW yX5_keep cX5_keep 1 (some .int) 0 := ⟨wd_363, wd_1, by decide, by decide, by decide +kernel⟩
theorem mwX5_restore : MW yX5_restore cX5_restore 1 (some .int) 0 := ⟨wd_822, wd_1, by decide, by decide, by decide +kernel⟩
theorem mwX5_dot : MW yX5_dot cX5_dot 3 (some .int) 2 := ⟨wd_830, wd_1, by decide, by decide, by decide +kernel⟩
theorem mwX5_kept : MW yX5_kept cX5_kept 3 (some .int) 2 := ⟨wd_842, wd_1, by decide, by decide, by decide +kernel⟩
theorem mwX5_count : MW yX5_count cX5_count 2 (some .int) 1 := ⟨wd_850, wd_1, by decide, by decide, by decide +kernel⟩
theorem mwX5_ifPrinted : MW yX5_ifPrinted cX5_ifPrinted 3 (some .int) 2 := ⟨wd_857, wd_1, by decide, by decide, by decide +kernel⟩
theorem mwX5_betterWay : MW yX5_betterWay cX5_betterWay 2 (some .int) 1 := ⟨wd_865, wd_1, by decide, by decide, by decide +kernel⟩
theorem mwX5_coolIn : MW yX5_coolIn cX5_coolIn 2 (some .int) 1 := ⟨wd_872, wd_1, by decide, by decide, by decide +kernel⟩
theorem mwX5_darkFrom : MW yX5_darkFrom cX5_darkFrom 2 (some .int) 1 := ⟨wd_880, wd_1, by decide, by decide, by decide +kernel⟩
theorem mwX5_darkness : MW yX5_darkness cX5_darkness 1 (some .double) 0 := ⟨wd_381, wd_1, by decide, by decide, by decide +kernel⟩
theorem mwX5_meanHeat : MW yX5_meanHeat cX5_meanHeat 1 (some .float) 0 := ⟨wd_389, wd_1, by decide, by decide, by decide +kernel⟩
theorem mwX5_digest : MW yX5_digest cX5_digest 4 (some .long) 0 := ⟨wd_398, wd_1, by decide, by decide, by decide +kernel⟩
theorem mwX5_saveState : MW yX5_saveState cX5_saveState 2 none 0 := ⟨wd_679, wd_1, by decide, by decide, by decide +kernel⟩
theorem mwX5_dropOldest : MW yX5_dropOldest cX5_dropOldest 3 none 0 := ⟨wd_683, wd_1, by decide, by decide, by decide +kernel⟩
theorem mwX5_savedAt : MW yX5_savedAt cX5_savedAt 2 (some (.object "HeadDots$State")) 1 := ⟨wd_687, wd_1, by decide, by decide, by decide +kernel⟩
theorem mwX5_printPartOfText : MW yX5_printPartOfText cX5_printPartOfText 1 none 0 := ⟨wd_797, wd_1, by decide, by decide, by decide +kernel⟩
theorem mwX5_counted : MW yX5_counted cX5_counted 3 (some .int) 1 := ⟨wd_403, wd_1, by decide, by decide, by decide +kernel⟩
theorem mwX5_tryLine : MW yX5_tryLine cX5_tryLine 3 none 2 := ⟨wd_486, wd_1, by decide, by decide, by decide +kernel⟩
theorem mwX5_tried : MW yX5_tried cX5_tried 3 (some .int) 1 := ⟨wd_563, wd_1, by decide, by decide, by decide +kernel⟩
theorem mwX5_fasterWay : MW yX5_fasterWay cX5_fasterWay 3 (some .int) 1 := ⟨wd_568, wd_1, by decide, by decide, by decide +kernel⟩
theorem mwX5_mixedDots : MW yX5_mixedDots cX5_mixedDots 7 (some .long) 1 := ⟨wd_427, wd_1, by decide, by decide, by decide +kernel⟩
theorem mwX5_mixedStrip : MW yX5_mixedStrip cX5_mixedStrip 9 (some .long) 1 := ⟨wd_460, wd_1, by decide, by decide, by decide +kernel⟩
theorem mwX5_mixedTrials : MW yX5_mixedTrials cX5_mixedTrials 7 (some .long) 1 := ⟨wd_480, wd_1, by decide, by decide, by decide +kernel⟩
theorem mwX5_mixedBuffer : MW yX5_mixedBuffer cX5_mixedBuffer 6 (some .long) 1 := ⟨wd_595, wd_1, by decide, by decide, by decide +kernel⟩
theorem mwX5_mixed : MW yX5_mixed cX5_mixed 4 (some .long) 2 := ⟨wd_422, wd_1, by decide, by decide, by decide +kernel⟩
theorem mwX5_bitsOfDouble : MW yX5_bitsOfDouble cX5_bitsOfDouble 7 (some .long) 1 := ⟨wd_584, wd_1, by decide, by decide, by decide +kernel⟩
theorem mwX5_bitsOfFloat : MW yX5_bitsOfFloat cX5_bitsOfFloat 4 (some .int) 1 := ⟨wd_590, wd_1, by decide, by decide, by decide +kernel⟩
theorem mwX5_isWithin : MW yX5_isWithin cX5_isWithin 3 (some .boolean) 3 := ⟨wd_344, wd_1, by decide, by decide, by decide +kernel⟩
theorem mwX5_isLine : MW yX5_isLine cX5_isLine 1 (some .boolean) 1 := ⟨wd_607, wd_1, by decide, by decide, by decide +kernel⟩
theorem mwX5_isDot : MW yX5_isDot cX5_isDot 1 (some .boolean) 1 := ⟨wd_833, wd_1, by decide, by decide, by decide +kernel⟩
theorem mwX5_bitOf : MW yX5_bitOf cX5_bitOf 2 (some .int) 2 := ⟨wd_434, wd_1, by decide, by decide, by decide +kernel⟩
theorem mwX5_at : MW yX5_at cX5_at 2 (some .int) 2 := ⟨wd_250, wd_1, by decide, by decide, by decide +kernel⟩
theorem mwX5_put : MW yX5_put cX5_put 3 none 3 := ⟨wd_493, wd_1, by decide, by decide, by decide +kernel⟩
theorem mwX5_copyRow : MW yX5_copyRow cX5_copyRow 2 none 2 := ⟨wd_41, wd_1, by decide, by decide, by decide +kernel⟩
theorem mwX6_init : MW yX6_init cX6_init 1 none 0 := ⟨wd_885, wd_9, by decide, by decide, by decide +kernel⟩
theorem mwX6_thrown : MW yX6_thrown cX6_thrown 1 (some .int) 0 := ⟨wd_945, wd_9, by decide, by decide, by decide +kernel⟩
theorem mwX6_fails : MW yX6_fails cX6_fails 2 (some .int) 1 := ⟨wd_953, wd_9, by decide, by decide, by decide +kernel⟩
theorem mwX6_in : MW yX6_in cX6_in 3 (some .boolean) 3 := ⟨wd_976, wd_9, by decide, by decide, by decide +kernel⟩
theorem mwX6_isLine : MW yX6_isLine cX6_isLine 1 (some .boolean) 1 := ⟨wd_972, wd_9, by decide, by decide, by decide +kernel⟩
theorem mwX6_save : MW yX6_save cX6_save 2 none 0 := ⟨wd_965, wd_9, by decide, by decide, by decide +kernel⟩
theorem mwX6_putAside : MW yX6_putAside cX6_putAside 2 none 0 := ⟨wd_1165, wd_9, by decide, by decide, by decide +kernel⟩
theorem mwX6_putBack : MW yX6_putBack cX6_putBack 2 none 0 := ⟨wd_1169, wd_9, by decide, by decide, by decide +kernel⟩
theorem mwX6_undo : MW yX6_undo cX6_undo 2 (some .int) 0 := ⟨wd_949, wd_9, by decide, by decide, by decide +kernel⟩
theorem mwX6_keep : MW yX6_keep cX6_keep 2 (some .int) 0 := ⟨wd_957, wd_9, by decide, by decide, by decide +kernel⟩
theorem mwX6_restore : MW yX6_restore cX6_restore 2 (some .int) 0 := ⟨wd_961, wd_9, by decide, by decide, by decide +kernel⟩
theorem mwX6_cooled : MW yX6_cooled cX6_cooled 3 (some .int) 1 := ⟨wd_1018, wd_9, by decide, by decide, by decide +kernel⟩
theorem mwX6_pass : MW yX6_pass cX6_pass 4 none 1 := ⟨wd_1014, wd_9, by decide, by decide, by decide +kernel⟩
theorem mwX6_bit : MW yX6_bit cX6_bit 2 (some .int) 2 := ⟨wd_998, wd_9, by decide, by decide, by decide +kernel⟩
theorem mwX6_pulseBy : MW yX6_pulseBy cX6_pulseBy 6 (some .int) 3 := ⟨wd_1010, wd_9, by decide, by decide, by decide +kernel⟩
theorem mwX6_pulse : MW yX6_pulse cX6_pulse 3 (some .int) 2 := ⟨wd_1006, wd_9, by decide, by decide, by decide +kernel⟩
theorem mwX6_darkHeat : MW yX6_darkHeat cX6_darkHeat 1 (some .int) 0 := ⟨wd_1026, wd_9, by decide, by decide, by decide +kernel⟩
theorem mwX6_ones : MW yX6_ones cX6_ones 3 (some .int) 1 := ⟨wd_987, wd_9, by decide, by decide, by decide +kernel⟩
theorem mwX6_atOnce : MW yX6_atOnce cX6_atOnce 2 (some .int) 0 := ⟨wd_991, wd_9, by decide, by decide, by decide +kernel⟩
theorem mwX6_partsOf : MW yX6_partsOf cX6_partsOf 2 (some .int) 1 := ⟨wd_984, wd_9, by decide, by decide, by decide +kernel⟩
theorem mwX6_dotsOfPart : MW yX6_dotsOfPart cX6_dotsOfPart 8 (some .int) 2 := ⟨wd_995, wd_9, by decide, by decide, by decide +kernel⟩
theorem mwX6_isCool : MW yX6_isCool cX6_isCool 5 (some .boolean) 2 := ⟨wd_1002, wd_9, by decide, by decide, by decide +kernel⟩
theorem mwX6_printPart : MW yX6_printPart cX6_printPart 7 (some .int) 2 := ⟨wd_1022, wd_9, by decide, by decide, by decide +kernel⟩
theorem mwX6_keepLine : MW yX6_keepLine cX6_keepLine 4 none 2 := ⟨wd_1030, wd_9, by decide, by decide, by decide +kernel⟩
theorem mwX6_printLine : MW yX6_printLine cX6_printLine 6 (some .int) 1 := ⟨wd_980, wd_9, by decide, by decide, by decide +kernel⟩
theorem mwX6_sum : MW yX6_sum cX6_sum 4 (some .int) 1 := ⟨wd_1042, wd_9, by decide, by decide, by decide +kernel⟩
theorem mwX6_hottestNow : MW yX6_hottestNow cX6_hottestNow 3 (some .int) 0 := ⟨wd_1050, wd_9, by decide, by decide, by decide +kernel⟩
theorem mwX6_line : MW yX6_line cX6_line 2 (some .int) 1 := ⟨wd_969, wd_9, by decide, by decide, by decide +kernel⟩
theorem mwX6_printSome : MW yX6_printSome cX6_printSome 6 (some .int) 2 := ⟨wd_1038, wd_9, by decide, by decide, by decide +kernel⟩
theorem mwX6_lines : MW yX6_lines cX6_lines 3 (some .int) 2 := ⟨wd_1034, wd_9, by decide, by decide, by decide +kernel⟩
theorem mwX6_rest : MW yX6_rest cX6_rest 2 (some .int) 1 := ⟨wd_1046, wd_9, by decide, by decide, by decide +kernel⟩
theorem mwX6_paperNow : MW yX6_paperNow cX6_paperNow 4 (some .int) 1 := ⟨wd_1058, wd_9, by decide, by decide, by decide +kernel⟩
theorem mwX6_paper : MW yX6_paper cX6_paper 2 (some .int) 1 := ⟨wd_1054, wd_9, by decide, by decide, by decide +kernel⟩
theorem mwX6_maySet : MW yX6_maySet cX6_maySet 2 (some .boolean) 2 := ⟨wd_1065, wd_9, by decide, by decide, by decide +kernel⟩
theorem mwX6_set : MW yX6_set cX6_set 4 (some .int) 2 := ⟨wd_1062, wd_9, by decide, by decide, by decide +kernel⟩
theorem mwX6_append : MW yX6_append cX6_append 2 (some .int) 1 := ⟨wd_1069, wd_9, by decide, by decide, by decide +kernel⟩
theorem mwX6_clearBuffer : MW yX6_clearBuffer cX6_clearBuffer 2 (some .int) 0 := ⟨wd_1073, wd_9, by decide, by decide, by decide +kernel⟩
theorem mwX6_sign : MW yX6_sign cX6_sign 1 (some .int) 0 := ⟨wd_1093, wd_9, by decide, by decide, by decide +kernel⟩
theorem mwX6_takes : MW yX6_takes cX6_takes 3 (some .boolean) 1 := ⟨wd_1089, wd_9, by decide, by decide, by decide +kernel⟩
theorem mwX6_takesFour : MW yX6_takesFour cX6_takesFour 5 (some .boolean) 4 := ⟨wd_1097, wd_9, by decide, by decide, by decide +kernel⟩
theorem mwX6_addPart : MW yX6_addPart cX6_addPart 4 (some .boolean) 3 := ⟨wd_1109, wd_9, by decide, by decide, by decide +kernel⟩
theorem mwX6_readNumber : MW yX6_readNumber cX6_readNumber 3 (some .int) 1 := ⟨wd_1105, wd_9, by decide, by decide, by decide +kernel⟩
theorem mwX6_readLine : MW yX6_readLine cX6_readLine 4 (some .boolean) 0 := ⟨wd_1101, wd_9, by decide, by decide, by decide +kernel⟩
theorem mwX6_readPaper : MW yX6_readPaper cX6_readPaper 1 (some .boolean) 0 := ⟨wd_1113, wd_9, by decide, by decide, by decide +kernel⟩
theorem mwX6_readRest : MW yX6_readRest cX6_readRest 2 (some .boolean) 0 := ⟨wd_1117, wd_9, by decide, by decide, by decide +kernel⟩
theorem mwX6_readPart : MW yX6_readPart cX6_readPart 1 (some .boolean) 0 := ⟨wd_1085, wd_9, by decide, by decide, by decide +kernel⟩
theorem mwX6_arePrints : MW yX6_arePrints cX6_arePrints 2 (some .boolean) 0 := ⟨wd_1081, wd_9, by decide, by decide, by decide +kernel⟩
theorem mwX6_firstError : MW yX6_firstError cX6_firstError 1 (some .int) 0 := ⟨wd_1077, wd_9, by decide, by decide, by decide +kernel⟩
theorem mwX6_print : MW yX6_print cX6_print 4 (some .int) 0 := ⟨wd_1121, wd_9, by decide, by decide, by decide +kernel⟩
theorem mwX6_toldAt : MW yX6_toldAt cX6_toldAt 4 (some .int) 2 := ⟨wd_1129, wd_9, by decide, by decide, by decide +kernel⟩
theorem mwX6_told : MW yX6_told cX6_told 3 (some .int) 2 := ⟨wd_1125, wd_9, by decide, by decide, by decide +kernel⟩
theorem mwX6_waitOf : MW yX6_waitOf cX6_waitOf 4 (some .int) 1 := ⟨wd_1141, wd_9, by decide, by decide, by decide +kernel⟩
theorem mwX6_ofDot : MW yX6_ofDot cX6_ofDot 3 (some .int) 2 := ⟨wd_1137, wd_9, by decide, by decide, by decide +kernel⟩
theorem mwX6_dot : MW yX6_dot cX6_dot 3 (some .int) 2 := ⟨wd_1133, wd_9, by decide, by decide, by decide +kernel⟩
theorem mwX6_kept : MW yX6_kept cX6_kept 3 (some .int) 2 := ⟨wd_1145, wd_9, by decide, by decide, by decide +kernel⟩
theorem mwX6_number : MW yX6_number cX6_number 2 (some .int) 1 := ⟨wd_1153, wd_9, by decide, by decide, by decide +kernel⟩
theorem mwX6_count : MW yX6_count cX6_count 2 (some .int) 1 := ⟨wd_1149, wd_9, by decide, by decide, by decide +kernel⟩
theorem mwX6_wouldBring : MW yX6_wouldBring cX6_wouldBring 7 (some .int) 2 := ⟨wd_1161, wd_9, by decide, by decide, by decide +kernel⟩
theorem mwX6_ifPrinted : MW yX6_ifPrinted cX6_ifPrinted 3 (some .int) 2 := ⟨wd_1157, wd_9, by decide, by decide, by decide +kernel⟩
theorem mwX6_better : MW yX6_better cX6_better 5 (some .int) 1 := ⟨wd_1177, wd_9, by decide, by decide, by decide +kernel⟩
theorem mwX6_betterWay : MW yX6_betterWay cX6_betterWay 2 (some .int) 1 := ⟨wd_1173, wd_9, by decide, by decide, by decide +kernel⟩
theorem mwX6_timeToCool : MW yX6_timeToCool cX6_timeToCool 4 (some .int) 1 := ⟨wd_1185, wd_9, by decide, by decide, by decide +kernel⟩
theorem mwX6_coolIn : MW yX6_coolIn cX6_coolIn 2 (some .int) 1 := ⟨wd_1181, wd_9, by decide, by decide, by decide +kernel⟩
theorem mwX6_isDarkBy : MW yX6_isDarkBy cX6_isDarkBy 5 (some .boolean) 2 := ⟨wd_1197, wd_9, by decide, by decide, by decide +kernel⟩
theorem mwX6_leastDark : MW yX6_leastDark cX6_leastDark 4 (some .int) 1 := ⟨wd_1193, wd_9, by decide, by decide, by decide +kernel⟩
theorem mwX6_darkFrom : MW yX6_darkFrom cX6_darkFrom 2 (some .int) 1 := ⟨wd_1189, wd_9, by decide, by decide, by decide +kernel⟩
theorem mwX6_share : MW yX6_share cX6_share 2 (some .double) 0 := ⟨wd_1205, wd_9, by decide, by decide, by decide +kernel⟩
theorem mwX6_darkness : MW yX6_darkness cX6_darkness 1 (some .double) 0 := ⟨wd_1201, wd_9, by decide, by decide, by decide +kernel⟩
theorem mwX6_mean : MW yX6_mean cX6_mean 1 (some .float) 0 := ⟨wd_1213, wd_9, by decide, by decide, by decide +kernel⟩
theorem mwX6_meanHeat : MW yX6_meanHeat cX6_meanHeat 1 (some .float) 0 := ⟨wd_1209, wd_9, by decide, by decide, by decide +kernel⟩
theorem mwX6_mix : MW yX6_mix cX6_mix 3 none 1 := ⟨wd_1223, wd_9, by decide, by decide, by decide +kernel⟩
theorem mwX6_mixStrip : MW yX6_mixStrip cX6_mixStrip 3 none 0 := ⟨wd_1228, wd_9, by decide, by decide, by decide +kernel⟩
theorem mwX6_digest : MW yX6_digest cX6_digest 2 (some .long) 0 := ⟨wd_1218, wd_9, by decide, by decide, by decide +kernel⟩
theorem mwJ6_bitCount_0f7a4 : MW yJ6_bitCount_0f7a4 cJ6_bitCount_0f7a4 1 (some .int) 1 := ⟨wd_504, wd_14, by decide, by decide, by decide +kernel⟩
theorem iwX0_isFull : IW yX0_isFull := ⟨wd_760, wd_761⟩
theorem iwX0_addCode : IW yX0_addCode := ⟨wd_780, wd_781⟩
theorem iwX0_codeAt : IW yX0_codeAt := ⟨wd_245, wd_246⟩
theorem iwX1_beginPart : IW yX1_beginPart := ⟨wd_241, wd_242⟩
theorem iwX1_readUntilError : IW yX1_readUntilError := ⟨wd_237, wd_238⟩
theorem iwX1_isComplete : IW yX1_isComplete := ⟨wd_260, wd_261⟩
theorem iwX1_take : IW yX1_take := ⟨wd_252, wd_253⟩
theorem iwX1_takeBetween : IW yX1_takeBetween := ⟨wd_257, bws 0 (by decide +kernel) (by decide +kernel)⟩
theorem iwX1_takeFirst : IW yX1_takeFirst := ⟨wd_265, bws 1 (by decide +kernel) (by decide +kernel)⟩
theorem iwX1_takeFirstOfPaper : IW yX1_takeFirstOfPaper := ⟨wd_347, bws 7 (by decide +kernel) (by decide +kernel)⟩
theorem iwX1_beginKind : IW yX1_beginKind := ⟨wd_270, bws 2 (by decide +kernel) (by decide +kernel)⟩
theorem iwX1_beginPaper : IW yX1_beginPaper := ⟨wd_352, bws 8 (by decide +kernel) (by decide +kernel)⟩
theorem iwX1_beginWord : IW yX1_beginWord := ⟨wd_274, bws 3 (by decide +kernel) (by decide +kernel)⟩
theorem iwX1_takeOfWord : IW yX1_takeOfWord := ⟨wd_281, bws 4 (by decide +kernel) (by decide +kernel)⟩
theorem iwX1_takeOfDots : IW yX1_takeOfDots := ⟨wd_333, bws 5 (by decide +kernel) (by decide +kernel)⟩
theorem iwX1_takeStar : IW yX1_takeStar := ⟨wd_337, bws 6 (by decide +kernel) (by decide +kernel)⟩
theorem iwX1_takeDigit : IW yX1_takeDigit := ⟨wd_358, bws 9 (by decide +kernel) (by decide +kernel)⟩
theorem iwX2_copyFrom : IW yX2_copyFrom := ⟨wd_365, wd_366⟩
theorem iwX2_setting : IW yX2_setting := ⟨wd_416, wd_417⟩
theorem iwX2_changeSetting : IW yX2_changeSetting := ⟨wd_488, wd_489⟩
theorem iwX2_changePaper : IW yX2_changePaper := ⟨wd_719, wd_720⟩
theorem iwX2_printLines : IW yX2_printLines := ⟨wd_697, wd_698⟩
theorem iwX2_printLine : IW yX2_printLine := ⟨wd_495, wd_496⟩
theorem iwX2_dotsAtOnce : IW yX2_dotsAtOnce := ⟨wd_500, bws 19 (by decide +kernel) (by decide +kernel)⟩
theorem iwX2_preparePulses : IW yX2_preparePulses := ⟨wd_510, bws 20 (by decide +kernel) (by decide +kernel)⟩
theorem iwX2_dotsOfPart : IW yX2_dotsOfPart := ⟨wd_514, bws 21 (by decide +kernel) (by decide +kernel)⟩
theorem iwX2_waitOfPart : IW yX2_waitOfPart := ⟨wd_518, bws 22 (by decide +kernel) (by decide +kernel)⟩
theorem iwX2_heatPart : IW yX2_heatPart := ⟨wd_530, bws 24 (by decide +kernel) (by decide +kernel)⟩
theorem iwX2_longestPulse : IW yX2_longestPulse := ⟨wd_540, bws 26 (by decide +kernel) (by decide +kernel)⟩
theorem iwX2_pulseIn : IW yX2_pulseIn := ⟨wd_441, bws 13 (by decide +kernel) (by decide +kernel)⟩
theorem iwX2_pulseAlone : IW yX2_pulseAlone := ⟨wd_437, bws 12 (by decide +kernel) (by decide +kernel)⟩
theorem iwX2_waitFor : IW yX2_waitFor := ⟨wd_447, bws 14 (by decide +kernel) (by decide +kernel)⟩
theorem iwX2_isDark : IW yX2_isDark := ⟨wd_534, bws 25 (by decide +kernel) (by decide +kernel)⟩
theorem iwX2_passTime : IW yX2_passTime := ⟨wd_521, wd_522⟩
theorem iwX2_cooledFor : IW yX2_cooledFor := ⟨wd_526, bws 23 (by decide +kernel) (by decide +kernel)⟩
theorem iwX2_timeDownTo : IW yX2_timeDownTo := ⟨wd_451, bws 15 (by decide +kernel) (by decide +kernel)⟩
theorem iwX2_timeUntilCool : IW yX2_timeUntilCool := ⟨wd_570, wd_571⟩
theorem iwX2_hottestDot : IW yX2_hottestDot := ⟨wd_409, wd_410⟩
theorem iwX2_leastDarkSetting : IW yX2_leastDarkSetting := ⟨wd_575, wd_576⟩
theorem iwX2_mean : IW yX2_mean := ⟨wd_391, wd_392⟩
theorem iwX2_numberOfDot : IW yX2_numberOfDot := ⟨wd_429, wd_430⟩
theorem iwX3_copyFrom : IW yX3_copyFrom := ⟨wd_369, wd_370⟩
theorem iwX3_addLine : IW yX3_addLine := ⟨wd_543, wd_544⟩
theorem iwX3_numberOfLine : IW yX3_numberOfLine := ⟨wd_462, wd_463⟩
theorem iwX3_textLength : IW yX3_textLength := ⟨wd_467, wd_468⟩
theorem iwX3_sign : IW yX3_sign := ⟨wd_472, wd_473⟩
theorem iwX4_copyFrom : IW yX4_copyFrom := ⟨wd_374, wd_375⟩
theorem iwX4_addLine : IW yX4_addLine := ⟨wd_552, wd_553⟩
theorem iwX4_dotByDot : IW yX4_dotByDot := ⟨wd_405, wd_406⟩
theorem iwX4_darkShare : IW yX4_darkShare := ⟨wd_383, wd_384⟩
theorem iwX5_line : IW yX5_line := ⟨wd_602, wd_603⟩
theorem iwX5_lines : IW yX5_lines := ⟨wd_692, wd_693⟩
theorem iwX5_rest : IW yX5_rest := ⟨wd_705, wd_706⟩
theorem iwX5_paper : IW yX5_paper := ⟨wd_714, wd_715⟩
theorem iwX5_set : IW yX5_set := ⟨wd_727, wd_728⟩
theorem iwX5_append : IW yX5_append := ⟨wd_755, wd_756⟩
theorem iwX5_clearBuffer : IW yX5_clearBuffer := ⟨wd_229, wd_230⟩
theorem iwX5_firstError : IW yX5_firstError := ⟨wd_233, wd_234⟩
theorem iwX5_print : IW yX5_print := ⟨wd_788, wd_789⟩
theorem iwX5_told : IW yX5_told := ⟨wd_804, wd_805⟩
theorem iwX5_undo : IW yX5_undo := ⟨wd_812, wd_813⟩
theorem iwX5_keep : IW yX5_keep := ⟨wd_361, wd_362⟩
theorem iwX5_restore : IW yX5_restore := ⟨wd_820, wd_821⟩
theorem iwX5_dot : IW yX5_dot := ⟨wd_828, wd_829⟩
theorem iwX5_kept : IW yX5_kept := ⟨wd_840, wd_841⟩
theorem iwX5_count : IW yX5_count := ⟨wd_848, wd_849⟩
theorem iwX5_ifPrinted : IW yX5_ifPrinted := ⟨wd_855, wd_856⟩
theorem iwX5_betterWay : IW yX5_betterWay := ⟨wd_863, wd_864⟩
theorem iwX5_coolIn : IW yX5_coolIn := ⟨wd_870, wd_871⟩
theorem iwX5_darkFrom : IW yX5_darkFrom := ⟨wd_878, wd_879⟩
theorem iwX5_darkness : IW yX5_darkness := ⟨wd_379, wd_380⟩
theorem iwX5_meanHeat : IW yX5_meanHeat := ⟨wd_387, wd_388⟩
theorem iwX5_digest : IW yX5_digest := ⟨wd_396, wd_397⟩
theorem iwX5_saveState : IW yX5_saveState := ⟨wd_678, bws 31 (by decide +kernel) (by decide +kernel)⟩
theorem iwX5_dropOldest : IW yX5_dropOldest := ⟨wd_682, bws 32 (by decide +kernel) (by decide +kernel)⟩
theorem iwX5_savedAt : IW yX5_savedAt := ⟨wd_686, bws 33 (by decide +kernel) (by decide +kernel)⟩
theorem iwX5_printPartOfText : IW yX5_printPartOfText := ⟨wd_796, bws 34 (by decide +kernel) (by decide +kernel)⟩
theorem iwX5_counted : IW yX5_counted := ⟨wd_402, bws 10 (by decide +kernel) (by decide +kernel)⟩
theorem iwX5_tryLine : IW yX5_tryLine := ⟨wd_485, bws 18 (by decide +kernel) (by decide +kernel)⟩
theorem iwX5_tried : IW yX5_tried := ⟨wd_562, bws 27 (by decide +kernel) (by decide +kernel)⟩
theorem iwX5_fasterWay : IW yX5_fasterWay := ⟨wd_567, bws 28 (by decide +kernel) (by decide +kernel)⟩
theorem iwX5_mixedDots : IW yX5_mixedDots := ⟨wd_426, bws 11 (by decide +kernel) (by decide +kernel)⟩
theorem iwX5_mixedStrip : IW yX5_mixedStrip := ⟨wd_459, bws 16 (by decide +kernel) (by decide +kernel)⟩
theorem iwX5_mixedTrials : IW yX5_mixedTrials := ⟨wd_479, bws 17 (by decide +kernel) (by decide +kernel)⟩
theorem iwX5_mixedBuffer : IW yX5_mixedBuffer := ⟨wd_594, bws 29 (by decide +kernel) (by decide +kernel)⟩
theorem iwX6_thrown : IW yX6_thrown := ⟨wd_943, wd_944⟩
theorem iwX6_fails : IW yX6_fails := ⟨wd_952, bws 35 (by decide +kernel) (by decide +kernel)⟩
theorem iwX6_save : IW yX6_save := ⟨wd_964, bws 36 (by decide +kernel) (by decide +kernel)⟩
theorem iwX6_putAside : IW yX6_putAside := ⟨wd_1164, bws 68 (by decide +kernel) (by decide +kernel)⟩
theorem iwX6_putBack : IW yX6_putBack := ⟨wd_1168, bws 69 (by decide +kernel) (by decide +kernel)⟩
theorem iwX6_undo : IW yX6_undo := ⟨wd_947, wd_948⟩
theorem iwX6_keep : IW yX6_keep := ⟨wd_955, wd_956⟩
theorem iwX6_restore : IW yX6_restore := ⟨wd_959, wd_960⟩
theorem iwX6_cooled : IW yX6_cooled := ⟨wd_1017, bws 45 (by decide +kernel) (by decide +kernel)⟩
theorem iwX6_pass : IW yX6_pass := ⟨wd_1013, bws 44 (by decide +kernel) (by decide +kernel)⟩
theorem iwX6_pulseBy : IW yX6_pulseBy := ⟨wd_1009, bws 43 (by decide +kernel) (by decide +kernel)⟩
theorem iwX6_pulse : IW yX6_pulse := ⟨wd_1005, bws 42 (by decide +kernel) (by decide +kernel)⟩
theorem iwX6_darkHeat : IW yX6_darkHeat := ⟨wd_1025, bws 47 (by decide +kernel) (by decide +kernel)⟩
theorem iwX6_atOnce : IW yX6_atOnce := ⟨wd_990, bws 39 (by decide +kernel) (by decide +kernel)⟩
theorem iwX6_partsOf : IW yX6_partsOf := ⟨wd_983, bws 38 (by decide +kernel) (by decide +kernel)⟩
theorem iwX6_dotsOfPart : IW yX6_dotsOfPart := ⟨wd_994, bws 40 (by decide +kernel) (by decide +kernel)⟩
theorem iwX6_isCool : IW yX6_isCool := ⟨wd_1001, bws 41 (by decide +kernel) (by decide +kernel)⟩
theorem iwX6_printPart : IW yX6_printPart := ⟨wd_1021, bws 46 (by decide +kernel) (by decide +kernel)⟩
theorem iwX6_keepLine : IW yX6_keepLine := ⟨wd_1029, bws 48 (by decide +kernel) (by decide +kernel)⟩
theorem iwX6_printLine : IW yX6_printLine := ⟨wd_979, bws 37 (by decide +kernel) (by decide +kernel)⟩
theorem iwX6_sum : IW yX6_sum := ⟨wd_1041, bws 50 (by decide +kernel) (by decide +kernel)⟩
theorem iwX6_hottestNow : IW yX6_hottestNow := ⟨wd_1049, bws 51 (by decide +kernel) (by decide +kernel)⟩
theorem iwX6_line : IW yX6_line := ⟨wd_967, wd_968⟩
theorem iwX6_printSome : IW yX6_printSome := ⟨wd_1037, bws 49 (by decide +kernel) (by decide +kernel)⟩
theorem iwX6_lines : IW yX6_lines := ⟨wd_1032, wd_1033⟩
theorem iwX6_rest : IW yX6_rest := ⟨wd_1044, wd_1045⟩
theorem iwX6_paperNow : IW yX6_paperNow := ⟨wd_1057, bws 52 (by decide +kernel) (by decide +kernel)⟩
theorem iwX6_paper : IW yX6_paper := ⟨wd_1052, wd_1053⟩
theorem iwX6_set : IW yX6_set := ⟨wd_1060, wd_1061⟩
theorem iwX6_append : IW yX6_append := ⟨wd_1067, wd_1068⟩
theorem iwX6_clearBuffer : IW yX6_clearBuffer := ⟨wd_1071, wd_1072⟩
theorem iwX6_sign : IW yX6_sign := ⟨wd_1092, bws 56 (by decide +kernel) (by decide +kernel)⟩
theorem iwX6_takes : IW yX6_takes := ⟨wd_1088, bws 55 (by decide +kernel) (by decide +kernel)⟩
theorem iwX6_takesFour : IW yX6_takesFour := ⟨wd_1096, bws 57 (by decide +kernel) (by decide +kernel)⟩
theorem iwX6_addPart : IW yX6_addPart := ⟨wd_1108, bws 60 (by decide +kernel) (by decide +kernel)⟩
theorem iwX6_readNumber : IW yX6_readNumber := ⟨wd_1104, bws 59 (by decide +kernel) (by decide +kernel)⟩
theorem iwX6_readLine : IW yX6_readLine := ⟨wd_1100, bws 58 (by decide +kernel) (by decide +kernel)⟩
theorem iwX6_readPaper : IW yX6_readPaper := ⟨wd_1112, bws 61 (by decide +kernel) (by decide +kernel)⟩
theorem iwX6_readRest : IW yX6_readRest := ⟨wd_1116, bws 62 (by decide +kernel) (by decide +kernel)⟩
theorem iwX6_readPart : IW yX6_readPart := ⟨wd_1084, bws 54 (by decide +kernel) (by decide +kernel)⟩
theorem iwX6_arePrints : IW yX6_arePrints := ⟨wd_1080, bws 53 (by decide +kernel) (by decide +kernel)⟩
theorem iwX6_firstError : IW yX6_firstError := ⟨wd_1075, wd_1076⟩
theorem iwX6_print : IW yX6_print := ⟨wd_1119, wd_1120⟩
theorem iwX6_toldAt : IW yX6_toldAt := ⟨wd_1128, bws 63 (by decide +kernel) (by decide +kernel)⟩
theorem iwX6_told : IW yX6_told := ⟨wd_1123, wd_1124⟩
theorem iwX6_waitOf : IW yX6_waitOf := ⟨wd_1140, bws 65 (by decide +kernel) (by decide +kernel)⟩
theorem iwX6_ofDot : IW yX6_ofDot := ⟨wd_1136, bws 64 (by decide +kernel) (by decide +kernel)⟩
theorem iwX6_dot : IW yX6_dot := ⟨wd_1131, wd_1132⟩
theorem iwX6_kept : IW yX6_kept := ⟨wd_1143, wd_1144⟩
theorem iwX6_number : IW yX6_number := ⟨wd_1152, bws 66 (by decide +kernel) (by decide +kernel)⟩
theorem iwX6_count : IW yX6_count := ⟨wd_1147, wd_1148⟩
theorem iwX6_wouldBring : IW yX6_wouldBring := ⟨wd_1160, bws 67 (by decide +kernel) (by decide +kernel)⟩
theorem iwX6_ifPrinted : IW yX6_ifPrinted := ⟨wd_1155, wd_1156⟩
theorem iwX6_better : IW yX6_better := ⟨wd_1176, bws 70 (by decide +kernel) (by decide +kernel)⟩
theorem iwX6_betterWay : IW yX6_betterWay := ⟨wd_1171, wd_1172⟩
theorem iwX6_timeToCool : IW yX6_timeToCool := ⟨wd_1184, bws 71 (by decide +kernel) (by decide +kernel)⟩
theorem iwX6_coolIn : IW yX6_coolIn := ⟨wd_1179, wd_1180⟩
theorem iwX6_isDarkBy : IW yX6_isDarkBy := ⟨wd_1196, bws 73 (by decide +kernel) (by decide +kernel)⟩
theorem iwX6_leastDark : IW yX6_leastDark := ⟨wd_1192, bws 72 (by decide +kernel) (by decide +kernel)⟩
theorem iwX6_darkFrom : IW yX6_darkFrom := ⟨wd_1187, wd_1188⟩
theorem iwX6_share : IW yX6_share := ⟨wd_1204, bws 74 (by decide +kernel) (by decide +kernel)⟩
theorem iwX6_darkness : IW yX6_darkness := ⟨wd_1199, wd_1200⟩
theorem iwX6_mean : IW yX6_mean := ⟨wd_1212, bws 75 (by decide +kernel) (by decide +kernel)⟩
theorem iwX6_meanHeat : IW yX6_meanHeat := ⟨wd_1207, wd_1208⟩
theorem iwX6_mix : IW yX6_mix := ⟨wd_1222, bws 76 (by decide +kernel) (by decide +kernel)⟩
theorem iwX6_mixStrip : IW yX6_mixStrip := ⟨wd_1227, bws 77 (by decide +kernel) (by decide +kernel)⟩
theorem iwX6_digest : IW yX6_digest := ⟨wd_1216, wd_1217⟩
end
section
def fX5_at (n1 : Nat) (f1 : Nat → Int32) (x2 : Int32) : Int32 := if x2 < 0 then (0) else (if (nI n1) ≤ x2 then (0) else (f1 x2.toNatClampNeg))
def fX5_bitOf (x1 : Int32) (x2 : Int32) : Int32 := if x2 < 0 then (0) else (if 24 ≤ x2 then (0) else ((x1 >>> (x2 &&& 31)) &&& 1))
def fX5_isWithin (x1 : Int32) (x2 : Int32) (x3 : Int32) : Int32 := if x1 < x2 then (0) else (if x3 < x1 then (0) else (1))
theorem dX5_at_0 : decode cX5_at 0 = .ok (.iload_n 1, 1) := by decide +kernel
theorem dX5_at_1 : decode cX5_at 1 = .ok (.ifCond .lt 15, 3) := by decide +kernel
theorem dX5_at_4 : decode cX5_at 4 = .ok (.iload_n 1, 1) := by decide +kernel
theorem dX5_at_5 : decode cX5_at 5 = .ok (.aload_n 0, 1) := by decide +kernel
theorem dX5_at_6 : decode cX5_at 6 = .ok (.arraylength, 1) := by decide +kernel
theorem dX5_at_7 : decode cX5_at 7 = .ok (.if_icmp .ge 9, 3) := by decide +kernel
theorem dX5_at_10 : decode cX5_at 10 = .ok (.aload_n 0, 1) := by decide +kernel
theorem dX5_at_11 : decode cX5_at 11 = .ok (.iload_n 1, 1) := by decide +kernel
theorem dX5_at_12 : decode cX5_at 12 = .ok (.iaload, 1) := by decide +kernel
theorem dX5_at_13 : decode cX5_at 13 = .ok (.goto 4, 3) := by decide +kernel
theorem dX5_at_16 : decode cX5_at 16 = .ok (.iconst 0, 1) := by decide +kernel
theorem dX5_at_17 : decode cX5_at 17 = .ok (.ireturn, 1) := by decide +kernel
set_option maxHeartbeats 1000000 in
set_option maxRecDepth 100000 in
theorem c_X5_at (l : Launch) (G : GT) (a1 : Nat) (n1 : Nat) (f1 : Nat → Int32) (x2 : Int32) : Met l yX5_at (Cond.code yX5_at cX5_at 2 (some .int) :: bigW) ({ frames := 0, cells := 0, slots := 0, locals := 0 }) (BP G [.ref a1, .int x2] (fun U H => RD a1 n1 f1 U H)) (QP (.int (fX5_at n1 f1 x2))) 0 0 (fun _ => False) := by
  refine met_of (by decide) (Nat.le_of_ble_eq_true rfl) ?_
  intro p e s m below meth c ls hC hKN hB0 hl
  have hR1 := hB0
  have hl : lv_has ls 2 [(0, .ref a1), (1, .int x2)] := hl
  have hg : fX5_at n1 f1 x2 = fX5_at n1 f1 x2 := rfl
  refine lv_iload_n hC.1 hC.2.1 dX5_at_0 rfl (lv_at hl 1 rfl) ?_
  refine lv_if_lt (tgt := 16) hC.1 hC.2.1 dX5_at_1 (by decide) (fun k1 => ?_) (fun k1 => ?_)
  · refine lv_iconst (v := 0) hC.1 hC.2.1 dX5_at_16 (by decide) ?_
    have e_1 : fX5_at n1 f1 x2 = 0 := by exact Eq.trans (if_pos k1) rfl
    have hg : fX5_at n1 f1 x2 = 0 := hg.trans (congrArg (fun z => z) e_1)
    exact eP_i hC (congrArg Value.int hg) dX5_at_17
  · refine lv_iload_n hC.1 hC.2.1 dX5_at_4 rfl (lv_at hl 1 rfl) ?_
    refine lv_aload_n hC.1 hC.2.1 dX5_at_5 rfl (lv_at hl 0 rfl) ?_
    refine rd_len hC hR1 dX5_at_6 ?_
    refine lv_icmp_ge (tgt := 16) hC.1 hC.2.1 dX5_at_7 (by decide) (fun k7 => ?_) (fun k7 => ?_)
    · refine lv_iconst (v := 0) hC.1 hC.2.1 dX5_at_16 (by decide) ?_
      have e_2 : fX5_at n1 f1 x2 = 0 := by exact Eq.trans (if_neg k1) (Eq.trans (if_pos k7) rfl)
      have hg : fX5_at n1 f1 x2 = 0 := hg.trans (congrArg (fun z => z) e_2)
      exact eP_i hC (congrArg Value.int hg) dX5_at_17
    · refine lv_aload_n hC.1 hC.2.1 dX5_at_10 rfl (lv_at hl 0 rfl) ?_
      refine lv_iload_n hC.1 hC.2.1 dX5_at_11 rfl (lv_at hl 1 rfl) ?_
      refine rd_ld hC hR1 (vp_path k1 k7) dX5_at_12 ?_
      refine lv_goto (tgt := 17) hC.1 hC.2.1 dX5_at_13 (by decide) ?_
      have e_3 : fX5_at n1 f1 x2 = f1 x2.toNatClampNeg := by exact Eq.trans (if_neg k1) (Eq.trans (if_neg k7) rfl)
      have hg : fX5_at n1 f1 x2 = f1 x2.toNatClampNeg := hg.trans (congrArg (fun z => z) e_3)
      exact eP_i hC (congrArg Value.int hg) dX5_at_17

theorem dX5_bitOf_0 : decode cX5_bitOf 0 = .ok (.iload_n 1, 1) := by decide +kernel
theorem dX5_bitOf_1 : decode cX5_bitOf 1 = .ok (.ifCond .lt 17, 3) := by decide +kernel
theorem dX5_bitOf_4 : decode cX5_bitOf 4 = .ok (.iload_n 1, 1) := by decide +kernel
theorem dX5_bitOf_5 : decode cX5_bitOf 5 = .ok (.bipush 24, 2) := by decide +kernel
theorem dX5_bitOf_7 : decode cX5_bitOf 7 = .ok (.if_icmp .ge 11, 3) := by decide +kernel
theorem dX5_bitOf_10 : decode cX5_bitOf 10 = .ok (.iload_n 0, 1) := by decide +kernel
theorem dX5_bitOf_11 : decode cX5_bitOf 11 = .ok (.iload_n 1, 1) := by decide +kernel
theorem dX5_bitOf_12 : decode cX5_bitOf 12 = .ok (.ishr, 1) := by decide +kernel
theorem dX5_bitOf_13 : decode cX5_bitOf 13 = .ok (.iconst 1, 1) := by decide +kernel
theorem dX5_bitOf_14 : decode cX5_bitOf 14 = .ok (.iand, 1) := by decide +kernel
theorem dX5_bitOf_15 : decode cX5_bitOf 15 = .ok (.goto 4, 3) := by decide +kernel
theorem dX5_bitOf_18 : decode cX5_bitOf 18 = .ok (.iconst 0, 1) := by decide +kernel
theorem dX5_bitOf_19 : decode cX5_bitOf 19 = .ok (.ireturn, 1) := by decide +kernel
set_option maxHeartbeats 1000000 in
set_option maxRecDepth 100000 in
theorem c_X5_bitOf (l : Launch) (G : GT) (x1 : Int32) (x2 : Int32) : Met l yX5_bitOf (Cond.code yX5_bitOf cX5_bitOf 2 (some .int) :: bigW) ({ frames := 0, cells := 0, slots := 0, locals := 0 }) (BP G [.int x1, .int x2] (fun U H => True)) (QP (.int (fX5_bitOf x1 x2))) 0 0 (fun _ => False) := by
  refine met_of (by decide) (Nat.le_of_ble_eq_true rfl) ?_
  intro p e s m below meth c ls hC hKN hB0 hl
  have hl : lv_has ls 2 [(0, .int x1), (1, .int x2)] := hl
  have hg : fX5_bitOf x1 x2 = fX5_bitOf x1 x2 := rfl
  refine lv_iload_n hC.1 hC.2.1 dX5_bitOf_0 rfl (lv_at hl 1 rfl) ?_
  refine lv_if_lt (tgt := 18) hC.1 hC.2.1 dX5_bitOf_1 (by decide) (fun k1 => ?_) (fun k1 => ?_)
  · refine lv_iconst (v := 0) hC.1 hC.2.1 dX5_bitOf_18 (by decide) ?_
    have e_1 : fX5_bitOf x1 x2 = 0 := by exact Eq.trans (if_pos k1) rfl
    have hg : fX5_bitOf x1 x2 = 0 := hg.trans (congrArg (fun z => z) e_1)
    exact eP_i hC (congrArg Value.int hg) dX5_bitOf_19
  · refine lv_iload_n hC.1 hC.2.1 dX5_bitOf_4 rfl (lv_at hl 1 rfl) ?_
    refine lv_bipush (v := 24) hC.1 hC.2.1 dX5_bitOf_5 (by decide +kernel) ?_
    refine lv_icmp_ge (tgt := 18) hC.1 hC.2.1 dX5_bitOf_7 (by decide) (fun k7 => ?_) (fun k7 => ?_)
    · refine lv_iconst (v := 0) hC.1 hC.2.1 dX5_bitOf_18 (by decide) ?_
      have e_2 : fX5_bitOf x1 x2 = 0 := by exact Eq.trans (if_neg k1) (Eq.trans (if_pos k7) rfl)
      have hg : fX5_bitOf x1 x2 = 0 := hg.trans (congrArg (fun z => z) e_2)
      exact eP_i hC (congrArg Value.int hg) dX5_bitOf_19
    · refine lv_iload_n hC.1 hC.2.1 dX5_bitOf_10 rfl (lv_at hl 0 rfl) ?_
      refine lv_iload_n hC.1 hC.2.1 dX5_bitOf_11 rfl (lv_at hl 1 rfl) ?_
      refine lv_ishr hC.1 hC.2.1 dX5_bitOf_12 ?_
      refine lv_iconst (v := 1) hC.1 hC.2.1 dX5_bitOf_13 (by decide) ?_
      refine lv_iand hC.1 hC.2.1 dX5_bitOf_14 ?_
      refine lv_goto (tgt := 19) hC.1 hC.2.1 dX5_bitOf_15 (by decide) ?_
      have e_3 : fX5_bitOf x1 x2 = (x1 >>> (x2 &&& 31)) &&& 1 := by exact Eq.trans (if_neg k1) (Eq.trans (if_neg k7) rfl)
      have hg : fX5_bitOf x1 x2 = (x1 >>> (x2 &&& 31)) &&& 1 := hg.trans (congrArg (fun z => z) e_3)
      exact eP_i hC (congrArg Value.int hg) dX5_bitOf_19

theorem dX5_isWithin_0 : decode cX5_isWithin 0 = .ok (.iload_n 0, 1) := by decide +kernel
theorem dX5_isWithin_1 : decode cX5_isWithin 1 = .ok (.iload_n 1, 1) := by decide +kernel
theorem dX5_isWithin_2 : decode cX5_isWithin 2 = .ok (.if_icmp .lt 12, 3) := by decide +kernel
theorem dX5_isWithin_5 : decode cX5_isWithin 5 = .ok (.iload_n 0, 1) := by decide +kernel
theorem dX5_isWithin_6 : decode cX5_isWithin 6 = .ok (.iload_n 2, 1) := by decide +kernel
theorem dX5_isWithin_7 : decode cX5_isWithin 7 = .ok (.if_icmp .gt 7, 3) := by decide +kernel
theorem dX5_isWithin_10 : decode cX5_isWithin 10 = .ok (.iconst 1, 1) := by decide +kernel
theorem dX5_isWithin_11 : decode cX5_isWithin 11 = .ok (.goto 4, 3) := by decide +kernel
theorem dX5_isWithin_14 : decode cX5_isWithin 14 = .ok (.iconst 0, 1) := by decide +kernel
theorem dX5_isWithin_15 : decode cX5_isWithin 15 = .ok (.ireturn, 1) := by decide +kernel
set_option maxHeartbeats 1000000 in
set_option maxRecDepth 100000 in
theorem c_X5_isWithin (l : Launch) (G : GT) (x1 : Int32) (x2 : Int32) (x3 : Int32) : Met l yX5_isWithin (Cond.code yX5_isWithin cX5_isWithin 3 (some .boolean) :: bigW) ({ frames := 0, cells := 0, slots := 0, locals := 0 }) (BP G [.int x1, .int x2, .int x3] (fun U H => True)) (QP (.int (fX5_isWithin x1 x2 x3))) 0 0 (fun _ => False) := by
  refine met_of (by decide) (Nat.le_of_ble_eq_true rfl) ?_
  intro p e s m below meth c ls hC hKN hB0 hl
  have hl : lv_has ls 3 [(0, .int x1), (1, .int x2), (2, .int x3)] := hl
  have hg : fX5_isWithin x1 x2 x3 = fX5_isWithin x1 x2 x3 := rfl
  refine lv_iload_n hC.1 hC.2.1 dX5_isWithin_0 rfl (lv_at hl 0 rfl) ?_
  refine lv_iload_n hC.1 hC.2.1 dX5_isWithin_1 rfl (lv_at hl 1 rfl) ?_
  refine lv_icmp_lt (tgt := 14) hC.1 hC.2.1 dX5_isWithin_2 (by decide) (fun k2 => ?_) (fun k2 => ?_)
  · refine lv_iconst (v := 0) hC.1 hC.2.1 dX5_isWithin_14 (by decide) ?_
    have e_1 : fX5_isWithin x1 x2 x3 = 0 := by exact Eq.trans (if_pos k2) rfl
    have hg : fX5_isWithin x1 x2 x3 = 0 := hg.trans (congrArg (fun z => z) e_1)
    exact eP_z hC (congrArg Value.int hg) rfl dX5_isWithin_15
  · refine lv_iload_n hC.1 hC.2.1 dX5_isWithin_5 rfl (lv_at hl 0 rfl) ?_
    refine lv_iload_n hC.1 hC.2.1 dX5_isWithin_6 rfl (lv_at hl 2 rfl) ?_
    refine lv_icmp_gt (tgt := 14) hC.1 hC.2.1 dX5_isWithin_7 (by decide) (fun k7 => ?_) (fun k7 => ?_)
    · refine lv_iconst (v := 0) hC.1 hC.2.1 dX5_isWithin_14 (by decide) ?_
      have e_2 : fX5_isWithin x1 x2 x3 = 0 := by exact Eq.trans (if_neg k2) (Eq.trans (if_pos k7) rfl)
      have hg : fX5_isWithin x1 x2 x3 = 0 := hg.trans (congrArg (fun z => z) e_2)
      exact eP_z hC (congrArg Value.int hg) rfl dX5_isWithin_15
    · refine lv_iconst (v := 1) hC.1 hC.2.1 dX5_isWithin_10 (by decide) ?_
      refine lv_goto (tgt := 15) hC.1 hC.2.1 dX5_isWithin_11 (by decide) ?_
      have e_3 : fX5_isWithin x1 x2 x3 = 1 := by exact Eq.trans (if_neg k2) (Eq.trans (if_neg k7) rfl)
      have hg : fX5_isWithin x1 x2 x3 = 1 := hg.trans (congrArg (fun z => z) e_3)
      exact eP_z hC (congrArg Value.int hg) rfl dX5_isWithin_15
end
section
def fX5_isLine (x1 : Int32) : Int32 := fX5_isWithin x1 0 16777215
def fX5_isDot (x1 : Int32) : Int32 := fX5_isWithin x1 0 23
def fX2_cooled (x1 : Int32) (x2 : Int32) : Int32 := if 1 ≤ x2 then (if 0 ≤ ((x1 - (x1 / x2)) - 1) then ((x1 - (x1 / x2)) - 1) else (0)) else (0)
theorem isWithin_01 (x a b : Int32) : fX5_isWithin x a b = 0 ∨ fX5_isWithin x a b = 1 := by
  unfold fX5_isWithin
  split
  · exact Or.inl rfl
  · split
    · exact Or.inl rfl
    · exact Or.inr rfl
theorem dX5_isLine_0 : decode cX5_isLine 0 = .ok (.iload_n 0, 1) := by decide +kernel
theorem dX5_isLine_1 : decode cX5_isLine 1 = .ok (.iconst 0, 1) := by decide +kernel
theorem dX5_isLine_2 : decode cX5_isLine 2 = .ok (.ldc_w 302, 3) := by decide +kernel
theorem dX5_isLine_5 : decode cX5_isLine 5 = .ok (.invokestatic 66, 3) := by decide +kernel
theorem dX5_isLine_8 : decode cX5_isLine 8 = .ok (.ireturn, 1) := by decide +kernel
set_option maxHeartbeats 1000000 in
set_option maxRecDepth 100000 in
theorem c_X5_isLine (l : Launch) (G : GT) (x1 : Int32) : Met l yX5_isLine (Cond.code yX5_isLine cX5_isLine 1 (some .boolean) :: bigW) ({ frames := 1, cells := 0, slots := 0, locals := 22 }) (BP G [.int x1] (fun U H => True)) (QP (.int (fX5_isLine x1))) 0 0 (fun _ => False) := by
  refine met_of (by decide) (Nat.le_of_ble_eq_true rfl) ?_
  intro p e s m below meth c ls hC hKN hB0 hl
  have hl : lv_has ls 1 [(0, .int x1)] := hl
  have hg : fX5_isLine x1 = fX5_isLine x1 := rfl
  refine lv_iload_n hC.1 hC.2.1 dX5_isLine_0 rfl (lv_at hl 0 rfl) ?_
  refine lv_iconst (v := 0) hC.1 hC.2.1 dX5_isLine_1 (by decide) ?_
  refine lv_ldcw (v := 16777215) hC.1 hC.2.1 hC.2.2.2.2.1 (hC.2.2.2.2.2.2.1 _ wd_481) dX5_isLine_2 ?_
  refine runP (rS (B := fun U H => True) (As := [.int x1, .int 0, .int 16777215]) (rest := []) hC mwX5_isWithin (c_X5_isWithin l G x1 0 16777215) wd_343 wd_608 ⟨rfl, rfl⟩ ⟨Nat.le_of_ble_eq_true rfl, Nat.le_of_ble_eq_true rfl⟩ (fun _ _ _ _ h => h) hKN trivial rfl hl.1 rfl (Nat.le_of_ble_eq_true rfl) dX5_isLine_5 ⟨Nat.zero_le _, Nat.zero_le _⟩) ?_
  have e_1 : fX5_isLine x1 = fX5_isWithin x1 0 16777215 := by exact rfl
  have hg : fX5_isLine x1 = fX5_isWithin x1 0 16777215 := hg.trans (congrArg (fun z => z) e_1)
  exact eP_z hC (congrArg Value.int hg) (nb01 (isWithin_01 _ _ _)) dX5_isLine_8

theorem dX5_isDot_0 : decode cX5_isDot 0 = .ok (.iload_n 0, 1) := by decide +kernel
theorem dX5_isDot_1 : decode cX5_isDot 1 = .ok (.iconst 0, 1) := by decide +kernel
theorem dX5_isDot_2 : decode cX5_isDot 2 = .ok (.bipush 23, 2) := by decide +kernel
theorem dX5_isDot_4 : decode cX5_isDot 4 = .ok (.invokestatic 66, 3) := by decide +kernel
theorem dX5_isDot_7 : decode cX5_isDot 7 = .ok (.ireturn, 1) := by decide +kernel
set_option maxHeartbeats 1000000 in
set_option maxRecDepth 100000 in
theorem c_X5_isDot (l : Launch) (G : GT) (x1 : Int32) : Met l yX5_isDot (Cond.code yX5_isDot cX5_isDot 1 (some .boolean) :: bigW) ({ frames := 1, cells := 0, slots := 0, locals := 22 }) (BP G [.int x1] (fun U H => True)) (QP (.int (fX5_isDot x1))) 0 0 (fun _ => False) := by
  refine met_of (by decide) (Nat.le_of_ble_eq_true rfl) ?_
  intro p e s m below meth c ls hC hKN hB0 hl
  have hl : lv_has ls 1 [(0, .int x1)] := hl
  have hg : fX5_isDot x1 = fX5_isDot x1 := rfl
  refine lv_iload_n hC.1 hC.2.1 dX5_isDot_0 rfl (lv_at hl 0 rfl) ?_
  refine lv_iconst (v := 0) hC.1 hC.2.1 dX5_isDot_1 (by decide) ?_
  refine lv_bipush (v := 23) hC.1 hC.2.1 dX5_isDot_2 (by decide +kernel) ?_
  refine runP (rS (B := fun U H => True) (As := [.int x1, .int 0, .int 23]) (rest := []) hC mwX5_isWithin (c_X5_isWithin l G x1 0 23) wd_343 wd_608 ⟨rfl, rfl⟩ ⟨Nat.le_of_ble_eq_true rfl, Nat.le_of_ble_eq_true rfl⟩ (fun _ _ _ _ h => h) hKN trivial rfl hl.1 rfl (Nat.le_of_ble_eq_true rfl) dX5_isDot_4 ⟨Nat.zero_le _, Nat.zero_le _⟩) ?_
  have e_1 : fX5_isDot x1 = fX5_isWithin x1 0 23 := by exact rfl
  have hg : fX5_isDot x1 = fX5_isWithin x1 0 23 := hg.trans (congrArg (fun z => z) e_1)
  exact eP_z hC (congrArg Value.int hg) (nb01 (isWithin_01 _ _ _)) dX5_isDot_7

theorem dX2_cooled_0 : decode cX2_cooled 0 = .ok (.iload_n 1, 1) := by decide +kernel
theorem dX2_cooled_1 : decode cX2_cooled 1 = .ok (.iconst 1, 1) := by decide +kernel
theorem dX2_cooled_2 : decode cX2_cooled 2 = .ok (.if_icmp .ge 7, 3) := by decide +kernel
theorem dX2_cooled_5 : decode cX2_cooled 5 = .ok (.iconst 0, 1) := by decide +kernel
theorem dX2_cooled_6 : decode cX2_cooled 6 = .ok (.goto 10, 3) := by decide +kernel
theorem dX2_cooled_9 : decode cX2_cooled 9 = .ok (.iload_n 0, 1) := by decide +kernel
theorem dX2_cooled_10 : decode cX2_cooled 10 = .ok (.iload_n 0, 1) := by decide +kernel
theorem dX2_cooled_11 : decode cX2_cooled 11 = .ok (.iload_n 1, 1) := by decide +kernel
theorem dX2_cooled_12 : decode cX2_cooled 12 = .ok (.idiv, 1) := by decide +kernel
theorem dX2_cooled_13 : decode cX2_cooled 13 = .ok (.isub, 1) := by decide +kernel
theorem dX2_cooled_14 : decode cX2_cooled 14 = .ok (.iconst 1, 1) := by decide +kernel
theorem dX2_cooled_15 : decode cX2_cooled 15 = .ok (.isub, 1) := by decide +kernel
theorem dX2_cooled_16 : decode cX2_cooled 16 = .ok (.istore_n 2, 1) := by decide +kernel
theorem dX2_cooled_17 : decode cX2_cooled 17 = .ok (.iload_n 2, 1) := by decide +kernel
theorem dX2_cooled_18 : decode cX2_cooled 18 = .ok (.ifCond .ge 7, 3) := by decide +kernel
theorem dX2_cooled_21 : decode cX2_cooled 21 = .ok (.iconst 0, 1) := by decide +kernel
theorem dX2_cooled_22 : decode cX2_cooled 22 = .ok (.goto 4, 3) := by decide +kernel
theorem dX2_cooled_25 : decode cX2_cooled 25 = .ok (.iload_n 2, 1) := by decide +kernel
theorem dX2_cooled_26 : decode cX2_cooled 26 = .ok (.ireturn, 1) := by decide +kernel
set_option maxHeartbeats 1000000 in
set_option maxRecDepth 100000 in
theorem c_X2_cooled (l : Launch) (G : GT) (x1 : Int32) (x2 : Int32) : Met l yX2_cooled (Cond.code yX2_cooled cX2_cooled 3 (some .int) :: bigW) ({ frames := 0, cells := 0, slots := 0, locals := 0 }) (BP G [.int x1, .int x2] (fun U H => True)) (QP (.int (fX2_cooled x1 x2))) 0 0 (fun _ => False) := by
  refine met_of (by decide) (Nat.le_of_ble_eq_true rfl) ?_
  intro p e s m below meth c ls hC hKN hB0 hl
  have hl : lv_has ls 3 [(0, .int x1), (1, .int x2)] := hl
  have hg : fX2_cooled x1 x2 = fX2_cooled x1 x2 := rfl
  refine lv_iload_n hC.1 hC.2.1 dX2_cooled_0 rfl (lv_at hl 1 rfl) ?_
  refine lv_iconst (v := 1) hC.1 hC.2.1 dX2_cooled_1 (by decide) ?_
  refine lv_icmp_ge (tgt := 9) hC.1 hC.2.1 dX2_cooled_2 (by decide) (fun k2 => ?_) (fun k2 => ?_)
  · refine lv_iload_n hC.1 hC.2.1 dX2_cooled_9 rfl (lv_at hl 0 rfl) ?_
    refine lv_iload_n hC.1 hC.2.1 dX2_cooled_10 rfl (lv_at hl 0 rfl) ?_
    refine lv_iload_n hC.1 hC.2.1 dX2_cooled_11 rfl (lv_at hl 1 rfl) ?_
    refine lv_idiv hC.1 hC.2.1 dX2_cooled_12 (fun h => by rw [h] at k2; exact absurd k2 (by decide)) ?_
    refine lv_isub hC.1 hC.2.1 dX2_cooled_13 ?_
    refine lv_iconst (v := 1) hC.1 hC.2.1 dX2_cooled_14 (by decide) ?_
    refine lv_isub hC.1 hC.2.1 dX2_cooled_15 ?_
    refine lv_istore_n (lv' := [(2, .int ((x1 - (x1 / x2)) - 1)), (0, .int x1), (1, .int x2)]) hC.1 hC.2.1 dX2_cooled_16 rfl hl (by decide) rfl (fun ls hl => ?_)
    refine lv_iload_n hC.1 hC.2.1 dX2_cooled_17 rfl (lv_at hl 0 rfl) ?_
    refine lv_if_ge (tgt := 25) hC.1 hC.2.1 dX2_cooled_18 (by decide) (fun k18 => ?_) (fun k18 => ?_)
    · refine lv_iload_n hC.1 hC.2.1 dX2_cooled_25 rfl (lv_at hl 0 rfl) ?_
      have e_1 : fX2_cooled x1 x2 = (x1 - (x1 / x2)) - 1 := by exact Eq.trans (if_pos k2) (Eq.trans (if_pos k18) rfl)
      have hg : fX2_cooled x1 x2 = (x1 - (x1 / x2)) - 1 := hg.trans (congrArg (fun z => z) e_1)
      exact eP_i hC (congrArg Value.int hg) dX2_cooled_26
    · refine lv_iconst (v := 0) hC.1 hC.2.1 dX2_cooled_21 (by decide) ?_
      refine lv_goto (tgt := 26) hC.1 hC.2.1 dX2_cooled_22 (by decide) ?_
      have e_2 : fX2_cooled x1 x2 = 0 := by exact Eq.trans (if_pos k2) (Eq.trans (if_neg k18) rfl)
      have hg : fX2_cooled x1 x2 = 0 := hg.trans (congrArg (fun z => z) e_2)
      exact eP_i hC (congrArg Value.int hg) dX2_cooled_26
  · refine lv_iconst (v := 0) hC.1 hC.2.1 dX2_cooled_5 (by decide) ?_
    refine lv_goto (tgt := 16) hC.1 hC.2.1 dX2_cooled_6 (by decide) ?_
    refine lv_istore_n (lv' := [(2, .int 0), (0, .int x1), (1, .int x2)]) hC.1 hC.2.1 dX2_cooled_16 rfl hl (by decide) rfl (fun ls hl => ?_)
    refine lv_iload_n hC.1 hC.2.1 dX2_cooled_17 rfl (lv_at hl 0 rfl) ?_
    refine lv_if_ge (tgt := 25) hC.1 hC.2.1 dX2_cooled_18 (by decide) (fun k18 => ?_) (fun k18 => ?_)
    · refine lv_iload_n hC.1 hC.2.1 dX2_cooled_25 rfl (lv_at hl 0 rfl) ?_
      have e_3 : fX2_cooled x1 x2 = 0 := by exact Eq.trans (if_neg k2) rfl
      have hg : fX2_cooled x1 x2 = 0 := hg.trans (congrArg (fun z => z) e_3)
      exact eP_i hC (congrArg Value.int hg) dX2_cooled_26
    · exact absurd (by decide) k18
end
section
def fX2_setting (v : SV) (x1 : Int32) : Int32 := fX5_at 7 (v 2) x1
def fX2_dotsAtOnce (v : SV) : Int32 := if 1 ≤ (fX5_at 7 (v 2) 3) then ((if 1 < ((fX5_at 7 (v 2) 4) / (fX5_at 7 (v 2) 3)) then ((fX5_at 7 (v 2) 4) / (fX5_at 7 (v 2) 3)) else 1)) else (1)
def fX2_pulseIn (v : SV) (x1 : Int32) (x2 : Int32) (x3 : Int32) : Int32 := (if 20 < ((x3 + (fX5_at 3 st3 (v 8 10))) - (((20 * (fX5_bitOf (v 8 8) x2)) + (10 * (fX5_bitOf (v 8 9) x2))) + (5 * ((fX5_bitOf x1 (x2 - 1)) + (fX5_bitOf x1 (x2 + 1)))))) then ((x3 + (fX5_at 3 st3 (v 8 10))) - (((20 * (fX5_bitOf (v 8 8) x2)) + (10 * (fX5_bitOf (v 8 9) x2))) + (5 * ((fX5_bitOf x1 (x2 - 1)) + (fX5_bitOf x1 (x2 + 1)))))) else 20)
def fX2_pulseAlone (v : SV) (x1 : Int32) (x2 : Int32) : Int32 := fX2_pulseIn v 0 x1 x2
def tX2_cooledFor_15 (v : SV) (x1 : Int32) (x2 : Int32) (y3_15 : Int32) (s : Int32 × Int32) : Int32 := let y4_15 := s.1; let y5_15 := s.2; y4_15
def bX2_cooledFor_15 (v : SV) (x1 : Int32) (x2 : Int32) (y3_15 : Int32) (s : Int32 × Int32) : Bool × (Int32 × Int32) := let y4_15 := s.1; let y5_15 := s.2; if x2 ≤ y5_15 then ((false, (y4_15, y5_15))) else (if y4_15 ≤ 0 then ((false, (y4_15, y5_15))) else ((true, (fX2_cooled y4_15 y3_15, y5_15 + 1))))
def fX2_cooledFor (v : SV) (x1 : Int32) (x2 : Int32) : Int32 := tX2_cooledFor_15 v x1 x2 (fX5_at 7 (v 2) 1) (lpB (x2.toNatClampNeg + 1) (bX2_cooledFor_15 v x1 x2 (fX5_at 7 (v 2) 1)) (x1, 0))
def tX2_timeDownTo_15 (v : SV) (x1 : Int32) (x2 : Int32) (y3_15 : Int32) (s : Int32 × Int32) : Int32 := let y4_15 := s.1; let y5_15 := s.2; y5_15
def bX2_timeDownTo_15 (v : SV) (x1 : Int32) (x2 : Int32) (y3_15 : Int32) (s : Int32 × Int32) : Bool × (Int32 × Int32) := let y4_15 := s.1; let y5_15 := s.2; if y4_15 ≤ x2 then ((false, (y4_15, y5_15))) else (if 1000000 ≤ y5_15 then ((false, (y4_15, y5_15))) else ((true, (fX2_cooled y4_15 y3_15, y5_15 + 1))))
def fX2_timeDownTo (v : SV) (x1 : Int32) (x2 : Int32) : Int32 := tX2_timeDownTo_15 v x1 x2 (fX5_at 7 (v 2) 1) (lpB (mS + 1) (bX2_timeDownTo_15 v x1 x2 (fX5_at 7 (v 2) 1)) (x1, 0))
def fX2_waitFor (v : SV) (x1 : Int32) (x2 : Int32) : Int32 := fX2_timeDownTo v x1 ((fX5_at 7 (v 2) 2) - x2)
def fX2_isDark (v : SV) (x1 : Int32) : Int32 := if x1 < (fX5_at 3 st4 (v 8 10)) then (0) else (1)
def tX2_hottestDot_4 (v : SV) (s : Int32) : Int32 := let y1_4 := s; y1_4
def bX2_hottestDot_4 (v : SV) (d4 : Nat) (s : Int32) : Int32 := let y1_4 := s; (if y1_4 < ((v 0) d4) then ((v 0) d4) else y1_4)
def fX2_hottestDot (v : SV) : Int32 := tX2_hottestDot_4 v (lpF 24 0 (bX2_hottestDot_4 v) 0)
def fX2_timeUntilCool (v : SV) (x1 : Int32) : Int32 := fX2_timeDownTo v (fX2_hottestDot v) x1
def tX2_leastDarkSetting_16 (v : SV) (x1 : Int32) (s : Unit) : Int32 := (-1)
def bX2_leastDarkSetting_16 (v : SV) (x1 : Int32) (d16 : Nat) (s : Unit) : (Unit) ⊕ (Int32) := if (fX2_isDark v ((fX2_cooledFor v (fX5_at 24 (v 0) x1) (fX2_waitFor v (fX5_at 24 (v 0) x1) (fX2_pulseAlone v x1 (nI d16)))) + (fX2_pulseAlone v x1 (nI d16)))) = 0 then (Sum.inl ()) else (Sum.inr (nI d16))
def fX2_leastDarkSetting (v : SV) (x1 : Int32) : Int32 := Sum.elim (tX2_leastDarkSetting_16 v x1) id (lpR (301 - 50) 50 (bX2_leastDarkSetting_16 v x1) ())
theorem T_cooledFor (v : SV) (x1 x2 y : Int32) (h : Int32) : lpT (x2.toNatClampNeg + 1) (bX2_cooledFor_15 v x1 x2 y) (h, 0) := by
  have key : ∀ (n k : Nat) (h : Int32), x2.toNatClampNeg ≤ k + n → k ≤ x2.toNatClampNeg → lpT (n + 1) (bX2_cooledFor_15 v x1 x2 y) (h, nI k) := by
    intro n
    induction n with
    | zero =>
      intro k h h1 h2
      have hk : k = x2.toNatClampNeg := by omega
      refine Or.inl ?_
      simp only [bX2_cooledFor_15]
      rw [hk, if_pos (cl_le (Nat.le_refl _) (cl_lt x2))]
    | succ n ih =>
      intro k h h1 h2
      by_cases q : x2 ≤ nI k
      · refine Or.inl ?_
        simp only [bX2_cooledFor_15]
        rw [if_pos q]
      · by_cases q2 : h ≤ 0
        · refine Or.inl ?_
          simp only [bX2_cooledFor_15]
          rw [if_neg q, if_pos q2]
        · refine Or.inr ?_
          simp only [bX2_cooledFor_15]
          rw [if_neg q, if_neg q2]
          show lpT (n + 1) _ (_, nI k + 1)
          rw [nI_1]
          refine ih (k + 1) _ (by omega) ?_
          rcases Nat.lt_or_ge k x2.toNatClampNeg with z | z
          · exact z
          · exact absurd (cl_le z (by have := cl_lt x2; omega)) q
  have h0 := key x2.toNatClampNeg 0 h (by omega) (Nat.zero_le _)
  rw [nI_0] at h0
  exact h0
theorem T_timeDownTo_N (v : SV) (x1 x2 y : Int32) (h : Int32) (N : Nat) (hm : N = 1000000) : lpT (N + 1) (bX2_timeDownTo_15 v x1 x2 y) (h, 0) := by
  have key : ∀ (n k : Nat) (h : Int32), k + n = N → lpT (n + 1) (bX2_timeDownTo_15 v x1 x2 y) (h, nI k) := by
    intro n
    induction n with
    | zero =>
      intro k h h1
      have hk : k = 1000000 := by omega
      refine Or.inl ?_
      simp only [bX2_timeDownTo_15]
      split
      · rfl
      · rw [hk, if_pos (show (1000000 : Int32) ≤ nI 1000000 from nI_le (a := 1000000) (b := 1000000) (Nat.le_refl _) (by omega))]
    | succ n ih =>
      intro k h h1
      by_cases q : h ≤ x2
      · refine Or.inl ?_
        simp only [bX2_timeDownTo_15]
        rw [if_pos q]
      · by_cases q2 : (1000000 : Int32) ≤ nI k
        · refine Or.inl ?_
          simp only [bX2_timeDownTo_15]
          rw [if_neg q, if_pos q2]
        · refine Or.inr ?_
          simp only [bX2_timeDownTo_15]
          rw [if_neg q, if_neg q2]
          show lpT (n + 1) _ (_, nI k + 1)
          rw [nI_1]
          exact ih (k + 1) _ (by omega)
  have h0 := key N 0 h (by omega)
  rw [nI_0] at h0
  exact h0
theorem T_timeDownTo (v : SV) (x1 x2 y : Int32) (h : Int32) : lpT (mS + 1) (bX2_timeDownTo_15 v x1 x2 y) (h, 0) := T_timeDownTo_N v x1 x2 y h mS rfl
theorem dX2_setting_0 : decode cX2_setting 0 = .ok (.aload_n 0, 1) := by decide +kernel
theorem dX2_setting_1 : decode cX2_setting 1 = .ok (.getfield 21, 3) := by decide +kernel
theorem dX2_setting_4 : decode cX2_setting 4 = .ok (.iload_n 1, 1) := by decide +kernel
theorem dX2_setting_5 : decode cX2_setting 5 = .ok (.invokestatic 59, 3) := by decide +kernel
theorem dX2_setting_8 : decode cX2_setting 8 = .ok (.ireturn, 1) := by decide +kernel
set_option maxHeartbeats 1000000 in
set_option maxRecDepth 100000 in
theorem c_X2_setting (l : Launch) (G : GT) (q : Nat → Nat) (v : SV) (x1 : Int32) : Met l yX2_setting (Cond.code yX2_setting cX2_setting 2 (some .int) :: bigW) ({ frames := 1, cells := 0, slots := 0, locals := 21 }) (BP G [.ref (q 0), .int x1] (fun U H => PW G (stW G q v) H)) (QP (.int (fX2_setting v x1))) 0 0 (fun _ => False) := by
  refine met_of (by decide) (Nat.le_of_ble_eq_true rfl) ?_
  intro p e s m below meth c ls hC hKN hB0 hl
  have hP := hB0
  have hl : lv_has ls 2 [(0, .ref (q 0)), (1, .int x1)] := hl
  have hg : fX2_setting v x1 = fX2_setting v x1 := rfl
  refine lv_aload_n hC.1 hC.2.1 dX2_setting_0 rfl (lv_at hl 0 rfl) ?_
  refine gf (v := .ref (q 3)) hC fwX2 hKN hP 0 rfl rfl 2 (by decide) rfl wd_118 rfl dX2_setting_1 ?_
  refine lv_iload_n hC.1 hC.2.1 dX2_setting_4 rfl (lv_at hl 1 rfl) ?_
  refine runP (rSN (B := fun U H => RD (q 3) 7 (v 2) U H) (As := [.ref (q 3), .int x1]) (rest := []) hC mwX5_at (c_X5_at l G (q 3) 7 (v 2) x1) wd_249 (nm_5 hKN) ⟨rfl, rfl⟩ ⟨Nat.le_of_ble_eq_true rfl, Nat.le_of_ble_eq_true rfl⟩ (stb_RD _ _ _) hKN (RD.ofP hKN hP 3 rfl) rfl hl.1 rfl (Nat.le_of_ble_eq_true rfl) dX2_setting_5 ⟨Nat.zero_le _, Nat.zero_le _⟩) ?_
  have e_1 : fX2_setting v x1 = fX5_at 7 (v 2) x1 := by exact rfl
  have hg : fX2_setting v x1 = fX5_at 7 (v 2) x1 := hg.trans (congrArg (fun z => z) e_1)
  exact eP_i hC (congrArg Value.int hg) dX2_setting_8

theorem dX2_dotsAtOnce_0 : decode cX2_dotsAtOnce 0 = .ok (.aload_n 0, 1) := by decide +kernel
theorem dX2_dotsAtOnce_1 : decode cX2_dotsAtOnce 1 = .ok (.getfield 21, 3) := by decide +kernel
theorem dX2_dotsAtOnce_4 : decode cX2_dotsAtOnce 4 = .ok (.iconst 3, 1) := by decide +kernel
theorem dX2_dotsAtOnce_5 : decode cX2_dotsAtOnce 5 = .ok (.invokestatic 59, 3) := by decide +kernel
theorem dX2_dotsAtOnce_8 : decode cX2_dotsAtOnce 8 = .ok (.istore_n 1, 1) := by decide +kernel
theorem dX2_dotsAtOnce_9 : decode cX2_dotsAtOnce 9 = .ok (.iload_n 1, 1) := by decide +kernel
theorem dX2_dotsAtOnce_10 : decode cX2_dotsAtOnce 10 = .ok (.iconst 1, 1) := by decide +kernel
theorem dX2_dotsAtOnce_11 : decode cX2_dotsAtOnce 11 = .ok (.if_icmp .ge 7, 3) := by decide +kernel
theorem dX2_dotsAtOnce_14 : decode cX2_dotsAtOnce 14 = .ok (.iconst 1, 1) := by decide +kernel
theorem dX2_dotsAtOnce_15 : decode cX2_dotsAtOnce 15 = .ok (.goto 17, 3) := by decide +kernel
theorem dX2_dotsAtOnce_18 : decode cX2_dotsAtOnce 18 = .ok (.iconst 1, 1) := by decide +kernel
theorem dX2_dotsAtOnce_19 : decode cX2_dotsAtOnce 19 = .ok (.aload_n 0, 1) := by decide +kernel
theorem dX2_dotsAtOnce_20 : decode cX2_dotsAtOnce 20 = .ok (.getfield 21, 3) := by decide +kernel
theorem dX2_dotsAtOnce_23 : decode cX2_dotsAtOnce 23 = .ok (.iconst 4, 1) := by decide +kernel
theorem dX2_dotsAtOnce_24 : decode cX2_dotsAtOnce 24 = .ok (.invokestatic 59, 3) := by decide +kernel
theorem dX2_dotsAtOnce_27 : decode cX2_dotsAtOnce 27 = .ok (.iload_n 1, 1) := by decide +kernel
theorem dX2_dotsAtOnce_28 : decode cX2_dotsAtOnce 28 = .ok (.idiv, 1) := by decide +kernel
theorem dX2_dotsAtOnce_29 : decode cX2_dotsAtOnce 29 = .ok (.invokestatic 114, 3) := by decide +kernel
theorem dX2_dotsAtOnce_32 : decode cX2_dotsAtOnce 32 = .ok (.ireturn, 1) := by decide +kernel
set_option maxHeartbeats 1000000 in
set_option maxRecDepth 100000 in
theorem c_X2_dotsAtOnce (l : Launch) (G : GT) (q : Nat → Nat) (v : SV) : Met l yX2_dotsAtOnce (Cond.code yX2_dotsAtOnce cX2_dotsAtOnce 2 (some .int) :: bigW) ({ frames := 1, cells := 0, slots := 0, locals := 24 }) (BP G [.ref (q 0)] (fun U H => PW G (stW G q v) H)) (QP (.int (fX2_dotsAtOnce v))) 0 0 (fun _ => False) := by
  refine met_of (by decide) (Nat.le_of_ble_eq_true rfl) ?_
  intro p e s m below meth c ls hC hKN hB0 hl
  have hP := hB0
  have hl : lv_has ls 2 [(0, .ref (q 0))] := hl
  have hg : fX2_dotsAtOnce v = fX2_dotsAtOnce v := rfl
  refine lv_aload_n hC.1 hC.2.1 dX2_dotsAtOnce_0 rfl (lv_at hl 0 rfl) ?_
  refine gf (v := .ref (q 3)) hC fwX2 hKN hP 0 rfl rfl 2 (by decide) rfl wd_118 rfl dX2_dotsAtOnce_1 ?_
  refine lv_iconst (v := 3) hC.1 hC.2.1 dX2_dotsAtOnce_4 (by decide) ?_
  refine runP (rSN (B := fun U H => RD (q 3) 7 (v 2) U H) (As := [.ref (q 3), .int 3]) (rest := []) hC mwX5_at (c_X5_at l G (q 3) 7 (v 2) 3) wd_249 (nm_5 hKN) ⟨rfl, rfl⟩ ⟨Nat.le_of_ble_eq_true rfl, Nat.le_of_ble_eq_true rfl⟩ (stb_RD _ _ _) hKN (RD.ofP hKN hP 3 rfl) rfl hl.1 rfl (Nat.le_of_ble_eq_true rfl) dX2_dotsAtOnce_5 ⟨Nat.zero_le _, Nat.zero_le _⟩) ?_
  refine lv_istore_n (lv' := [(1, .int (fX5_at 7 (v 2) 3)), (0, .ref (q 0))]) hC.1 hC.2.1 dX2_dotsAtOnce_8 rfl hl (by decide) rfl (fun ls hl => ?_)
  refine lv_iload_n hC.1 hC.2.1 dX2_dotsAtOnce_9 rfl (lv_at hl 0 rfl) ?_
  refine lv_iconst (v := 1) hC.1 hC.2.1 dX2_dotsAtOnce_10 (by decide) ?_
  refine lv_icmp_ge (tgt := 18) hC.1 hC.2.1 dX2_dotsAtOnce_11 (by decide) (fun k11 => ?_) (fun k11 => ?_)
  · refine lv_iconst (v := 1) hC.1 hC.2.1 dX2_dotsAtOnce_18 (by decide) ?_
    refine lv_aload_n hC.1 hC.2.1 dX2_dotsAtOnce_19 rfl (lv_at hl 1 rfl) ?_
    refine gf (v := .ref (q 3)) hC fwX2 hKN hP 0 rfl rfl 2 (by decide) rfl wd_118 rfl dX2_dotsAtOnce_20 ?_
    refine lv_iconst (v := 4) hC.1 hC.2.1 dX2_dotsAtOnce_23 (by decide) ?_
    refine runP (rSN (B := fun U H => RD (q 3) 7 (v 2) U H) (As := [.ref (q 3), .int 4]) (rest := [.int 1]) hC mwX5_at (c_X5_at l G (q 3) 7 (v 2) 4) wd_249 (nm_5 hKN) ⟨rfl, rfl⟩ ⟨Nat.le_of_ble_eq_true rfl, Nat.le_of_ble_eq_true rfl⟩ (stb_RD _ _ _) hKN (RD.ofP hKN hP 3 rfl) rfl hl.1 rfl (Nat.le_of_ble_eq_true rfl) dX2_dotsAtOnce_24 ⟨Nat.zero_le _, Nat.zero_le _⟩) ?_
    refine lv_iload_n hC.1 hC.2.1 dX2_dotsAtOnce_27 rfl (lv_at hl 0 rfl) ?_
    refine lv_idiv hC.1 hC.2.1 dX2_dotsAtOnce_28 (fun h => by rw [h] at k11; exact absurd k11 (by decide)) ?_
    refine va_mmax hC.1 hC.2.1 (hC.2.2.2.1.trans hl.1.symm) hC.2.2.2.2.1 (hC.2.2.2.2.2.2.1 _ wd_412) (hC.2.2.2.2.2.2.1 _ wd_413) (hC.2.2.2.2.2.2.1 _ wd_3) (hC.2.2.2.2.2.2.1 _ wd_414) (Nat.le_of_ble_eq_true rfl) (Nat.le_of_ble_eq_true rfl) (Nat.zero_le _) (Nat.zero_le _) dX2_dotsAtOnce_29 ?_
    have e_1 : fX2_dotsAtOnce v = (if 1 < ((fX5_at 7 (v 2) 4) / (fX5_at 7 (v 2) 3)) then ((fX5_at 7 (v 2) 4) / (fX5_at 7 (v 2) 3)) else 1) := by exact Eq.trans (if_pos k11) rfl
    have hg : fX2_dotsAtOnce v = (if 1 < ((fX5_at 7 (v 2) 4) / (fX5_at 7 (v 2) 3)) then ((fX5_at 7 (v 2) 4) / (fX5_at 7 (v 2) 3)) else 1) := hg.trans (congrArg (fun z => z) e_1)
    exact eP_i hC (congrArg Value.int hg) dX2_dotsAtOnce_32
  · refine lv_iconst (v := 1) hC.1 hC.2.1 dX2_dotsAtOnce_14 (by decide) ?_
    refine lv_goto (tgt := 32) hC.1 hC.2.1 dX2_dotsAtOnce_15 (by decide) ?_
    have e_2 : fX2_dotsAtOnce v = 1 := by exact Eq.trans (if_neg k11) rfl
    have hg : fX2_dotsAtOnce v = 1 := hg.trans (congrArg (fun z => z) e_2)
    exact eP_i hC (congrArg Value.int hg) dX2_dotsAtOnce_32

theorem dX2_pulseIn_0 : decode cX2_pulseIn 0 = .ok (.bipush 20, 2) := by decide +kernel
theorem dX2_pulseIn_2 : decode cX2_pulseIn 2 = .ok (.aload_n 0, 1) := by decide +kernel
theorem dX2_pulseIn_3 : decode cX2_pulseIn 3 = .ok (.getfield 42, 3) := by decide +kernel
theorem dX2_pulseIn_6 : decode cX2_pulseIn 6 = .ok (.iload_n 2, 1) := by decide +kernel
theorem dX2_pulseIn_7 : decode cX2_pulseIn 7 = .ok (.invokestatic 124, 3) := by decide +kernel
theorem dX2_pulseIn_10 : decode cX2_pulseIn 10 = .ok (.imul, 1) := by decide +kernel
theorem dX2_pulseIn_11 : decode cX2_pulseIn 11 = .ok (.bipush 10, 2) := by decide +kernel
theorem dX2_pulseIn_13 : decode cX2_pulseIn 13 = .ok (.aload_n 0, 1) := by decide +kernel
theorem dX2_pulseIn_14 : decode cX2_pulseIn 14 = .ok (.getfield 46, 3) := by decide +kernel
theorem dX2_pulseIn_17 : decode cX2_pulseIn 17 = .ok (.iload_n 2, 1) := by decide +kernel
theorem dX2_pulseIn_18 : decode cX2_pulseIn 18 = .ok (.invokestatic 124, 3) := by decide +kernel
theorem dX2_pulseIn_21 : decode cX2_pulseIn 21 = .ok (.imul, 1) := by decide +kernel
theorem dX2_pulseIn_22 : decode cX2_pulseIn 22 = .ok (.iadd, 1) := by decide +kernel
theorem dX2_pulseIn_23 : decode cX2_pulseIn 23 = .ok (.iconst 5, 1) := by decide +kernel
theorem dX2_pulseIn_24 : decode cX2_pulseIn 24 = .ok (.iload_n 1, 1) := by decide +kernel
theorem dX2_pulseIn_25 : decode cX2_pulseIn 25 = .ok (.iload_n 2, 1) := by decide +kernel
theorem dX2_pulseIn_26 : decode cX2_pulseIn 26 = .ok (.iconst 1, 1) := by decide +kernel
theorem dX2_pulseIn_27 : decode cX2_pulseIn 27 = .ok (.isub, 1) := by decide +kernel
theorem dX2_pulseIn_28 : decode cX2_pulseIn 28 = .ok (.invokestatic 124, 3) := by decide +kernel
theorem dX2_pulseIn_31 : decode cX2_pulseIn 31 = .ok (.iload_n 1, 1) := by decide +kernel
theorem dX2_pulseIn_32 : decode cX2_pulseIn 32 = .ok (.iload_n 2, 1) := by decide +kernel
theorem dX2_pulseIn_33 : decode cX2_pulseIn 33 = .ok (.iconst 1, 1) := by decide +kernel
theorem dX2_pulseIn_34 : decode cX2_pulseIn 34 = .ok (.iadd, 1) := by decide +kernel
theorem dX2_pulseIn_35 : decode cX2_pulseIn 35 = .ok (.invokestatic 124, 3) := by decide +kernel
theorem dX2_pulseIn_38 : decode cX2_pulseIn 38 = .ok (.iadd, 1) := by decide +kernel
theorem dX2_pulseIn_39 : decode cX2_pulseIn 39 = .ok (.imul, 1) := by decide +kernel
theorem dX2_pulseIn_40 : decode cX2_pulseIn 40 = .ok (.iadd, 1) := by decide +kernel
theorem dX2_pulseIn_41 : decode cX2_pulseIn 41 = .ok (.istore 4, 2) := by decide +kernel
theorem dX2_pulseIn_43 : decode cX2_pulseIn 43 = .ok (.bipush 20, 2) := by decide +kernel
theorem dX2_pulseIn_45 : decode cX2_pulseIn 45 = .ok (.iload_n 3, 1) := by decide +kernel
theorem dX2_pulseIn_46 : decode cX2_pulseIn 46 = .ok (.getstatic 137, 3) := by decide +kernel
theorem dX2_pulseIn_49 : decode cX2_pulseIn 49 = .ok (.aload_n 0, 1) := by decide +kernel
theorem dX2_pulseIn_50 : decode cX2_pulseIn 50 = .ok (.getfield 49, 3) := by decide +kernel
theorem dX2_pulseIn_53 : decode cX2_pulseIn 53 = .ok (.invokestatic 59, 3) := by decide +kernel
theorem dX2_pulseIn_56 : decode cX2_pulseIn 56 = .ok (.iadd, 1) := by decide +kernel
theorem dX2_pulseIn_57 : decode cX2_pulseIn 57 = .ok (.iload 4, 2) := by decide +kernel
theorem dX2_pulseIn_59 : decode cX2_pulseIn 59 = .ok (.isub, 1) := by decide +kernel
theorem dX2_pulseIn_60 : decode cX2_pulseIn 60 = .ok (.invokestatic 114, 3) := by decide +kernel
theorem dX2_pulseIn_63 : decode cX2_pulseIn 63 = .ok (.ireturn, 1) := by decide +kernel
set_option maxHeartbeats 1000000 in
set_option maxRecDepth 100000 in
theorem c_X2_pulseIn (l : Launch) (G : GT) (q : Nat → Nat) (v : SV) (x1 : Int32) (x2 : Int32) (x3 : Int32) : Met l yX2_pulseIn (Cond.code yX2_pulseIn cX2_pulseIn 5 (some .int) :: bigW) ({ frames := 1, cells := 0, slots := 0, locals := 24 }) (BP G [.ref (q 0), .int x1, .int x2, .int x3] (fun U H => PW G (stW G q v) H)) (QP (.int (fX2_pulseIn v x1 x2 x3))) 0 0 (fun _ => False) := by
  refine met_of (by decide) (Nat.le_of_ble_eq_true rfl) ?_
  intro p e s m below meth c ls hC hKN hB0 hl
  have hP := hB0
  have hl : lv_has ls 5 [(0, .ref (q 0)), (1, .int x1), (2, .int x2), (3, .int x3)] := hl
  have hg : fX2_pulseIn v x1 x2 x3 = fX2_pulseIn v x1 x2 x3 := rfl
  refine lv_bipush (v := 20) hC.1 hC.2.1 dX2_pulseIn_0 (by decide +kernel) ?_
  refine lv_aload_n hC.1 hC.2.1 dX2_pulseIn_2 rfl (lv_at hl 0 rfl) ?_
  refine gf (v := .int (v 8 8)) hC fwX2 hKN hP 0 rfl rfl 5 (by decide) rfl wd_123 rfl dX2_pulseIn_3 ?_
  refine lv_iload_n hC.1 hC.2.1 dX2_pulseIn_6 rfl (lv_at hl 2 rfl) ?_
  refine runP (rSN (B := fun U H => True) (As := [.int (v 8 8), .int x2]) (rest := [.int 20]) hC mwX5_bitOf (c_X5_bitOf l G (v 8 8) x2) wd_433 (nm_6 hKN) ⟨rfl, rfl⟩ ⟨Nat.le_of_ble_eq_true rfl, Nat.le_of_ble_eq_true rfl⟩ (fun _ _ _ _ h => h) hKN trivial rfl hl.1 rfl (Nat.le_of_ble_eq_true rfl) dX2_pulseIn_7 ⟨Nat.zero_le _, Nat.zero_le _⟩) ?_
  refine lv_imul hC.1 hC.2.1 dX2_pulseIn_10 ?_
  refine lv_bipush (v := 10) hC.1 hC.2.1 dX2_pulseIn_11 (by decide +kernel) ?_
  refine lv_aload_n hC.1 hC.2.1 dX2_pulseIn_13 rfl (lv_at hl 0 rfl) ?_
  refine gf (v := .int (v 8 9)) hC fwX2 hKN hP 0 rfl rfl 6 (by decide) rfl wd_124 rfl dX2_pulseIn_14 ?_
  refine lv_iload_n hC.1 hC.2.1 dX2_pulseIn_17 rfl (lv_at hl 2 rfl) ?_
  refine runP (rSN (B := fun U H => True) (As := [.int (v 8 9), .int x2]) (rest := [.int 10, .int (20 * (fX5_bitOf (v 8 8) x2))]) hC mwX5_bitOf (c_X5_bitOf l G (v 8 9) x2) wd_433 (nm_6 hKN) ⟨rfl, rfl⟩ ⟨Nat.le_of_ble_eq_true rfl, Nat.le_of_ble_eq_true rfl⟩ (fun _ _ _ _ h => h) hKN trivial rfl hl.1 rfl (Nat.le_of_ble_eq_true rfl) dX2_pulseIn_18 ⟨Nat.zero_le _, Nat.zero_le _⟩) ?_
  refine lv_imul hC.1 hC.2.1 dX2_pulseIn_21 ?_
  refine lv_iadd hC.1 hC.2.1 dX2_pulseIn_22 ?_
  refine lv_iconst (v := 5) hC.1 hC.2.1 dX2_pulseIn_23 (by decide) ?_
  refine lv_iload_n hC.1 hC.2.1 dX2_pulseIn_24 rfl (lv_at hl 1 rfl) ?_
  refine lv_iload_n hC.1 hC.2.1 dX2_pulseIn_25 rfl (lv_at hl 2 rfl) ?_
  refine lv_iconst (v := 1) hC.1 hC.2.1 dX2_pulseIn_26 (by decide) ?_
  refine lv_isub hC.1 hC.2.1 dX2_pulseIn_27 ?_
  refine runP (rSN (B := fun U H => True) (As := [.int x1, .int (x2 - 1)]) (rest := [.int 5, .int ((20 * (fX5_bitOf (v 8 8) x2)) + (10 * (fX5_bitOf (v 8 9) x2)))]) hC mwX5_bitOf (c_X5_bitOf l G x1 (x2 - 1)) wd_433 (nm_6 hKN) ⟨rfl, rfl⟩ ⟨Nat.le_of_ble_eq_true rfl, Nat.le_of_ble_eq_true rfl⟩ (fun _ _ _ _ h => h) hKN trivial rfl hl.1 rfl (Nat.le_of_ble_eq_true rfl) dX2_pulseIn_28 ⟨Nat.zero_le _, Nat.zero_le _⟩) ?_
  refine lv_iload_n hC.1 hC.2.1 dX2_pulseIn_31 rfl (lv_at hl 1 rfl) ?_
  refine lv_iload_n hC.1 hC.2.1 dX2_pulseIn_32 rfl (lv_at hl 2 rfl) ?_
  refine lv_iconst (v := 1) hC.1 hC.2.1 dX2_pulseIn_33 (by decide) ?_
  refine lv_iadd hC.1 hC.2.1 dX2_pulseIn_34 ?_
  refine runP (rSN (B := fun U H => True) (As := [.int x1, .int (x2 + 1)]) (rest := [.int (fX5_bitOf x1 (x2 - 1)), .int 5, .int ((20 * (fX5_bitOf (v 8 8) x2)) + (10 * (fX5_bitOf (v 8 9) x2)))]) hC mwX5_bitOf (c_X5_bitOf l G x1 (x2 + 1)) wd_433 (nm_6 hKN) ⟨rfl, rfl⟩ ⟨Nat.le_of_ble_eq_true rfl, Nat.le_of_ble_eq_true rfl⟩ (fun _ _ _ _ h => h) hKN trivial rfl hl.1 rfl (Nat.le_of_ble_eq_true rfl) dX2_pulseIn_35 ⟨Nat.zero_le _, Nat.zero_le _⟩) ?_
  refine lv_iadd hC.1 hC.2.1 dX2_pulseIn_38 ?_
  refine lv_imul hC.1 hC.2.1 dX2_pulseIn_39 ?_
  refine lv_iadd hC.1 hC.2.1 dX2_pulseIn_40 ?_
  refine lv_istore (lv' := [(4, .int (((20 * (fX5_bitOf (v 8 8) x2)) + (10 * (fX5_bitOf (v 8 9) x2))) + (5 * ((fX5_bitOf x1 (x2 - 1)) + (fX5_bitOf x1 (x2 + 1)))))), (0, .ref (q 0)), (1, .int x1), (2, .int x2), (3, .int x3)]) hC.1 hC.2.1 dX2_pulseIn_41 hl (by decide) rfl (fun ls hl => ?_)
  refine lv_bipush (v := 20) hC.1 hC.2.1 dX2_pulseIn_43 (by decide +kernel) ?_
  refine lv_iload_n hC.1 hC.2.1 dX2_pulseIn_45 rfl (lv_at hl 4 rfl) ?_
  refine gsN hC (hKN.2.2.1 3 (by decide)).1 (nf_24 hKN) dX2_pulseIn_46 ?_
  refine lv_aload_n hC.1 hC.2.1 dX2_pulseIn_49 rfl (lv_at hl 1 rfl) ?_
  refine gf (v := .int (v 8 10)) hC fwX2 hKN hP 0 rfl rfl 7 (by decide) rfl wd_125 rfl dX2_pulseIn_50 ?_
  refine runP (rSN (B := fun U H => RD (gA G 3) 3 st3 U H) (As := [.ref (gA G 3), .int (v 8 10)]) (rest := [.int x3, .int 20]) hC mwX5_at (c_X5_at l G (gA G 3) 3 st3 (v 8 10)) wd_249 (nm_5 hKN) ⟨rfl, rfl⟩ ⟨Nat.le_of_ble_eq_true rfl, Nat.le_of_ble_eq_true rfl⟩ (stb_RD _ _ _) hKN (hKN.rd 3 (by decide)) rfl hl.1 rfl (Nat.le_of_ble_eq_true rfl) dX2_pulseIn_53 ⟨Nat.zero_le _, Nat.zero_le _⟩) ?_
  refine lv_iadd hC.1 hC.2.1 dX2_pulseIn_56 ?_
  refine lv_iload hC.1 hC.2.1 dX2_pulseIn_57 (lv_at hl 0 rfl) ?_
  refine lv_isub hC.1 hC.2.1 dX2_pulseIn_59 ?_
  refine va_mmax hC.1 hC.2.1 (hC.2.2.2.1.trans hl.1.symm) hC.2.2.2.2.1 (hC.2.2.2.2.2.2.1 _ wd_412) (hC.2.2.2.2.2.2.1 _ wd_413) (hC.2.2.2.2.2.2.1 _ wd_3) (hC.2.2.2.2.2.2.1 _ wd_414) (Nat.le_of_ble_eq_true rfl) (Nat.le_of_ble_eq_true rfl) (Nat.zero_le _) (Nat.zero_le _) dX2_pulseIn_60 ?_
  have e_1 : fX2_pulseIn v x1 x2 x3 = (if 20 < ((x3 + (fX5_at 3 st3 (v 8 10))) - (((20 * (fX5_bitOf (v 8 8) x2)) + (10 * (fX5_bitOf (v 8 9) x2))) + (5 * ((fX5_bitOf x1 (x2 - 1)) + (fX5_bitOf x1 (x2 + 1)))))) then ((x3 + (fX5_at 3 st3 (v 8 10))) - (((20 * (fX5_bitOf (v 8 8) x2)) + (10 * (fX5_bitOf (v 8 9) x2))) + (5 * ((fX5_bitOf x1 (x2 - 1)) + (fX5_bitOf x1 (x2 + 1)))))) else 20) := by exact rfl
  have hg : fX2_pulseIn v x1 x2 x3 = (if 20 < ((x3 + (fX5_at 3 st3 (v 8 10))) - (((20 * (fX5_bitOf (v 8 8) x2)) + (10 * (fX5_bitOf (v 8 9) x2))) + (5 * ((fX5_bitOf x1 (x2 - 1)) + (fX5_bitOf x1 (x2 + 1)))))) then ((x3 + (fX5_at 3 st3 (v 8 10))) - (((20 * (fX5_bitOf (v 8 8) x2)) + (10 * (fX5_bitOf (v 8 9) x2))) + (5 * ((fX5_bitOf x1 (x2 - 1)) + (fX5_bitOf x1 (x2 + 1)))))) else 20) := hg.trans (congrArg (fun z => z) e_1)
  exact eP_i hC (congrArg Value.int hg) dX2_pulseIn_63

theorem dX2_pulseAlone_0 : decode cX2_pulseAlone 0 = .ok (.aload_n 0, 1) := by decide +kernel
theorem dX2_pulseAlone_1 : decode cX2_pulseAlone 1 = .ok (.iconst 0, 1) := by decide +kernel
theorem dX2_pulseAlone_2 : decode cX2_pulseAlone 2 = .ok (.iload_n 1, 1) := by decide +kernel
theorem dX2_pulseAlone_3 : decode cX2_pulseAlone 3 = .ok (.iload_n 2, 1) := by decide +kernel
theorem dX2_pulseAlone_4 : decode cX2_pulseAlone 4 = .ok (.invokevirtual 120, 3) := by decide +kernel
theorem dX2_pulseAlone_7 : decode cX2_pulseAlone 7 = .ok (.ireturn, 1) := by decide +kernel
set_option maxHeartbeats 1000000 in
set_option maxRecDepth 100000 in
theorem c_X2_pulseAlone (l : Launch) (G : GT) (q : Nat → Nat) (v : SV) (x1 : Int32) (x2 : Int32) : Met l yX2_pulseAlone (Cond.code yX2_pulseAlone cX2_pulseAlone 3 (some .int) :: bigW) ({ frames := 2, cells := 0, slots := 0, locals := 48 }) (BP G [.ref (q 0), .int x1, .int x2] (fun U H => PW G (stW G q v) H)) (QP (.int (fX2_pulseAlone v x1 x2))) 0 0 (fun _ => False) := by
  refine met_of (by decide) (Nat.le_of_ble_eq_true rfl) ?_
  intro p e s m below meth c ls hC hKN hB0 hl
  have hP := hB0
  have hl : lv_has ls 3 [(0, .ref (q 0)), (1, .int x1), (2, .int x2)] := hl
  have hg : fX2_pulseAlone v x1 x2 = fX2_pulseAlone v x1 x2 := rfl
  refine lv_aload_n hC.1 hC.2.1 dX2_pulseAlone_0 rfl (lv_at hl 0 rfl) ?_
  refine lv_iconst (v := 0) hC.1 hC.2.1 dX2_pulseAlone_1 (by decide) ?_
  refine lv_iload_n hC.1 hC.2.1 dX2_pulseAlone_2 rfl (lv_at hl 1 rfl) ?_
  refine lv_iload_n hC.1 hC.2.1 dX2_pulseAlone_3 rfl (lv_at hl 2 rfl) ?_
  refine runP (rV (B := fun U H => PW G (stW G q v) H) (As := [.int 0, .int x1, .int x2]) (rest := []) hC mwX2_pulseIn (c_X2_pulseIn l G q v 0 x1 x2) iwX2_pulseIn wd_439 ⟨rfl, rfl⟩ ⟨Nat.le_of_ble_eq_true rfl, Nat.le_of_ble_eq_true rfl⟩ (stb_h (fun H => PW G (stW G q v) H)) hKN hP (va_recv hKN.k hP (ci := 2) (q0 := 0) rfl rfl) rfl hl.1 rfl (Nat.le_of_ble_eq_true rfl) dX2_pulseAlone_4 ⟨Nat.zero_le _, Nat.zero_le _⟩) ?_
  have e_1 : fX2_pulseAlone v x1 x2 = fX2_pulseIn v 0 x1 x2 := by exact rfl
  have hg : fX2_pulseAlone v x1 x2 = fX2_pulseIn v 0 x1 x2 := hg.trans (congrArg (fun z => z) e_1)
  exact eP_i hC (congrArg Value.int hg) dX2_pulseAlone_7

theorem dX2_cooledFor_0 : decode cX2_cooledFor 0 = .ok (.aload_n 0, 1) := by decide +kernel
theorem dX2_cooledFor_1 : decode cX2_cooledFor 1 = .ok (.getfield 21, 3) := by decide +kernel
theorem dX2_cooledFor_4 : decode cX2_cooledFor 4 = .ok (.iconst 1, 1) := by decide +kernel
theorem dX2_cooledFor_5 : decode cX2_cooledFor 5 = .ok (.invokestatic 59, 3) := by decide +kernel
theorem dX2_cooledFor_8 : decode cX2_cooledFor 8 = .ok (.istore_n 3, 1) := by decide +kernel
theorem dX2_cooledFor_9 : decode cX2_cooledFor 9 = .ok (.iload_n 1, 1) := by decide +kernel
theorem dX2_cooledFor_10 : decode cX2_cooledFor 10 = .ok (.istore 4, 2) := by decide +kernel
theorem dX2_cooledFor_12 : decode cX2_cooledFor 12 = .ok (.iconst 0, 1) := by decide +kernel
theorem dX2_cooledFor_13 : decode cX2_cooledFor 13 = .ok (.istore 5, 2) := by decide +kernel
theorem dX2_cooledFor_15 : decode cX2_cooledFor 15 = .ok (.iload 5, 2) := by decide +kernel
theorem dX2_cooledFor_17 : decode cX2_cooledFor 17 = .ok (.iload_n 2, 1) := by decide +kernel
theorem dX2_cooledFor_18 : decode cX2_cooledFor 18 = .ok (.if_icmp .ge 22, 3) := by decide +kernel
theorem dX2_cooledFor_21 : decode cX2_cooledFor 21 = .ok (.iload 4, 2) := by decide +kernel
theorem dX2_cooledFor_23 : decode cX2_cooledFor 23 = .ok (.ifCond .le 17, 3) := by decide +kernel
theorem dX2_cooledFor_26 : decode cX2_cooledFor 26 = .ok (.iload 4, 2) := by decide +kernel
theorem dX2_cooledFor_28 : decode cX2_cooledFor 28 = .ok (.iload_n 3, 1) := by decide +kernel
theorem dX2_cooledFor_29 : decode cX2_cooledFor 29 = .ok (.invokestatic 146, 3) := by decide +kernel
theorem dX2_cooledFor_32 : decode cX2_cooledFor 32 = .ok (.istore 4, 2) := by decide +kernel
theorem dX2_cooledFor_34 : decode cX2_cooledFor 34 = .ok (.iinc 5 1, 3) := by decide +kernel
theorem dX2_cooledFor_37 : decode cX2_cooledFor 37 = .ok (.goto (-22), 3) := by decide +kernel
theorem dX2_cooledFor_40 : decode cX2_cooledFor 40 = .ok (.iload 4, 2) := by decide +kernel
theorem dX2_cooledFor_42 : decode cX2_cooledFor 42 = .ok (.ireturn, 1) := by decide +kernel
set_option maxHeartbeats 1000000 in
set_option maxRecDepth 100000 in
theorem c_X2_cooledFor (l : Launch) (G : GT) (q : Nat → Nat) (v : SV) (x1 : Int32) (x2 : Int32) : Met l yX2_cooledFor (Cond.code yX2_cooledFor cX2_cooledFor 6 (some .int) :: bigW) ({ frames := 1, cells := 0, slots := 0, locals := 22 }) (BP G [.ref (q 0), .int x1, .int x2] (fun U H => PW G (stW G q v) H)) (QP (.int (fX2_cooledFor v x1 x2))) 0 0 (fun _ => False) := by
  refine met_of (by decide) (Nat.le_of_ble_eq_true rfl) ?_
  intro p e s m below meth c ls hC hKN hB0 hl
  have hP := hB0
  have hl : lv_has ls 6 [(0, .ref (q 0)), (1, .int x1), (2, .int x2)] := hl
  have hg : fX2_cooledFor v x1 x2 = fX2_cooledFor v x1 x2 := rfl
  refine lv_aload_n hC.1 hC.2.1 dX2_cooledFor_0 rfl (lv_at hl 0 rfl) ?_
  refine gf (v := .ref (q 3)) hC fwX2 hKN hP 0 rfl rfl 2 (by decide) rfl wd_118 rfl dX2_cooledFor_1 ?_
  refine lv_iconst (v := 1) hC.1 hC.2.1 dX2_cooledFor_4 (by decide) ?_
  refine runP (rSN (B := fun U H => RD (q 3) 7 (v 2) U H) (As := [.ref (q 3), .int 1]) (rest := []) hC mwX5_at (c_X5_at l G (q 3) 7 (v 2) 1) wd_249 (nm_5 hKN) ⟨rfl, rfl⟩ ⟨Nat.le_of_ble_eq_true rfl, Nat.le_of_ble_eq_true rfl⟩ (stb_RD _ _ _) hKN (RD.ofP hKN hP 3 rfl) rfl hl.1 rfl (Nat.le_of_ble_eq_true rfl) dX2_cooledFor_5 ⟨Nat.zero_le _, Nat.zero_le _⟩) ?_
  refine lv_istore_n (lv' := [(3, .int (fX5_at 7 (v 2) 1)), (0, .ref (q 0)), (1, .int x1), (2, .int x2)]) hC.1 hC.2.1 dX2_cooledFor_8 rfl hl (by decide) rfl (fun ls hl => ?_)
  refine lv_iload_n hC.1 hC.2.1 dX2_cooledFor_9 rfl (lv_at hl 2 rfl) ?_
  refine lv_istore (lv' := [(4, .int x1), (3, .int (fX5_at 7 (v 2) 1)), (0, .ref (q 0)), (1, .int x1), (2, .int x2)]) hC.1 hC.2.1 dX2_cooledFor_10 hl (by decide) rfl (fun ls hl => ?_)
  refine lv_iconst (v := 0) hC.1 hC.2.1 dX2_cooledFor_12 (by decide) ?_
  refine lv_istore (lv' := [(5, .int 0), (4, .int x1), (3, .int (fX5_at 7 (v 2) 1)), (0, .ref (q 0)), (1, .int x1), (2, .int x2)]) hC.1 hC.2.1 dX2_cooledFor_13 hl (by decide) rfl (fun ls hl => ?_)
  have A15 : ∀ (y3_15 : Int32), ∀ (y4_15 : Int32) (y5_15 : Int32), fX2_cooledFor v x1 x2 = (tX2_cooledFor_15 v x1 x2 y3_15 (y4_15, y5_15)) → ∀ (ls : Array Slot), lv_has ls 6 [(4, .int y4_15)] → W p l e ({ frames := 1, cells := 0, slots := 0, locals := 22 }) s m ([.ref (q 0), .int x1, .int x2] : List Value).toArray below meth c s.heap [] 0 0 (MQ below (QP (.int (fX2_cooledFor v x1 x2))) ([.ref (q 0), .int x1, .int x2] : List Value).toArray s 0 0 (fun _ => False)) (F0 m 40 ls []) := by
    intro y3_15 y4_15 y5_15 hg ls hl
    refine lv_iload hC.1 hC.2.1 dX2_cooledFor_40 (lv_at hl 0 rfl) ?_
    have e_1 : tX2_cooledFor_15 v x1 x2 y3_15 (y4_15, y5_15) = y4_15 := by exact rfl
    have hg : fX2_cooledFor v x1 x2 = y4_15 := hg.trans (congrArg (fun z => z) e_1)
    exact eP_i hC (congrArg Value.int hg) dX2_cooledFor_42
  have L15 : ∀ (y3_15 : Int32), ∀ (n15 : Nat), ∀ (y4_15 : Int32) (y5_15 : Int32), lpT n15 (bX2_cooledFor_15 v x1 x2 y3_15) (y4_15, y5_15) → fX2_cooledFor v x1 x2 = (tX2_cooledFor_15 v x1 x2 y3_15 (lpB n15 (bX2_cooledFor_15 v x1 x2 y3_15) (y4_15, y5_15))) → ∀ (ls : Array Slot), lv_has ls 6 [(2, .int x2), (3, .int y3_15), (4, .int y4_15), (5, .int y5_15)] → W p l e ({ frames := 1, cells := 0, slots := 0, locals := 22 }) s m ([.ref (q 0), .int x1, .int x2] : List Value).toArray below meth c s.heap [] 0 0 (MQ below (QP (.int (fX2_cooledFor v x1 x2))) ([.ref (q 0), .int x1, .int x2] : List Value).toArray s 0 0 (fun _ => False)) (F0 m 15 ls []) := by
    intro y3_15
    intro n15
    induction n15 with
    | zero =>
      intro y4_15 y5_15 hT
      exact hT.elim
    | succ n15 ih =>
      intro y4_15 y5_15 hT hg ls hl
      have hg : fX2_cooledFor v x1 x2 = (tX2_cooledFor_15 v x1 x2 y3_15 (lpBs n15 (bX2_cooledFor_15 v x1 x2 y3_15) (bX2_cooledFor_15 v x1 x2 y3_15 (y4_15, y5_15)))) := hg
      have hT : lpTs n15 (bX2_cooledFor_15 v x1 x2 y3_15) (bX2_cooledFor_15 v x1 x2 y3_15 (y4_15, y5_15)) := hT
      refine lv_iload hC.1 hC.2.1 dX2_cooledFor_15 (lv_at hl 3 rfl) ?_
      refine lv_iload_n hC.1 hC.2.1 dX2_cooledFor_17 rfl (lv_at hl 0 rfl) ?_
      refine lv_icmp_ge (tgt := 40) hC.1 hC.2.1 dX2_cooledFor_18 (by decide) (fun k18 => ?_) (fun k18 => ?_)
      · have e_2 : bX2_cooledFor_15 v x1 x2 y3_15 (y4_15, y5_15) = (false, (y4_15, y5_15)) := by exact Eq.trans (if_pos k18) rfl
        have hg : fX2_cooledFor v x1 x2 = (tX2_cooledFor_15 v x1 x2 y3_15 (y4_15, y5_15)) := hg.trans (congrArg (fun z => (tX2_cooledFor_15 v x1 x2 y3_15 (lpBs n15 (bX2_cooledFor_15 v x1 x2 y3_15) z))) e_2)
        have hT : lpTs n15 (bX2_cooledFor_15 v x1 x2 y3_15) (false, (y4_15, y5_15)) := by rw [← e_2]; exact hT
        exact A15 y3_15 y4_15 y5_15 hg _ (lv_sub hl [2] rfl)
      · refine lv_iload hC.1 hC.2.1 dX2_cooledFor_21 (lv_at hl 2 rfl) ?_
        refine lv_if_le (tgt := 40) hC.1 hC.2.1 dX2_cooledFor_23 (by decide) (fun k23 => ?_) (fun k23 => ?_)
        · have e_3 : bX2_cooledFor_15 v x1 x2 y3_15 (y4_15, y5_15) = (false, (y4_15, y5_15)) := by exact Eq.trans (if_neg k18) (Eq.trans (if_pos k23) rfl)
          have hg : fX2_cooledFor v x1 x2 = (tX2_cooledFor_15 v x1 x2 y3_15 (y4_15, y5_15)) := hg.trans (congrArg (fun z => (tX2_cooledFor_15 v x1 x2 y3_15 (lpBs n15 (bX2_cooledFor_15 v x1 x2 y3_15) z))) e_3)
          have hT : lpTs n15 (bX2_cooledFor_15 v x1 x2 y3_15) (false, (y4_15, y5_15)) := by rw [← e_3]; exact hT
          exact A15 y3_15 y4_15 y5_15 hg _ (lv_sub hl [2] rfl)
        · refine lv_iload hC.1 hC.2.1 dX2_cooledFor_26 (lv_at hl 2 rfl) ?_
          refine lv_iload_n hC.1 hC.2.1 dX2_cooledFor_28 rfl (lv_at hl 1 rfl) ?_
          refine runP (rS (B := fun U H => True) (As := [.int y4_15, .int y3_15]) (rest := []) hC mwX2_cooled (c_X2_cooled l G y4_15 y3_15) wd_455 wd_454 ⟨rfl, rfl⟩ ⟨Nat.le_of_ble_eq_true rfl, Nat.le_of_ble_eq_true rfl⟩ (fun _ _ _ _ h => h) hKN trivial rfl hl.1 rfl (Nat.le_of_ble_eq_true rfl) dX2_cooledFor_29 ⟨Nat.zero_le _, Nat.zero_le _⟩) ?_
          refine lv_istore (lv' := [(4, .int (fX2_cooled y4_15 y3_15)), (2, .int x2), (3, .int y3_15), (5, .int y5_15)]) hC.1 hC.2.1 dX2_cooledFor_32 hl (by decide) rfl (fun ls hl => ?_)
          refine lv_iinc (v := y5_15 + 1) (lv' := [(5, .int (y5_15 + 1)), (4, .int (fX2_cooled y4_15 y3_15)), (2, .int x2), (3, .int y3_15)]) hC.1 hC.2.1 dX2_cooledFor_34 hl (k := 3) rfl rfl (by decide) rfl (fun ls hl => ?_)
          refine lv_goto (tgt := 15) hC.1 hC.2.1 dX2_cooledFor_37 (by decide) ?_
          have e_4 : bX2_cooledFor_15 v x1 x2 y3_15 (y4_15, y5_15) = (true, (fX2_cooled y4_15 y3_15, y5_15 + 1)) := by exact Eq.trans (if_neg k18) (Eq.trans (if_neg k23) rfl)
          have hg : fX2_cooledFor v x1 x2 = (tX2_cooledFor_15 v x1 x2 y3_15 (lpB n15 (bX2_cooledFor_15 v x1 x2 y3_15) (fX2_cooled y4_15 y3_15, y5_15 + 1))) := hg.trans (congrArg (fun z => (tX2_cooledFor_15 v x1 x2 y3_15 (lpBs n15 (bX2_cooledFor_15 v x1 x2 y3_15) z))) e_4)
          have hT : lpTs n15 (bX2_cooledFor_15 v x1 x2 y3_15) (true, (fX2_cooled y4_15 y3_15, y5_15 + 1)) := by rw [← e_4]; exact hT
          exact ih (fX2_cooled y4_15 y3_15) (y5_15 + 1) (lpT_go hT) hg _ (lv_sub hl [2, 3, 1, 0] rfl)
  have e_5 : fX2_cooledFor v x1 x2 = tX2_cooledFor_15 v x1 x2 (fX5_at 7 (v 2) 1) (lpB (x2.toNatClampNeg + 1) (bX2_cooledFor_15 v x1 x2 (fX5_at 7 (v 2) 1)) (x1, 0)) := by exact rfl
  have hg : fX2_cooledFor v x1 x2 = (tX2_cooledFor_15 v x1 x2 (fX5_at 7 (v 2) 1) (lpB (x2.toNatClampNeg + 1) (bX2_cooledFor_15 v x1 x2 (fX5_at 7 (v 2) 1)) (x1, 0))) := hg.trans (congrArg (fun z => z) e_5)
  exact L15 (fX5_at 7 (v 2) 1) (x2.toNatClampNeg + 1) x1 0 (T_cooledFor v x1 x2 _ _) hg _ (lv_sub hl [5, 2, 1, 0] rfl)

theorem dX2_timeDownTo_0 : decode cX2_timeDownTo 0 = .ok (.aload_n 0, 1) := by decide +kernel
theorem dX2_timeDownTo_1 : decode cX2_timeDownTo 1 = .ok (.getfield 21, 3) := by decide +kernel
theorem dX2_timeDownTo_4 : decode cX2_timeDownTo 4 = .ok (.iconst 1, 1) := by decide +kernel
theorem dX2_timeDownTo_5 : decode cX2_timeDownTo 5 = .ok (.invokestatic 59, 3) := by decide +kernel
theorem dX2_timeDownTo_8 : decode cX2_timeDownTo 8 = .ok (.istore_n 3, 1) := by decide +kernel
theorem dX2_timeDownTo_9 : decode cX2_timeDownTo 9 = .ok (.iload_n 1, 1) := by decide +kernel
theorem dX2_timeDownTo_10 : decode cX2_timeDownTo 10 = .ok (.istore 4, 2) := by decide +kernel
theorem dX2_timeDownTo_12 : decode cX2_timeDownTo 12 = .ok (.iconst 0, 1) := by decide +kernel
theorem dX2_timeDownTo_13 : decode cX2_timeDownTo 13 = .ok (.istore 5, 2) := by decide +kernel
theorem dX2_timeDownTo_15 : decode cX2_timeDownTo 15 = .ok (.iload 4, 2) := by decide +kernel
theorem dX2_timeDownTo_17 : decode cX2_timeDownTo 17 = .ok (.iload_n 2, 1) := by decide +kernel
theorem dX2_timeDownTo_18 : decode cX2_timeDownTo 18 = .ok (.if_icmp .le 24, 3) := by decide +kernel
theorem dX2_timeDownTo_21 : decode cX2_timeDownTo 21 = .ok (.iload 5, 2) := by decide +kernel
theorem dX2_timeDownTo_23 : decode cX2_timeDownTo 23 = .ok (.ldc 149, 2) := by decide +kernel
theorem dX2_timeDownTo_25 : decode cX2_timeDownTo 25 = .ok (.if_icmp .ge 17, 3) := by decide +kernel
theorem dX2_timeDownTo_28 : decode cX2_timeDownTo 28 = .ok (.iload 4, 2) := by decide +kernel
theorem dX2_timeDownTo_30 : decode cX2_timeDownTo 30 = .ok (.iload_n 3, 1) := by decide +kernel
theorem dX2_timeDownTo_31 : decode cX2_timeDownTo 31 = .ok (.invokestatic 146, 3) := by decide +kernel
theorem dX2_timeDownTo_34 : decode cX2_timeDownTo 34 = .ok (.istore 4, 2) := by decide +kernel
theorem dX2_timeDownTo_36 : decode cX2_timeDownTo 36 = .ok (.iinc 5 1, 3) := by decide +kernel
theorem dX2_timeDownTo_39 : decode cX2_timeDownTo 39 = .ok (.goto (-24), 3) := by decide +kernel
theorem dX2_timeDownTo_42 : decode cX2_timeDownTo 42 = .ok (.iload 5, 2) := by decide +kernel
theorem dX2_timeDownTo_44 : decode cX2_timeDownTo 44 = .ok (.ireturn, 1) := by decide +kernel
set_option maxHeartbeats 1000000 in
set_option maxRecDepth 100000 in
theorem c_X2_timeDownTo (l : Launch) (G : GT) (q : Nat → Nat) (v : SV) (x1 : Int32) (x2 : Int32) : Met l yX2_timeDownTo (Cond.code yX2_timeDownTo cX2_timeDownTo 6 (some .int) :: bigW) ({ frames := 1, cells := 0, slots := 0, locals := 22 }) (BP G [.ref (q 0), .int x1, .int x2] (fun U H => PW G (stW G q v) H)) (QP (.int (fX2_timeDownTo v x1 x2))) 0 0 (fun _ => False) := by
  refine met_of (by decide) (Nat.le_of_ble_eq_true rfl) ?_
  intro p e s m below meth c ls hC hKN hB0 hl
  have hP := hB0
  have hl : lv_has ls 6 [(0, .ref (q 0)), (1, .int x1), (2, .int x2)] := hl
  have hg : fX2_timeDownTo v x1 x2 = fX2_timeDownTo v x1 x2 := rfl
  refine lv_aload_n hC.1 hC.2.1 dX2_timeDownTo_0 rfl (lv_at hl 0 rfl) ?_
  refine gf (v := .ref (q 3)) hC fwX2 hKN hP 0 rfl rfl 2 (by decide) rfl wd_118 rfl dX2_timeDownTo_1 ?_
  refine lv_iconst (v := 1) hC.1 hC.2.1 dX2_timeDownTo_4 (by decide) ?_
  refine runP (rSN (B := fun U H => RD (q 3) 7 (v 2) U H) (As := [.ref (q 3), .int 1]) (rest := []) hC mwX5_at (c_X5_at l G (q 3) 7 (v 2) 1) wd_249 (nm_5 hKN) ⟨rfl, rfl⟩ ⟨Nat.le_of_ble_eq_true rfl, Nat.le_of_ble_eq_true rfl⟩ (stb_RD _ _ _) hKN (RD.ofP hKN hP 3 rfl) rfl hl.1 rfl (Nat.le_of_ble_eq_true rfl) dX2_timeDownTo_5 ⟨Nat.zero_le _, Nat.zero_le _⟩) ?_
  refine lv_istore_n (lv' := [(3, .int (fX5_at 7 (v 2) 1)), (0, .ref (q 0)), (1, .int x1), (2, .int x2)]) hC.1 hC.2.1 dX2_timeDownTo_8 rfl hl (by decide) rfl (fun ls hl => ?_)
  refine lv_iload_n hC.1 hC.2.1 dX2_timeDownTo_9 rfl (lv_at hl 2 rfl) ?_
  refine lv_istore (lv' := [(4, .int x1), (3, .int (fX5_at 7 (v 2) 1)), (0, .ref (q 0)), (1, .int x1), (2, .int x2)]) hC.1 hC.2.1 dX2_timeDownTo_10 hl (by decide) rfl (fun ls hl => ?_)
  refine lv_iconst (v := 0) hC.1 hC.2.1 dX2_timeDownTo_12 (by decide) ?_
  refine lv_istore (lv' := [(5, .int 0), (4, .int x1), (3, .int (fX5_at 7 (v 2) 1)), (0, .ref (q 0)), (1, .int x1), (2, .int x2)]) hC.1 hC.2.1 dX2_timeDownTo_13 hl (by decide) rfl (fun ls hl => ?_)
  have A15 : ∀ (y3_15 : Int32), ∀ (y4_15 : Int32) (y5_15 : Int32), fX2_timeDownTo v x1 x2 = (tX2_timeDownTo_15 v x1 x2 y3_15 (y4_15, y5_15)) → ∀ (ls : Array Slot), lv_has ls 6 [(5, .int y5_15)] → W p l e ({ frames := 1, cells := 0, slots := 0, locals := 22 }) s m ([.ref (q 0), .int x1, .int x2] : List Value).toArray below meth c s.heap [] 0 0 (MQ below (QP (.int (fX2_timeDownTo v x1 x2))) ([.ref (q 0), .int x1, .int x2] : List Value).toArray s 0 0 (fun _ => False)) (F0 m 42 ls []) := by
    intro y3_15 y4_15 y5_15 hg ls hl
    refine lv_iload hC.1 hC.2.1 dX2_timeDownTo_42 (lv_at hl 0 rfl) ?_
    have e_1 : tX2_timeDownTo_15 v x1 x2 y3_15 (y4_15, y5_15) = y5_15 := by exact rfl
    have hg : fX2_timeDownTo v x1 x2 = y5_15 := hg.trans (congrArg (fun z => z) e_1)
    exact eP_i hC (congrArg Value.int hg) dX2_timeDownTo_44
  have L15 : ∀ (y3_15 : Int32), ∀ (n15 : Nat), ∀ (y4_15 : Int32) (y5_15 : Int32), lpT n15 (bX2_timeDownTo_15 v x1 x2 y3_15) (y4_15, y5_15) → fX2_timeDownTo v x1 x2 = (tX2_timeDownTo_15 v x1 x2 y3_15 (lpB n15 (bX2_timeDownTo_15 v x1 x2 y3_15) (y4_15, y5_15))) → ∀ (ls : Array Slot), lv_has ls 6 [(2, .int x2), (3, .int y3_15), (4, .int y4_15), (5, .int y5_15)] → W p l e ({ frames := 1, cells := 0, slots := 0, locals := 22 }) s m ([.ref (q 0), .int x1, .int x2] : List Value).toArray below meth c s.heap [] 0 0 (MQ below (QP (.int (fX2_timeDownTo v x1 x2))) ([.ref (q 0), .int x1, .int x2] : List Value).toArray s 0 0 (fun _ => False)) (F0 m 15 ls []) := by
    intro y3_15
    intro n15
    induction n15 with
    | zero =>
      intro y4_15 y5_15 hT
      exact hT.elim
    | succ n15 ih =>
      intro y4_15 y5_15 hT hg ls hl
      have hg : fX2_timeDownTo v x1 x2 = (tX2_timeDownTo_15 v x1 x2 y3_15 (lpBs n15 (bX2_timeDownTo_15 v x1 x2 y3_15) (bX2_timeDownTo_15 v x1 x2 y3_15 (y4_15, y5_15)))) := hg
      have hT : lpTs n15 (bX2_timeDownTo_15 v x1 x2 y3_15) (bX2_timeDownTo_15 v x1 x2 y3_15 (y4_15, y5_15)) := hT
      refine lv_iload hC.1 hC.2.1 dX2_timeDownTo_15 (lv_at hl 2 rfl) ?_
      refine lv_iload_n hC.1 hC.2.1 dX2_timeDownTo_17 rfl (lv_at hl 0 rfl) ?_
      refine lv_icmp_le (tgt := 42) hC.1 hC.2.1 dX2_timeDownTo_18 (by decide) (fun k18 => ?_) (fun k18 => ?_)
      · have e_2 : bX2_timeDownTo_15 v x1 x2 y3_15 (y4_15, y5_15) = (false, (y4_15, y5_15)) := by exact Eq.trans (if_pos k18) rfl
        have hg : fX2_timeDownTo v x1 x2 = (tX2_timeDownTo_15 v x1 x2 y3_15 (y4_15, y5_15)) := hg.trans (congrArg (fun z => (tX2_timeDownTo_15 v x1 x2 y3_15 (lpBs n15 (bX2_timeDownTo_15 v x1 x2 y3_15) z))) e_2)
        have hT : lpTs n15 (bX2_timeDownTo_15 v x1 x2 y3_15) (false, (y4_15, y5_15)) := by rw [← e_2]; exact hT
        exact A15 y3_15 y4_15 y5_15 hg _ (lv_sub hl [3] rfl)
      · refine lv_iload hC.1 hC.2.1 dX2_timeDownTo_21 (lv_at hl 3 rfl) ?_
        refine lv_ldc (v := 1000000) hC.1 hC.2.1 hC.2.2.2.2.1 (hC.2.2.2.2.2.2.1 _ wd_453) dX2_timeDownTo_23 ?_
        refine lv_icmp_ge (tgt := 42) hC.1 hC.2.1 dX2_timeDownTo_25 (by decide) (fun k25 => ?_) (fun k25 => ?_)
        · have e_3 : bX2_timeDownTo_15 v x1 x2 y3_15 (y4_15, y5_15) = (false, (y4_15, y5_15)) := by exact Eq.trans (if_neg k18) (Eq.trans (if_pos k25) rfl)
          have hg : fX2_timeDownTo v x1 x2 = (tX2_timeDownTo_15 v x1 x2 y3_15 (y4_15, y5_15)) := hg.trans (congrArg (fun z => (tX2_timeDownTo_15 v x1 x2 y3_15 (lpBs n15 (bX2_timeDownTo_15 v x1 x2 y3_15) z))) e_3)
          have hT : lpTs n15 (bX2_timeDownTo_15 v x1 x2 y3_15) (false, (y4_15, y5_15)) := by rw [← e_3]; exact hT
          exact A15 y3_15 y4_15 y5_15 hg _ (lv_sub hl [3] rfl)
        · refine lv_iload hC.1 hC.2.1 dX2_timeDownTo_28 (lv_at hl 2 rfl) ?_
          refine lv_iload_n hC.1 hC.2.1 dX2_timeDownTo_30 rfl (lv_at hl 1 rfl) ?_
          refine runP (rS (B := fun U H => True) (As := [.int y4_15, .int y3_15]) (rest := []) hC mwX2_cooled (c_X2_cooled l G y4_15 y3_15) wd_455 wd_454 ⟨rfl, rfl⟩ ⟨Nat.le_of_ble_eq_true rfl, Nat.le_of_ble_eq_true rfl⟩ (fun _ _ _ _ h => h) hKN trivial rfl hl.1 rfl (Nat.le_of_ble_eq_true rfl) dX2_timeDownTo_31 ⟨Nat.zero_le _, Nat.zero_le _⟩) ?_
          refine lv_istore (lv' := [(4, .int (fX2_cooled y4_15 y3_15)), (2, .int x2), (3, .int y3_15), (5, .int y5_15)]) hC.1 hC.2.1 dX2_timeDownTo_34 hl (by decide) rfl (fun ls hl => ?_)
          refine lv_iinc (v := y5_15 + 1) (lv' := [(5, .int (y5_15 + 1)), (4, .int (fX2_cooled y4_15 y3_15)), (2, .int x2), (3, .int y3_15)]) hC.1 hC.2.1 dX2_timeDownTo_36 hl (k := 3) rfl rfl (by decide) rfl (fun ls hl => ?_)
          refine lv_goto (tgt := 15) hC.1 hC.2.1 dX2_timeDownTo_39 (by decide) ?_
          have e_4 : bX2_timeDownTo_15 v x1 x2 y3_15 (y4_15, y5_15) = (true, (fX2_cooled y4_15 y3_15, y5_15 + 1)) := by exact Eq.trans (if_neg k18) (Eq.trans (if_neg k25) rfl)
          have hg : fX2_timeDownTo v x1 x2 = (tX2_timeDownTo_15 v x1 x2 y3_15 (lpB n15 (bX2_timeDownTo_15 v x1 x2 y3_15) (fX2_cooled y4_15 y3_15, y5_15 + 1))) := hg.trans (congrArg (fun z => (tX2_timeDownTo_15 v x1 x2 y3_15 (lpBs n15 (bX2_timeDownTo_15 v x1 x2 y3_15) z))) e_4)
          have hT : lpTs n15 (bX2_timeDownTo_15 v x1 x2 y3_15) (true, (fX2_cooled y4_15 y3_15, y5_15 + 1)) := by rw [← e_4]; exact hT
          exact ih (fX2_cooled y4_15 y3_15) (y5_15 + 1) (lpT_go hT) hg _ (lv_sub hl [2, 3, 1, 0] rfl)
  have e_5 : fX2_timeDownTo v x1 x2 = tX2_timeDownTo_15 v x1 x2 (fX5_at 7 (v 2) 1) (lpB (mS + 1) (bX2_timeDownTo_15 v x1 x2 (fX5_at 7 (v 2) 1)) (x1, 0)) := by exact rfl
  have hg : fX2_timeDownTo v x1 x2 = (tX2_timeDownTo_15 v x1 x2 (fX5_at 7 (v 2) 1) (lpB (mS + 1) (bX2_timeDownTo_15 v x1 x2 (fX5_at 7 (v 2) 1)) (x1, 0))) := hg.trans (congrArg (fun z => z) e_5)
  exact L15 (fX5_at 7 (v 2) 1) (mS + 1) x1 0 (T_timeDownTo v x1 x2 _ _) hg _ (lv_sub hl [5, 2, 1, 0] rfl)

theorem dX2_waitFor_0 : decode cX2_waitFor 0 = .ok (.aload_n 0, 1) := by decide +kernel
theorem dX2_waitFor_1 : decode cX2_waitFor 1 = .ok (.iload_n 1, 1) := by decide +kernel
theorem dX2_waitFor_2 : decode cX2_waitFor 2 = .ok (.aload_n 0, 1) := by decide +kernel
theorem dX2_waitFor_3 : decode cX2_waitFor 3 = .ok (.getfield 21, 3) := by decide +kernel
theorem dX2_waitFor_6 : decode cX2_waitFor 6 = .ok (.iconst 2, 1) := by decide +kernel
theorem dX2_waitFor_7 : decode cX2_waitFor 7 = .ok (.invokestatic 59, 3) := by decide +kernel
theorem dX2_waitFor_10 : decode cX2_waitFor 10 = .ok (.iload_n 2, 1) := by decide +kernel
theorem dX2_waitFor_11 : decode cX2_waitFor 11 = .ok (.isub, 1) := by decide +kernel
theorem dX2_waitFor_12 : decode cX2_waitFor 12 = .ok (.invokevirtual 127, 3) := by decide +kernel
theorem dX2_waitFor_15 : decode cX2_waitFor 15 = .ok (.ireturn, 1) := by decide +kernel
set_option maxHeartbeats 1000000 in
set_option maxRecDepth 100000 in
theorem c_X2_waitFor (l : Launch) (G : GT) (q : Nat → Nat) (v : SV) (x1 : Int32) (x2 : Int32) : Met l yX2_waitFor (Cond.code yX2_waitFor cX2_waitFor 3 (some .int) :: bigW) ({ frames := 2, cells := 0, slots := 0, locals := 47 }) (BP G [.ref (q 0), .int x1, .int x2] (fun U H => PW G (stW G q v) H)) (QP (.int (fX2_waitFor v x1 x2))) 0 0 (fun _ => False) := by
  refine met_of (by decide) (Nat.le_of_ble_eq_true rfl) ?_
  intro p e s m below meth c ls hC hKN hB0 hl
  have hP := hB0
  have hl : lv_has ls 3 [(0, .ref (q 0)), (1, .int x1), (2, .int x2)] := hl
  have hg : fX2_waitFor v x1 x2 = fX2_waitFor v x1 x2 := rfl
  refine lv_aload_n hC.1 hC.2.1 dX2_waitFor_0 rfl (lv_at hl 0 rfl) ?_
  refine lv_iload_n hC.1 hC.2.1 dX2_waitFor_1 rfl (lv_at hl 1 rfl) ?_
  refine lv_aload_n hC.1 hC.2.1 dX2_waitFor_2 rfl (lv_at hl 0 rfl) ?_
  refine gf (v := .ref (q 3)) hC fwX2 hKN hP 0 rfl rfl 2 (by decide) rfl wd_118 rfl dX2_waitFor_3 ?_
  refine lv_iconst (v := 2) hC.1 hC.2.1 dX2_waitFor_6 (by decide) ?_
  refine runP (rSN (B := fun U H => RD (q 3) 7 (v 2) U H) (As := [.ref (q 3), .int 2]) (rest := [.int x1, .ref (q 0)]) hC mwX5_at (c_X5_at l G (q 3) 7 (v 2) 2) wd_249 (nm_5 hKN) ⟨rfl, rfl⟩ ⟨Nat.le_of_ble_eq_true rfl, Nat.le_of_ble_eq_true rfl⟩ (stb_RD _ _ _) hKN (RD.ofP hKN hP 3 rfl) rfl hl.1 rfl (Nat.le_of_ble_eq_true rfl) dX2_waitFor_7 ⟨Nat.zero_le _, Nat.zero_le _⟩) ?_
  refine lv_iload_n hC.1 hC.2.1 dX2_waitFor_10 rfl (lv_at hl 2 rfl) ?_
  refine lv_isub hC.1 hC.2.1 dX2_waitFor_11 ?_
  refine runP (rV (B := fun U H => PW G (stW G q v) H) (As := [.int x1, .int ((fX5_at 7 (v 2) 2) - x2)]) (rest := []) hC mwX2_timeDownTo (c_X2_timeDownTo l G q v x1 ((fX5_at 7 (v 2) 2) - x2)) iwX2_timeDownTo wd_449 ⟨rfl, rfl⟩ ⟨Nat.le_of_ble_eq_true rfl, Nat.le_of_ble_eq_true rfl⟩ (stb_h (fun H => PW G (stW G q v) H)) hKN hP (va_recv hKN.k hP (ci := 2) (q0 := 0) rfl rfl) rfl hl.1 rfl (Nat.le_of_ble_eq_true rfl) dX2_waitFor_12 ⟨Nat.zero_le _, Nat.zero_le _⟩) ?_
  have e_1 : fX2_waitFor v x1 x2 = fX2_timeDownTo v x1 ((fX5_at 7 (v 2) 2) - x2) := by exact rfl
  have hg : fX2_waitFor v x1 x2 = fX2_timeDownTo v x1 ((fX5_at 7 (v 2) 2) - x2) := hg.trans (congrArg (fun z => z) e_1)
  exact eP_i hC (congrArg Value.int hg) dX2_waitFor_15

theorem dX2_isDark_0 : decode cX2_isDark 0 = .ok (.iload_n 1, 1) := by decide +kernel
theorem dX2_isDark_1 : decode cX2_isDark 1 = .ok (.getstatic 140, 3) := by decide +kernel
theorem dX2_isDark_4 : decode cX2_isDark 4 = .ok (.aload_n 0, 1) := by decide +kernel
theorem dX2_isDark_5 : decode cX2_isDark 5 = .ok (.getfield 49, 3) := by decide +kernel
theorem dX2_isDark_8 : decode cX2_isDark 8 = .ok (.invokestatic 59, 3) := by decide +kernel
theorem dX2_isDark_11 : decode cX2_isDark 11 = .ok (.if_icmp .lt 7, 3) := by decide +kernel
theorem dX2_isDark_14 : decode cX2_isDark 14 = .ok (.iconst 1, 1) := by decide +kernel
theorem dX2_isDark_15 : decode cX2_isDark 15 = .ok (.goto 4, 3) := by decide +kernel
theorem dX2_isDark_18 : decode cX2_isDark 18 = .ok (.iconst 0, 1) := by decide +kernel
theorem dX2_isDark_19 : decode cX2_isDark 19 = .ok (.ireturn, 1) := by decide +kernel
set_option maxHeartbeats 1000000 in
set_option maxRecDepth 100000 in
theorem c_X2_isDark (l : Launch) (G : GT) (q : Nat → Nat) (v : SV) (x1 : Int32) : Met l yX2_isDark (Cond.code yX2_isDark cX2_isDark 2 (some .boolean) :: bigW) ({ frames := 1, cells := 0, slots := 0, locals := 21 }) (BP G [.ref (q 0), .int x1] (fun U H => PW G (stW G q v) H)) (QP (.int (fX2_isDark v x1))) 0 0 (fun _ => False) := by
  refine met_of (by decide) (Nat.le_of_ble_eq_true rfl) ?_
  intro p e s m below meth c ls hC hKN hB0 hl
  have hP := hB0
  have hl : lv_has ls 2 [(0, .ref (q 0)), (1, .int x1)] := hl
  have hg : fX2_isDark v x1 = fX2_isDark v x1 := rfl
  refine lv_iload_n hC.1 hC.2.1 dX2_isDark_0 rfl (lv_at hl 1 rfl) ?_
  refine gsN hC (hKN.2.2.1 4 (by decide)).1 (nf_25 hKN) dX2_isDark_1 ?_
  refine lv_aload_n hC.1 hC.2.1 dX2_isDark_4 rfl (lv_at hl 0 rfl) ?_
  refine gf (v := .int (v 8 10)) hC fwX2 hKN hP 0 rfl rfl 7 (by decide) rfl wd_125 rfl dX2_isDark_5 ?_
  refine runP (rSN (B := fun U H => RD (gA G 4) 3 st4 U H) (As := [.ref (gA G 4), .int (v 8 10)]) (rest := [.int x1]) hC mwX5_at (c_X5_at l G (gA G 4) 3 st4 (v 8 10)) wd_249 (nm_5 hKN) ⟨rfl, rfl⟩ ⟨Nat.le_of_ble_eq_true rfl, Nat.le_of_ble_eq_true rfl⟩ (stb_RD _ _ _) hKN (hKN.rd 4 (by decide)) rfl hl.1 rfl (Nat.le_of_ble_eq_true rfl) dX2_isDark_8 ⟨Nat.zero_le _, Nat.zero_le _⟩) ?_
  refine lv_icmp_lt (tgt := 18) hC.1 hC.2.1 dX2_isDark_11 (by decide) (fun k11 => ?_) (fun k11 => ?_)
  · refine lv_iconst (v := 0) hC.1 hC.2.1 dX2_isDark_18 (by decide) ?_
    have e_1 : fX2_isDark v x1 = 0 := by exact Eq.trans (if_pos k11) rfl
    have hg : fX2_isDark v x1 = 0 := hg.trans (congrArg (fun z => z) e_1)
    exact eP_z hC (congrArg Value.int hg) rfl dX2_isDark_19
  · refine lv_iconst (v := 1) hC.1 hC.2.1 dX2_isDark_14 (by decide) ?_
    refine lv_goto (tgt := 19) hC.1 hC.2.1 dX2_isDark_15 (by decide) ?_
    have e_2 : fX2_isDark v x1 = 1 := by exact Eq.trans (if_neg k11) rfl
    have hg : fX2_isDark v x1 = 1 := hg.trans (congrArg (fun z => z) e_2)
    exact eP_z hC (congrArg Value.int hg) rfl dX2_isDark_19

theorem dX2_hottestDot_0 : decode cX2_hottestDot 0 = .ok (.iconst 0, 1) := by decide +kernel
theorem dX2_hottestDot_1 : decode cX2_hottestDot 1 = .ok (.istore_n 1, 1) := by decide +kernel
theorem dX2_hottestDot_2 : decode cX2_hottestDot 2 = .ok (.iconst 0, 1) := by decide +kernel
theorem dX2_hottestDot_3 : decode cX2_hottestDot 3 = .ok (.istore_n 2, 1) := by decide +kernel
theorem dX2_hottestDot_4 : decode cX2_hottestDot 4 = .ok (.iload_n 2, 1) := by decide +kernel
theorem dX2_hottestDot_5 : decode cX2_hottestDot 5 = .ok (.aload_n 0, 1) := by decide +kernel
theorem dX2_hottestDot_6 : decode cX2_hottestDot 6 = .ok (.getfield 9, 3) := by decide +kernel
theorem dX2_hottestDot_9 : decode cX2_hottestDot 9 = .ok (.arraylength, 1) := by decide +kernel
theorem dX2_hottestDot_10 : decode cX2_hottestDot 10 = .ok (.if_icmp .ge 20, 3) := by decide +kernel
theorem dX2_hottestDot_13 : decode cX2_hottestDot 13 = .ok (.iload_n 1, 1) := by decide +kernel
theorem dX2_hottestDot_14 : decode cX2_hottestDot 14 = .ok (.aload_n 0, 1) := by decide +kernel
theorem dX2_hottestDot_15 : decode cX2_hottestDot 15 = .ok (.getfield 9, 3) := by decide +kernel
theorem dX2_hottestDot_18 : decode cX2_hottestDot 18 = .ok (.iload_n 2, 1) := by decide +kernel
theorem dX2_hottestDot_19 : decode cX2_hottestDot 19 = .ok (.iaload, 1) := by decide +kernel
theorem dX2_hottestDot_20 : decode cX2_hottestDot 20 = .ok (.invokestatic 114, 3) := by decide +kernel
theorem dX2_hottestDot_23 : decode cX2_hottestDot 23 = .ok (.istore_n 1, 1) := by decide +kernel
theorem dX2_hottestDot_24 : decode cX2_hottestDot 24 = .ok (.iinc 2 1, 3) := by decide +kernel
theorem dX2_hottestDot_27 : decode cX2_hottestDot 27 = .ok (.goto (-23), 3) := by decide +kernel
theorem dX2_hottestDot_30 : decode cX2_hottestDot 30 = .ok (.iload_n 1, 1) := by decide +kernel
theorem dX2_hottestDot_31 : decode cX2_hottestDot 31 = .ok (.ireturn, 1) := by decide +kernel
set_option maxHeartbeats 1000000 in
set_option maxRecDepth 100000 in
theorem c_X2_hottestDot (l : Launch) (G : GT) (q : Nat → Nat) (v : SV) : Met l yX2_hottestDot (Cond.code yX2_hottestDot cX2_hottestDot 3 (some .int) :: bigW) ({ frames := 1, cells := 0, slots := 0, locals := 24 }) (BP G [.ref (q 0)] (fun U H => PW G (stW G q v) H)) (QP (.int (fX2_hottestDot v))) 0 0 (fun _ => False) := by
  refine met_of (by decide) (Nat.le_of_ble_eq_true rfl) ?_
  intro p e s m below meth c ls hC hKN hB0 hl
  have hP := hB0
  have hl : lv_has ls 3 [(0, .ref (q 0))] := hl
  have hg : fX2_hottestDot v = fX2_hottestDot v := rfl
  refine lv_iconst (v := 0) hC.1 hC.2.1 dX2_hottestDot_0 (by decide) ?_
  refine lv_istore_n (lv' := [(1, .int 0), (0, .ref (q 0))]) hC.1 hC.2.1 dX2_hottestDot_1 rfl hl (by decide) rfl (fun ls hl => ?_)
  refine lv_iconst (v := 0) hC.1 hC.2.1 dX2_hottestDot_2 (by decide) ?_
  refine lv_istore_n (lv' := [(2, .int 0), (1, .int 0), (0, .ref (q 0))]) hC.1 hC.2.1 dX2_hottestDot_3 rfl hl (by decide) rfl (fun ls hl => ?_)
  have A4 : ∀ (y1_4 : Int32), fX2_hottestDot v = (tX2_hottestDot_4 v y1_4) → ∀ (ls : Array Slot), lv_has ls 3 [(1, .int y1_4)] → W p l e ({ frames := 1, cells := 0, slots := 0, locals := 24 }) s m ([.ref (q 0)] : List Value).toArray below meth c s.heap [] 0 0 (MQ below (QP (.int (fX2_hottestDot v))) ([.ref (q 0)] : List Value).toArray s 0 0 (fun _ => False)) (F0 m 30 ls []) := by
    intro  y1_4 hg ls hl
    refine lv_iload_n hC.1 hC.2.1 dX2_hottestDot_30 rfl (lv_at hl 0 rfl) ?_
    have e_1 : tX2_hottestDot_4 v y1_4 = y1_4 := by exact rfl
    have hg : fX2_hottestDot v = y1_4 := hg.trans (congrArg (fun z => z) e_1)
    exact eP_i hC (congrArg Value.int hg) dX2_hottestDot_31
  have L4 : ∀ (n4 d4 : Nat), ∀ (y1_4 : Int32), d4 + n4 = 24 → fX2_hottestDot v = (tX2_hottestDot_4 v (lpF n4 d4 (bX2_hottestDot_4 v) y1_4)) → ∀ (ls : Array Slot), lv_has ls 3 [(0, .ref (q 0)), (1, .int y1_4), (2, .int (nI d4))] → W p l e ({ frames := 1, cells := 0, slots := 0, locals := 24 }) s m ([.ref (q 0)] : List Value).toArray below meth c s.heap [] 0 0 (MQ below (QP (.int (fX2_hottestDot v))) ([.ref (q 0)] : List Value).toArray s 0 0 (fun _ => False)) (F0 m 4 ls []) := by
    intro n4
    induction n4 with
    | zero =>
      intro d4 y1_4 hd hg ls hl
      refine lv_iload_n hC.1 hC.2.1 dX2_hottestDot_4 rfl (lv_at hl 2 rfl) ?_
      refine lv_aload_n hC.1 hC.2.1 dX2_hottestDot_5 rfl (lv_at hl 0 rfl) ?_
      refine gf (v := .ref (q 1)) hC fwX2 hKN hP 0 rfl rfl 0 (by decide) rfl wd_116 rfl dX2_hottestDot_6 ?_
      refine alen_n hC hKN hP 1 rfl dX2_hottestDot_9 ?_
      refine lv_icmp_ge (tgt := 30) hC.1 hC.2.1 dX2_hottestDot_10 (by decide) (fun k10 => ?_) (fun k10 => ?_)
      · exact A4  y1_4 hg _ (lv_sub hl [1] rfl)
      · exact absurd (nI_le (a := 24) (b := d4) (by omega) (by omega)) k10
    | succ n4 ih =>
      intro d4 y1_4 hd hg ls hl
      have hg : fX2_hottestDot v = (tX2_hottestDot_4 v (lpF n4 (d4 + 1) (bX2_hottestDot_4 v) (bX2_hottestDot_4 v d4 y1_4))) := hg
      refine lv_iload_n hC.1 hC.2.1 dX2_hottestDot_4 rfl (lv_at hl 2 rfl) ?_
      refine lv_aload_n hC.1 hC.2.1 dX2_hottestDot_5 rfl (lv_at hl 0 rfl) ?_
      refine gf (v := .ref (q 1)) hC fwX2 hKN hP 0 rfl rfl 0 (by decide) rfl wd_116 rfl dX2_hottestDot_6 ?_
      refine alen_n hC hKN hP 1 rfl dX2_hottestDot_9 ?_
      refine lv_icmp_ge (tgt := 30) hC.1 hC.2.1 dX2_hottestDot_10 (by decide) (fun k10 => ?_) (fun k10 => ?_)
      · exact absurd k10 (nI_ge (a := d4) (b := 24) (by omega) (by omega))
      · refine lv_iload_n hC.1 hC.2.1 dX2_hottestDot_13 rfl (lv_at hl 1 rfl) ?_
        refine lv_aload_n hC.1 hC.2.1 dX2_hottestDot_14 rfl (lv_at hl 0 rfl) ?_
        refine gf (v := .ref (q 1)) hC fwX2 hKN hP 0 rfl rfl 0 (by decide) rfl wd_116 rfl dX2_hottestDot_15 ?_
        refine lv_iload_n hC.1 hC.2.1 dX2_hottestDot_18 rfl (lv_at hl 2 rfl) ?_
        refine iald_k hC hKN hP 1 rfl (n := 24) (f := (v 0)) d4 (rfl) (by omega) (by decide) dX2_hottestDot_19 ?_
        refine va_mmax hC.1 hC.2.1 (hC.2.2.2.1.trans hl.1.symm) hC.2.2.2.2.1 (hC.2.2.2.2.2.2.1 _ wd_412) (hC.2.2.2.2.2.2.1 _ wd_413) (hC.2.2.2.2.2.2.1 _ wd_3) (hC.2.2.2.2.2.2.1 _ wd_414) (Nat.le_of_ble_eq_true rfl) (Nat.le_of_ble_eq_true rfl) (Nat.zero_le _) (Nat.zero_le _) dX2_hottestDot_20 ?_
        refine lv_istore_n (lv' := [(1, .int (if y1_4 < ((v 0) d4) then ((v 0) d4) else y1_4)), (0, .ref (q 0)), (2, .int (nI d4))]) hC.1 hC.2.1 dX2_hottestDot_23 rfl hl (by decide) rfl (fun ls hl => ?_)
        refine lv_iinc (v := nI (d4 + 1)) (lv' := [(2, .int (nI (d4 + 1))), (1, .int (if y1_4 < ((v 0) d4) then ((v 0) d4) else y1_4)), (0, .ref (q 0))]) hC.1 hC.2.1 dX2_hottestDot_24 hl (k := 2) rfl (nI_1 _) (by decide) rfl (fun ls hl => ?_)
        refine lv_goto (tgt := 4) hC.1 hC.2.1 dX2_hottestDot_27 (by decide) ?_
        have e_2 : bX2_hottestDot_4 v d4 y1_4 = (if y1_4 < ((v 0) d4) then ((v 0) d4) else y1_4) := by exact rfl
        have hg : fX2_hottestDot v = (tX2_hottestDot_4 v (lpF n4 (d4 + 1) (bX2_hottestDot_4 v) (if y1_4 < ((v 0) d4) then ((v 0) d4) else y1_4))) := hg.trans (congrArg (fun z => (tX2_hottestDot_4 v (lpF n4 (d4 + 1) (bX2_hottestDot_4 v) z))) e_2)
        exact ih (d4 + 1) (if y1_4 < ((v 0) d4) then ((v 0) d4) else y1_4) (by omega) hg _ (lv_sub hl [2, 1, 0] rfl)
  have e_3 : fX2_hottestDot v = tX2_hottestDot_4 v (lpF 24 0 (bX2_hottestDot_4 v) 0) := by exact rfl
  have hg : fX2_hottestDot v = (tX2_hottestDot_4 v (lpF 24 0 (bX2_hottestDot_4 v) 0)) := hg.trans (congrArg (fun z => z) e_3)
  exact L4  24 0 0 (by omega) hg _ (lv_sub hl [2, 1, 0] rfl)

theorem dX2_timeUntilCool_0 : decode cX2_timeUntilCool 0 = .ok (.aload_n 0, 1) := by decide +kernel
theorem dX2_timeUntilCool_1 : decode cX2_timeUntilCool 1 = .ok (.aload_n 0, 1) := by decide +kernel
theorem dX2_timeUntilCool_2 : decode cX2_timeUntilCool 2 = .ok (.invokevirtual 150, 3) := by decide +kernel
theorem dX2_timeUntilCool_5 : decode cX2_timeUntilCool 5 = .ok (.iload_n 1, 1) := by decide +kernel
theorem dX2_timeUntilCool_6 : decode cX2_timeUntilCool 6 = .ok (.invokevirtual 127, 3) := by decide +kernel
theorem dX2_timeUntilCool_9 : decode cX2_timeUntilCool 9 = .ok (.ireturn, 1) := by decide +kernel
set_option maxHeartbeats 1000000 in
set_option maxRecDepth 100000 in
theorem c_X2_timeUntilCool (l : Launch) (G : GT) (q : Nat → Nat) (v : SV) (x1 : Int32) : Met l yX2_timeUntilCool (Cond.code yX2_timeUntilCool cX2_timeUntilCool 2 (some .int) :: bigW) ({ frames := 2, cells := 0, slots := 0, locals := 47 }) (BP G [.ref (q 0), .int x1] (fun U H => PW G (stW G q v) H)) (QP (.int (fX2_timeUntilCool v x1))) 0 0 (fun _ => False) := by
  refine met_of (by decide) (Nat.le_of_ble_eq_true rfl) ?_
  intro p e s m below meth c ls hC hKN hB0 hl
  have hP := hB0
  have hl : lv_has ls 2 [(0, .ref (q 0)), (1, .int x1)] := hl
  have hg : fX2_timeUntilCool v x1 = fX2_timeUntilCool v x1 := rfl
  refine lv_aload_n hC.1 hC.2.1 dX2_timeUntilCool_0 rfl (lv_at hl 0 rfl) ?_
  refine lv_aload_n hC.1 hC.2.1 dX2_timeUntilCool_1 rfl (lv_at hl 0 rfl) ?_
  refine runP (rV (B := fun U H => PW G (stW G q v) H) (As := []) (rest := [.ref (q 0)]) hC mwX2_hottestDot (c_X2_hottestDot l G q v) iwX2_hottestDot wd_573 ⟨rfl, rfl⟩ ⟨Nat.le_of_ble_eq_true rfl, Nat.le_of_ble_eq_true rfl⟩ (stb_h (fun H => PW G (stW G q v) H)) hKN hP (va_recv hKN.k hP (ci := 2) (q0 := 0) rfl rfl) rfl hl.1 rfl (Nat.le_of_ble_eq_true rfl) dX2_timeUntilCool_2 ⟨Nat.zero_le _, Nat.zero_le _⟩) ?_
  refine lv_iload_n hC.1 hC.2.1 dX2_timeUntilCool_5 rfl (lv_at hl 1 rfl) ?_
  refine runP (rV (B := fun U H => PW G (stW G q v) H) (As := [.int (fX2_hottestDot v), .int x1]) (rest := []) hC mwX2_timeDownTo (c_X2_timeDownTo l G q v (fX2_hottestDot v) x1) iwX2_timeDownTo wd_449 ⟨rfl, rfl⟩ ⟨Nat.le_of_ble_eq_true rfl, Nat.le_of_ble_eq_true rfl⟩ (stb_h (fun H => PW G (stW G q v) H)) hKN hP (va_recv hKN.k hP (ci := 2) (q0 := 0) rfl rfl) rfl hl.1 rfl (Nat.le_of_ble_eq_true rfl) dX2_timeUntilCool_6 ⟨Nat.zero_le _, Nat.zero_le _⟩) ?_
  have e_1 : fX2_timeUntilCool v x1 = fX2_timeDownTo v (fX2_hottestDot v) x1 := by exact rfl
  have hg : fX2_timeUntilCool v x1 = fX2_timeDownTo v (fX2_hottestDot v) x1 := hg.trans (congrArg (fun z => z) e_1)
  exact eP_i hC (congrArg Value.int hg) dX2_timeUntilCool_9

theorem dX2_leastDarkSetting_0 : decode cX2_leastDarkSetting 0 = .ok (.getstatic 153, 3) := by decide +kernel
theorem dX2_leastDarkSetting_3 : decode cX2_leastDarkSetting 3 = .ok (.iconst 0, 1) := by decide +kernel
theorem dX2_leastDarkSetting_4 : decode cX2_leastDarkSetting 4 = .ok (.invokestatic 59, 3) := by decide +kernel
theorem dX2_leastDarkSetting_7 : decode cX2_leastDarkSetting 7 = .ok (.istore_n 2, 1) := by decide +kernel
theorem dX2_leastDarkSetting_8 : decode cX2_leastDarkSetting 8 = .ok (.getstatic 156, 3) := by decide +kernel
theorem dX2_leastDarkSetting_11 : decode cX2_leastDarkSetting 11 = .ok (.iconst 0, 1) := by decide +kernel
theorem dX2_leastDarkSetting_12 : decode cX2_leastDarkSetting 12 = .ok (.invokestatic 59, 3) := by decide +kernel
theorem dX2_leastDarkSetting_15 : decode cX2_leastDarkSetting 15 = .ok (.istore_n 3, 1) := by decide +kernel
theorem dX2_leastDarkSetting_16 : decode cX2_leastDarkSetting 16 = .ok (.iload_n 3, 1) := by decide +kernel
theorem dX2_leastDarkSetting_17 : decode cX2_leastDarkSetting 17 = .ok (.iload_n 2, 1) := by decide +kernel
theorem dX2_leastDarkSetting_18 : decode cX2_leastDarkSetting 18 = .ok (.if_icmp .gt 53, 3) := by decide +kernel
theorem dX2_leastDarkSetting_21 : decode cX2_leastDarkSetting 21 = .ok (.aload_n 0, 1) := by decide +kernel
theorem dX2_leastDarkSetting_22 : decode cX2_leastDarkSetting 22 = .ok (.iload_n 1, 1) := by decide +kernel
theorem dX2_leastDarkSetting_23 : decode cX2_leastDarkSetting 23 = .ok (.iload_n 3, 1) := by decide +kernel
theorem dX2_leastDarkSetting_24 : decode cX2_leastDarkSetting 24 = .ok (.invokevirtual 159, 3) := by decide +kernel
theorem dX2_leastDarkSetting_27 : decode cX2_leastDarkSetting 27 = .ok (.istore 4, 2) := by decide +kernel
theorem dX2_leastDarkSetting_29 : decode cX2_leastDarkSetting 29 = .ok (.aload_n 0, 1) := by decide +kernel
theorem dX2_leastDarkSetting_30 : decode cX2_leastDarkSetting 30 = .ok (.getfield 9, 3) := by decide +kernel
theorem dX2_leastDarkSetting_33 : decode cX2_leastDarkSetting 33 = .ok (.iload_n 1, 1) := by decide +kernel
theorem dX2_leastDarkSetting_34 : decode cX2_leastDarkSetting 34 = .ok (.invokestatic 59, 3) := by decide +kernel
theorem dX2_leastDarkSetting_37 : decode cX2_leastDarkSetting 37 = .ok (.istore 5, 2) := by decide +kernel
theorem dX2_leastDarkSetting_39 : decode cX2_leastDarkSetting 39 = .ok (.aload_n 0, 1) := by decide +kernel
theorem dX2_leastDarkSetting_40 : decode cX2_leastDarkSetting 40 = .ok (.aload_n 0, 1) := by decide +kernel
theorem dX2_leastDarkSetting_41 : decode cX2_leastDarkSetting 41 = .ok (.iload 5, 2) := by decide +kernel
theorem dX2_leastDarkSetting_43 : decode cX2_leastDarkSetting 43 = .ok (.aload_n 0, 1) := by decide +kernel
theorem dX2_leastDarkSetting_44 : decode cX2_leastDarkSetting 44 = .ok (.iload 5, 2) := by decide +kernel
theorem dX2_leastDarkSetting_46 : decode cX2_leastDarkSetting 46 = .ok (.iload 4, 2) := by decide +kernel
theorem dX2_leastDarkSetting_48 : decode cX2_leastDarkSetting 48 = .ok (.invokevirtual 162, 3) := by decide +kernel
theorem dX2_leastDarkSetting_51 : decode cX2_leastDarkSetting 51 = .ok (.invokevirtual 143, 3) := by decide +kernel
theorem dX2_leastDarkSetting_54 : decode cX2_leastDarkSetting 54 = .ok (.iload 4, 2) := by decide +kernel
theorem dX2_leastDarkSetting_56 : decode cX2_leastDarkSetting 56 = .ok (.iadd, 1) := by decide +kernel
theorem dX2_leastDarkSetting_57 : decode cX2_leastDarkSetting 57 = .ok (.invokevirtual 133, 3) := by decide +kernel
theorem dX2_leastDarkSetting_60 : decode cX2_leastDarkSetting 60 = .ok (.ifCond .eq 5, 3) := by decide +kernel
theorem dX2_leastDarkSetting_63 : decode cX2_leastDarkSetting 63 = .ok (.iload_n 3, 1) := by decide +kernel
theorem dX2_leastDarkSetting_64 : decode cX2_leastDarkSetting 64 = .ok (.ireturn, 1) := by decide +kernel
theorem dX2_leastDarkSetting_65 : decode cX2_leastDarkSetting 65 = .ok (.iinc 3 1, 3) := by decide +kernel
theorem dX2_leastDarkSetting_68 : decode cX2_leastDarkSetting 68 = .ok (.goto (-52), 3) := by decide +kernel
theorem dX2_leastDarkSetting_71 : decode cX2_leastDarkSetting 71 = .ok (.iconst (-1), 1) := by decide +kernel
theorem dX2_leastDarkSetting_72 : decode cX2_leastDarkSetting 72 = .ok (.ireturn, 1) := by decide +kernel
set_option maxHeartbeats 1000000 in
set_option maxRecDepth 100000 in
theorem c_X2_leastDarkSetting (l : Launch) (G : GT) (q : Nat → Nat) (v : SV) (x1 : Int32) : Met l yX2_leastDarkSetting (Cond.code yX2_leastDarkSetting cX2_leastDarkSetting 6 (some .int) :: bigW) ({ frames := 3, cells := 0, slots := 0, locals := 70 }) (BP G [.ref (q 0), .int x1] (fun U H => PW G (stW G q v) H)) (QP (.int (fX2_leastDarkSetting v x1))) 0 0 (fun _ => False) := by
  refine met_of (by decide) (Nat.le_of_ble_eq_true rfl) ?_
  intro p e s m below meth c ls hC hKN hB0 hl
  have hP := hB0
  have hl : lv_has ls 6 [(0, .ref (q 0)), (1, .int x1)] := hl
  have hg : fX2_leastDarkSetting v x1 = fX2_leastDarkSetting v x1 := rfl
  refine gsN hC (hKN.2.2.1 2 (by decide)).1 (nf_26 hKN) dX2_leastDarkSetting_0 ?_
  refine lv_iconst (v := 0) hC.1 hC.2.1 dX2_leastDarkSetting_3 (by decide) ?_
  refine runP (rSN (B := fun U H => RD (gA G 2) 7 st2 U H) (As := [.ref (gA G 2), .int 0]) (rest := []) hC mwX5_at (c_X5_at l G (gA G 2) 7 st2 0) wd_249 (nm_5 hKN) ⟨rfl, rfl⟩ ⟨Nat.le_of_ble_eq_true rfl, Nat.le_of_ble_eq_true rfl⟩ (stb_RD _ _ _) hKN (hKN.rd 2 (by decide)) rfl hl.1 rfl (Nat.le_of_ble_eq_true rfl) dX2_leastDarkSetting_4 ⟨Nat.zero_le _, Nat.zero_le _⟩) ?_
  rw [show fX5_at 7 st2 0 = nI 300 from (by decide)]
  refine lv_istore_n (lv' := [(2, .int (nI 300)), (0, .ref (q 0)), (1, .int x1)]) hC.1 hC.2.1 dX2_leastDarkSetting_7 rfl hl (by decide) rfl (fun ls hl => ?_)
  refine gsN hC (hKN.2.2.1 1 (by decide)).1 (nf_27 hKN) dX2_leastDarkSetting_8 ?_
  refine lv_iconst (v := 0) hC.1 hC.2.1 dX2_leastDarkSetting_11 (by decide) ?_
  refine runP (rSN (B := fun U H => RD (gA G 1) 7 st1 U H) (As := [.ref (gA G 1), .int 0]) (rest := []) hC mwX5_at (c_X5_at l G (gA G 1) 7 st1 0) wd_249 (nm_5 hKN) ⟨rfl, rfl⟩ ⟨Nat.le_of_ble_eq_true rfl, Nat.le_of_ble_eq_true rfl⟩ (stb_RD _ _ _) hKN (hKN.rd 1 (by decide)) rfl hl.1 rfl (Nat.le_of_ble_eq_true rfl) dX2_leastDarkSetting_12 ⟨Nat.zero_le _, Nat.zero_le _⟩) ?_
  rw [show fX5_at 7 st1 0 = nI 50 from (by decide)]
  refine lv_istore_n (lv' := [(3, .int (nI 50)), (2, .int (nI 300)), (0, .ref (q 0)), (1, .int x1)]) hC.1 hC.2.1 dX2_leastDarkSetting_15 rfl hl (by decide) rfl (fun ls hl => ?_)
  have A16 : fX2_leastDarkSetting v x1 = (tX2_leastDarkSetting_16 v x1 ()) → ∀ (ls : Array Slot), lv_has ls 6 [] → W p l e ({ frames := 3, cells := 0, slots := 0, locals := 70 }) s m ([.ref (q 0), .int x1] : List Value).toArray below meth c s.heap [] 0 0 (MQ below (QP (.int (fX2_leastDarkSetting v x1))) ([.ref (q 0), .int x1] : List Value).toArray s 0 0 (fun _ => False)) (F0 m 71 ls []) := by
    intro   hg ls hl
    refine lv_iconst (v := (-1)) hC.1 hC.2.1 dX2_leastDarkSetting_71 (by decide) ?_
    have e_1 : tX2_leastDarkSetting_16 v x1 () = (-1) := by exact rfl
    have hg : fX2_leastDarkSetting v x1 = (-1) := hg.trans (congrArg (fun z => z) e_1)
    exact eP_i hC (congrArg Value.int hg) dX2_leastDarkSetting_72
  have L16 : ∀ (n16 d16 : Nat), d16 + n16 = 301 → fX2_leastDarkSetting v x1 = (Sum.elim (tX2_leastDarkSetting_16 v x1) id (lpR n16 d16 (bX2_leastDarkSetting_16 v x1) ())) → ∀ (ls : Array Slot), lv_has ls 6 [(0, .ref (q 0)), (1, .int x1), (2, .int (nI 300)), (3, .int (nI d16))] → W p l e ({ frames := 3, cells := 0, slots := 0, locals := 70 }) s m ([.ref (q 0), .int x1] : List Value).toArray below meth c s.heap [] 0 0 (MQ below (QP (.int (fX2_leastDarkSetting v x1))) ([.ref (q 0), .int x1] : List Value).toArray s 0 0 (fun _ => False)) (F0 m 16 ls []) := by
    intro n16
    induction n16 with
    | zero =>
      intro d16  hd hg ls hl
      refine lv_iload_n hC.1 hC.2.1 dX2_leastDarkSetting_16 rfl (lv_at hl 3 rfl) ?_
      refine lv_iload_n hC.1 hC.2.1 dX2_leastDarkSetting_17 rfl (lv_at hl 2 rfl) ?_
      refine lv_icmp_gt (tgt := 71) hC.1 hC.2.1 dX2_leastDarkSetting_18 (by decide) (fun k18 => ?_) (fun k18 => ?_)
      · exact A16   hg _ (lv_sub hl [] rfl)
      · exact absurd (nI_lt (by omega) (by omega)) k18
    | succ n16 ih =>
      intro d16  hd hg ls hl
      have hg : fX2_leastDarkSetting v x1 = (Sum.elim (tX2_leastDarkSetting_16 v x1) id (lpRs n16 d16 (bX2_leastDarkSetting_16 v x1) (bX2_leastDarkSetting_16 v x1 d16 ()))) := hg
      refine lv_iload_n hC.1 hC.2.1 dX2_leastDarkSetting_16 rfl (lv_at hl 3 rfl) ?_
      refine lv_iload_n hC.1 hC.2.1 dX2_leastDarkSetting_17 rfl (lv_at hl 2 rfl) ?_
      refine lv_icmp_gt (tgt := 71) hC.1 hC.2.1 dX2_leastDarkSetting_18 (by decide) (fun k18 => ?_) (fun k18 => ?_)
      · exact absurd k18 (nI_nlt (by omega) (by omega))
      · refine lv_aload_n hC.1 hC.2.1 dX2_leastDarkSetting_21 rfl (lv_at hl 0 rfl) ?_
        refine lv_iload_n hC.1 hC.2.1 dX2_leastDarkSetting_22 rfl (lv_at hl 1 rfl) ?_
        refine lv_iload_n hC.1 hC.2.1 dX2_leastDarkSetting_23 rfl (lv_at hl 3 rfl) ?_
        refine runP (rV (B := fun U H => PW G (stW G q v) H) (As := [.int x1, .int (nI d16)]) (rest := []) hC mwX2_pulseAlone (c_X2_pulseAlone l G q v x1 (nI d16)) iwX2_pulseAlone wd_435 ⟨rfl, rfl⟩ ⟨Nat.le_of_ble_eq_true rfl, Nat.le_of_ble_eq_true rfl⟩ (stb_h (fun H => PW G (stW G q v) H)) hKN hP (va_recv hKN.k hP (ci := 2) (q0 := 0) rfl rfl) rfl hl.1 rfl (Nat.le_of_ble_eq_true rfl) dX2_leastDarkSetting_24 ⟨Nat.zero_le _, Nat.zero_le _⟩) ?_
        refine lv_istore (lv' := [(4, .int (fX2_pulseAlone v x1 (nI d16))), (0, .ref (q 0)), (1, .int x1), (2, .int (nI 300)), (3, .int (nI d16))]) hC.1 hC.2.1 dX2_leastDarkSetting_27 hl (by decide) rfl (fun ls hl => ?_)
        refine lv_aload_n hC.1 hC.2.1 dX2_leastDarkSetting_29 rfl (lv_at hl 1 rfl) ?_
        refine gf (v := .ref (q 1)) hC fwX2 hKN hP 0 rfl rfl 0 (by decide) rfl wd_116 rfl dX2_leastDarkSetting_30 ?_
        refine lv_iload_n hC.1 hC.2.1 dX2_leastDarkSetting_33 rfl (lv_at hl 2 rfl) ?_
        refine runP (rSN (B := fun U H => RD (q 1) 24 (v 0) U H) (As := [.ref (q 1), .int x1]) (rest := []) hC mwX5_at (c_X5_at l G (q 1) 24 (v 0) x1) wd_249 (nm_5 hKN) ⟨rfl, rfl⟩ ⟨Nat.le_of_ble_eq_true rfl, Nat.le_of_ble_eq_true rfl⟩ (stb_RD _ _ _) hKN (RD.ofP hKN hP 1 rfl) rfl hl.1 rfl (Nat.le_of_ble_eq_true rfl) dX2_leastDarkSetting_34 ⟨Nat.zero_le _, Nat.zero_le _⟩) ?_
        refine lv_istore (lv' := [(5, .int (fX5_at 24 (v 0) x1)), (4, .int (fX2_pulseAlone v x1 (nI d16))), (0, .ref (q 0)), (1, .int x1), (2, .int (nI 300)), (3, .int (nI d16))]) hC.1 hC.2.1 dX2_leastDarkSetting_37 hl (by decide) rfl (fun ls hl => ?_)
        refine lv_aload_n hC.1 hC.2.1 dX2_leastDarkSetting_39 rfl (lv_at hl 2 rfl) ?_
        refine lv_aload_n hC.1 hC.2.1 dX2_leastDarkSetting_40 rfl (lv_at hl 2 rfl) ?_
        refine lv_iload hC.1 hC.2.1 dX2_leastDarkSetting_41 (lv_at hl 0 rfl) ?_
        refine lv_aload_n hC.1 hC.2.1 dX2_leastDarkSetting_43 rfl (lv_at hl 2 rfl) ?_
        refine lv_iload hC.1 hC.2.1 dX2_leastDarkSetting_44 (lv_at hl 0 rfl) ?_
        refine lv_iload hC.1 hC.2.1 dX2_leastDarkSetting_46 (lv_at hl 1 rfl) ?_
        refine runP (rV (B := fun U H => PW G (stW G q v) H) (As := [.int (fX5_at 24 (v 0) x1), .int (fX2_pulseAlone v x1 (nI d16))]) (rest := [.int (fX5_at 24 (v 0) x1), .ref (q 0), .ref (q 0)]) hC mwX2_waitFor (c_X2_waitFor l G q v (fX5_at 24 (v 0) x1) (fX2_pulseAlone v x1 (nI d16))) iwX2_waitFor wd_445 ⟨rfl, rfl⟩ ⟨Nat.le_of_ble_eq_true rfl, Nat.le_of_ble_eq_true rfl⟩ (stb_h (fun H => PW G (stW G q v) H)) hKN hP (va_recv hKN.k hP (ci := 2) (q0 := 0) rfl rfl) rfl hl.1 rfl (Nat.le_of_ble_eq_true rfl) dX2_leastDarkSetting_48 ⟨Nat.zero_le _, Nat.zero_le _⟩) ?_
        refine runP (rV (B := fun U H => PW G (stW G q v) H) (As := [.int (fX5_at 24 (v 0) x1), .int (fX2_waitFor v (fX5_at 24 (v 0) x1) (fX2_pulseAlone v x1 (nI d16)))]) (rest := [.ref (q 0)]) hC mwX2_cooledFor (c_X2_cooledFor l G q v (fX5_at 24 (v 0) x1) (fX2_waitFor v (fX5_at 24 (v 0) x1) (fX2_pulseAlone v x1 (nI d16)))) iwX2_cooledFor wd_524 ⟨rfl, rfl⟩ ⟨Nat.le_of_ble_eq_true rfl, Nat.le_of_ble_eq_true rfl⟩ (stb_h (fun H => PW G (stW G q v) H)) hKN hP (va_recv hKN.k hP (ci := 2) (q0 := 0) rfl rfl) rfl hl.1 rfl (Nat.le_of_ble_eq_true rfl) dX2_leastDarkSetting_51 ⟨Nat.zero_le _, Nat.zero_le _⟩) ?_
        refine lv_iload hC.1 hC.2.1 dX2_leastDarkSetting_54 (lv_at hl 1 rfl) ?_
        refine lv_iadd hC.1 hC.2.1 dX2_leastDarkSetting_56 ?_
        refine runP (rV (B := fun U H => PW G (stW G q v) H) (As := [.int ((fX2_cooledFor v (fX5_at 24 (v 0) x1) (fX2_waitFor v (fX5_at 24 (v 0) x1) (fX2_pulseAlone v x1 (nI d16)))) + (fX2_pulseAlone v x1 (nI d16)))]) (rest := []) hC mwX2_isDark (c_X2_isDark l G q v ((fX2_cooledFor v (fX5_at 24 (v 0) x1) (fX2_waitFor v (fX5_at 24 (v 0) x1) (fX2_pulseAlone v x1 (nI d16)))) + (fX2_pulseAlone v x1 (nI d16)))) iwX2_isDark wd_532 ⟨rfl, rfl⟩ ⟨Nat.le_of_ble_eq_true rfl, Nat.le_of_ble_eq_true rfl⟩ (stb_h (fun H => PW G (stW G q v) H)) hKN hP (va_recv hKN.k hP (ci := 2) (q0 := 0) rfl rfl) rfl hl.1 rfl (Nat.le_of_ble_eq_true rfl) dX2_leastDarkSetting_57 ⟨Nat.zero_le _, Nat.zero_le _⟩) ?_
        refine lv_if_eq (tgt := 65) hC.1 hC.2.1 dX2_leastDarkSetting_60 (by decide) (fun k60 => ?_) (fun k60 => ?_)
        · refine lv_iinc (v := nI (d16 + 1)) (lv' := [(3, .int (nI (d16 + 1))), (5, .int (fX5_at 24 (v 0) x1)), (4, .int (fX2_pulseAlone v x1 (nI d16))), (0, .ref (q 0)), (1, .int x1), (2, .int (nI 300))]) hC.1 hC.2.1 dX2_leastDarkSetting_65 hl (k := 5) rfl (nI_1 _) (by decide) rfl (fun ls hl => ?_)
          refine lv_goto (tgt := 16) hC.1 hC.2.1 dX2_leastDarkSetting_68 (by decide) ?_
          have e_2 : bX2_leastDarkSetting_16 v x1 d16 () = Sum.inl () := by exact Eq.trans (if_pos k60) rfl
          have hg : fX2_leastDarkSetting v x1 = (Sum.elim (tX2_leastDarkSetting_16 v x1) id (lpR n16 (d16 + 1) (bX2_leastDarkSetting_16 v x1) ())) := hg.trans (congrArg (fun z => (Sum.elim (tX2_leastDarkSetting_16 v x1) id (lpRs n16 d16 (bX2_leastDarkSetting_16 v x1) z))) e_2)
          exact ih (d16 + 1)  (by omega) hg _ (lv_sub hl [3, 4, 5, 0] rfl)
        · refine lv_iload_n hC.1 hC.2.1 dX2_leastDarkSetting_63 rfl (lv_at hl 5 rfl) ?_
          have e_3 : bX2_leastDarkSetting_16 v x1 d16 () = Sum.inr (nI d16) := by exact Eq.trans (if_neg k60) rfl
          have hg : fX2_leastDarkSetting v x1 = nI d16 := hg.trans (congrArg (fun z => (Sum.elim (tX2_leastDarkSetting_16 v x1) id (lpRs n16 d16 (bX2_leastDarkSetting_16 v x1) z))) e_3)
          exact eP_i hC (congrArg Value.int hg) dX2_leastDarkSetting_64
  have e_4 : fX2_leastDarkSetting v x1 = Sum.elim (tX2_leastDarkSetting_16 v x1) id (lpR (301 - 50) 50 (bX2_leastDarkSetting_16 v x1) ()) := by exact rfl
  have hg : fX2_leastDarkSetting v x1 = (Sum.elim (tX2_leastDarkSetting_16 v x1) id (lpR (301 - 50) 50 (bX2_leastDarkSetting_16 v x1) ())) := hg.trans (congrArg (fun z => z) e_4)
  exact L16  (301 - 50) 50  (by omega) hg _ (lv_sub hl [2, 3, 1, 0] rfl)
end
section
def tX2_dotsOfPart_41 (v : SV) (x1 : Int32) (x2 : Int32) (x3 : Int32) (x4 : Int32) (y5_41 : Int32) (s : Int32 × Int32) : Int32 := let y6_41 := s.1; let y7_41 := s.2; y6_41
def tX2_dotsOfPart_J75 (v : SV) (x1 : Int32) (x2 : Int32) (x3 : Int32) (x4 : Int32) (y5_41 : Int32) (d41 : Nat) (y6_75 : Int32) (y7_75 : Int32) (z0_75 : Int32) : Int32 × Int32 := if z0_75 = x2 then ((y6_75 ||| (1 <<< ((nI d41) &&& 31)), y7_75 + 1)) else ((y6_75, y7_75 + 1))
def bX2_dotsOfPart_41 (v : SV) (x1 : Int32) (x2 : Int32) (x3 : Int32) (x4 : Int32) (y5_41 : Int32) (d41 : Nat) (s : Int32 × Int32) : Int32 × Int32 := let y6_41 := s.1; let y7_41 := s.2; if (fX5_bitOf x1 (nI d41)) = 1 then (if y5_41 = 0 then (tX2_dotsOfPart_J75 v x1 x2 x3 x4 y5_41 d41 y6_41 y7_41 (y7_41 / x4)) else (tX2_dotsOfPart_J75 v x1 x2 x3 x4 y5_41 d41 y6_41 y7_41 (y7_41 - y7_41 / x3 * x3))) else ((y6_41, y7_41))
def tX2_dotsOfPart_J30 (v : SV) (x1 : Int32) (x2 : Int32) (x3 : Int32) (x4 : Int32) (z0_30 : Int32) : Int32 := tX2_dotsOfPart_41 v x1 x2 x3 x4 z0_30 (lpF 24 0 (bX2_dotsOfPart_41 v x1 x2 x3 x4 z0_30) (0, 0))
def fX2_dotsOfPart (v : SV) (x1 : Int32) (x2 : Int32) (x3 : Int32) (x4 : Int32) : Int32 := if x3 < 1 then (0) else (if 1 ≤ x4 then (if (fX5_at 7 (v 2) 5) = 1 then (tX2_dotsOfPart_J30 v x1 x2 x3 x4 1) else (tX2_dotsOfPart_J30 v x1 x2 x3 x4 0)) else (0))
def tX2_waitOfPart_14 (v : SV) (x1 : Int32) (y2_14 : Int32) (s : Int32) : Int32 := let y3_14 := s; y3_14
def bX2_waitOfPart_14 (v : SV) (x1 : Int32) (y2_14 : Int32) (d14 : Nat) (s : Int32) : Int32 := let y3_14 := s; if (fX5_bitOf x1 (nI d14)) = 1 then ((if y3_14 < (fX2_timeDownTo v (fX5_at 24 (v 0) (nI d14)) (y2_14 - (fX5_at 24 (v 1) (nI d14)))) then (fX2_timeDownTo v (fX5_at 24 (v 0) (nI d14)) (y2_14 - (fX5_at 24 (v 1) (nI d14)))) else y3_14)) else (y3_14)
def fX2_waitOfPart (v : SV) (x1 : Int32) : Int32 := tX2_waitOfPart_14 v x1 (fX5_at 7 (v 2) 2) (lpF 24 0 (bX2_waitOfPart_14 v x1 (fX5_at 7 (v 2) 2)) 0)
def tX2_longestPulse_4 (v : SV) (x1 : Int32) (s : Int32) : Int32 := let y2_4 := s; y2_4
def bX2_longestPulse_4 (v : SV) (x1 : Int32) (d4 : Nat) (s : Int32) : Int32 := let y2_4 := s; if (fX5_bitOf x1 (nI d4)) = 1 then ((if y2_4 < ((v 1) d4) then ((v 1) d4) else y2_4)) else (y2_4)
def fX2_longestPulse (v : SV) (x1 : Int32) : Int32 := tX2_longestPulse_4 v x1 (lpF 24 0 (bX2_longestPulse_4 v x1) 0)
def fX2_numberOfDot (v : SV) (x1 : Int32) (x2 : Int32) : Int32 := if x2 = 0 then (fX5_at 24 (v 0) x1) else if x2 = 1 then (fX5_bitOf (v 8 8) x1) else if x2 = 2 then (fX5_bitOf (v 8 9) x1) else if x2 = 3 then (fX5_at 24 (v 6) x1) else if x2 = 4 then (fX5_at 24 (v 7) x1) else if x2 = 5 then (fX2_pulseAlone v x1 (fX5_at 7 (v 2) 0)) else (fX2_waitFor v (fX5_at 24 (v 0) x1) (fX2_pulseAlone v x1 (fX5_at 7 (v 2) 0)))
theorem dX2_dotsOfPart_0 : decode cX2_dotsOfPart 0 = .ok (.iload_n 3, 1) := by decide +kernel
theorem dX2_dotsOfPart_1 : decode cX2_dotsOfPart 1 = .ok (.iconst 1, 1) := by decide +kernel
theorem dX2_dotsOfPart_2 : decode cX2_dotsOfPart 2 = .ok (.if_icmp .lt 9, 3) := by decide +kernel
theorem dX2_dotsOfPart_5 : decode cX2_dotsOfPart 5 = .ok (.iload 4, 2) := by decide +kernel
theorem dX2_dotsOfPart_7 : decode cX2_dotsOfPart 7 = .ok (.iconst 1, 1) := by decide +kernel
theorem dX2_dotsOfPart_8 : decode cX2_dotsOfPart 8 = .ok (.if_icmp .ge 5, 3) := by decide +kernel
theorem dX2_dotsOfPart_11 : decode cX2_dotsOfPart 11 = .ok (.iconst 0, 1) := by decide +kernel
theorem dX2_dotsOfPart_12 : decode cX2_dotsOfPart 12 = .ok (.ireturn, 1) := by decide +kernel
theorem dX2_dotsOfPart_13 : decode cX2_dotsOfPart 13 = .ok (.aload_n 0, 1) := by decide +kernel
theorem dX2_dotsOfPart_14 : decode cX2_dotsOfPart 14 = .ok (.getfield 21, 3) := by decide +kernel
theorem dX2_dotsOfPart_17 : decode cX2_dotsOfPart 17 = .ok (.iconst 5, 1) := by decide +kernel
theorem dX2_dotsOfPart_18 : decode cX2_dotsOfPart 18 = .ok (.invokestatic 59, 3) := by decide +kernel
theorem dX2_dotsOfPart_21 : decode cX2_dotsOfPart 21 = .ok (.iconst 1, 1) := by decide +kernel
theorem dX2_dotsOfPart_22 : decode cX2_dotsOfPart 22 = .ok (.if_icmp .ne 7, 3) := by decide +kernel
theorem dX2_dotsOfPart_25 : decode cX2_dotsOfPart 25 = .ok (.iconst 1, 1) := by decide +kernel
theorem dX2_dotsOfPart_26 : decode cX2_dotsOfPart 26 = .ok (.goto 4, 3) := by decide +kernel
theorem dX2_dotsOfPart_29 : decode cX2_dotsOfPart 29 = .ok (.iconst 0, 1) := by decide +kernel
theorem dX2_dotsOfPart_30 : decode cX2_dotsOfPart 30 = .ok (.istore 5, 2) := by decide +kernel
theorem dX2_dotsOfPart_32 : decode cX2_dotsOfPart 32 = .ok (.iconst 0, 1) := by decide +kernel
theorem dX2_dotsOfPart_33 : decode cX2_dotsOfPart 33 = .ok (.istore 6, 2) := by decide +kernel
theorem dX2_dotsOfPart_35 : decode cX2_dotsOfPart 35 = .ok (.iconst 0, 1) := by decide +kernel
theorem dX2_dotsOfPart_36 : decode cX2_dotsOfPart 36 = .ok (.istore 7, 2) := by decide +kernel
theorem dX2_dotsOfPart_38 : decode cX2_dotsOfPart 38 = .ok (.iconst 0, 1) := by decide +kernel
theorem dX2_dotsOfPart_39 : decode cX2_dotsOfPart 39 = .ok (.istore 8, 2) := by decide +kernel
theorem dX2_dotsOfPart_41 : decode cX2_dotsOfPart 41 = .ok (.iload 8, 2) := by decide +kernel
theorem dX2_dotsOfPart_43 : decode cX2_dotsOfPart 43 = .ok (.bipush 24, 2) := by decide +kernel
theorem dX2_dotsOfPart_45 : decode cX2_dotsOfPart 45 = .ok (.if_icmp .ge 56, 3) := by decide +kernel
theorem dX2_dotsOfPart_48 : decode cX2_dotsOfPart 48 = .ok (.iload_n 1, 1) := by decide +kernel
theorem dX2_dotsOfPart_49 : decode cX2_dotsOfPart 49 = .ok (.iload 8, 2) := by decide +kernel
theorem dX2_dotsOfPart_51 : decode cX2_dotsOfPart 51 = .ok (.invokestatic 124, 3) := by decide +kernel
theorem dX2_dotsOfPart_54 : decode cX2_dotsOfPart 54 = .ok (.iconst 1, 1) := by decide +kernel
theorem dX2_dotsOfPart_55 : decode cX2_dotsOfPart 55 = .ok (.if_icmp .ne 40, 3) := by decide +kernel
theorem dX2_dotsOfPart_58 : decode cX2_dotsOfPart 58 = .ok (.iload 5, 2) := by decide +kernel
theorem dX2_dotsOfPart_60 : decode cX2_dotsOfPart 60 = .ok (.ifCond .eq 10, 3) := by decide +kernel
theorem dX2_dotsOfPart_63 : decode cX2_dotsOfPart 63 = .ok (.iload 7, 2) := by decide +kernel
theorem dX2_dotsOfPart_65 : decode cX2_dotsOfPart 65 = .ok (.iload_n 3, 1) := by decide +kernel
theorem dX2_dotsOfPart_66 : decode cX2_dotsOfPart 66 = .ok (.irem, 1) := by decide +kernel
theorem dX2_dotsOfPart_67 : decode cX2_dotsOfPart 67 = .ok (.goto 8, 3) := by decide +kernel
theorem dX2_dotsOfPart_70 : decode cX2_dotsOfPart 70 = .ok (.iload 7, 2) := by decide +kernel
theorem dX2_dotsOfPart_72 : decode cX2_dotsOfPart 72 = .ok (.iload 4, 2) := by decide +kernel
theorem dX2_dotsOfPart_74 : decode cX2_dotsOfPart 74 = .ok (.idiv, 1) := by decide +kernel
theorem dX2_dotsOfPart_75 : decode cX2_dotsOfPart 75 = .ok (.istore 9, 2) := by decide +kernel
theorem dX2_dotsOfPart_77 : decode cX2_dotsOfPart 77 = .ok (.iload 9, 2) := by decide +kernel
theorem dX2_dotsOfPart_79 : decode cX2_dotsOfPart 79 = .ok (.iload_n 2, 1) := by decide +kernel
theorem dX2_dotsOfPart_80 : decode cX2_dotsOfPart 80 = .ok (.if_icmp .ne 12, 3) := by decide +kernel
theorem dX2_dotsOfPart_83 : decode cX2_dotsOfPart 83 = .ok (.iload 6, 2) := by decide +kernel
theorem dX2_dotsOfPart_85 : decode cX2_dotsOfPart 85 = .ok (.iconst 1, 1) := by decide +kernel
theorem dX2_dotsOfPart_86 : decode cX2_dotsOfPart 86 = .ok (.iload 8, 2) := by decide +kernel
theorem dX2_dotsOfPart_88 : decode cX2_dotsOfPart 88 = .ok (.ishl, 1) := by decide +kernel
theorem dX2_dotsOfPart_89 : decode cX2_dotsOfPart 89 = .ok (.ior, 1) := by decide +kernel
theorem dX2_dotsOfPart_90 : decode cX2_dotsOfPart 90 = .ok (.istore 6, 2) := by decide +kernel
theorem dX2_dotsOfPart_92 : decode cX2_dotsOfPart 92 = .ok (.iinc 7 1, 3) := by decide +kernel
theorem dX2_dotsOfPart_95 : decode cX2_dotsOfPart 95 = .ok (.iinc 8 1, 3) := by decide +kernel
theorem dX2_dotsOfPart_98 : decode cX2_dotsOfPart 98 = .ok (.goto (-57), 3) := by decide +kernel
theorem dX2_dotsOfPart_101 : decode cX2_dotsOfPart 101 = .ok (.iload 6, 2) := by decide +kernel
theorem dX2_dotsOfPart_103 : decode cX2_dotsOfPart 103 = .ok (.ireturn, 1) := by decide +kernel
set_option maxHeartbeats 1000000 in
set_option maxRecDepth 100000 in
theorem c_X2_dotsOfPart (l : Launch) (G : GT) (q : Nat → Nat) (v : SV) (x1 : Int32) (x2 : Int32) (x3 : Int32) (x4 : Int32) : Met l yX2_dotsOfPart (Cond.code yX2_dotsOfPart cX2_dotsOfPart 10 (some .int) :: bigW) ({ frames := 1, cells := 0, slots := 0, locals := 21 }) (BP G [.ref (q 0), .int x1, .int x2, .int x3, .int x4] (fun U H => PW G (stW G q v) H)) (QP (.int (fX2_dotsOfPart v x1 x2 x3 x4))) 0 0 (fun _ => False) := by
  refine met_of (by decide) (Nat.le_of_ble_eq_true rfl) ?_
  intro p e s m below meth c ls hC hKN hB0 hl
  have hP := hB0
  have hl : lv_has ls 10 [(0, .ref (q 0)), (1, .int x1), (2, .int x2), (3, .int x3), (4, .int x4)] := hl
  have hg : fX2_dotsOfPart v x1 x2 x3 x4 = fX2_dotsOfPart v x1 x2 x3 x4 := rfl
  refine lv_iload_n hC.1 hC.2.1 dX2_dotsOfPart_0 rfl (lv_at hl 3 rfl) ?_
  refine lv_iconst (v := 1) hC.1 hC.2.1 dX2_dotsOfPart_1 (by decide) ?_
  refine lv_icmp_lt (tgt := 11) hC.1 hC.2.1 dX2_dotsOfPart_2 (by decide) (fun k2 => ?_) (fun k2 => ?_)
  · refine lv_iconst (v := 0) hC.1 hC.2.1 dX2_dotsOfPart_11 (by decide) ?_
    have e_1 : fX2_dotsOfPart v x1 x2 x3 x4 = 0 := by exact Eq.trans (if_pos k2) rfl
    have hg : fX2_dotsOfPart v x1 x2 x3 x4 = 0 := hg.trans (congrArg (fun z => z) e_1)
    exact eP_i hC (congrArg Value.int hg) dX2_dotsOfPart_12
  · refine lv_iload hC.1 hC.2.1 dX2_dotsOfPart_5 (lv_at hl 4 rfl) ?_
    refine lv_iconst (v := 1) hC.1 hC.2.1 dX2_dotsOfPart_7 (by decide) ?_
    refine lv_icmp_ge (tgt := 13) hC.1 hC.2.1 dX2_dotsOfPart_8 (by decide) (fun k8 => ?_) (fun k8 => ?_)
    · refine lv_aload_n hC.1 hC.2.1 dX2_dotsOfPart_13 rfl (lv_at hl 0 rfl) ?_
      refine gf (v := .ref (q 3)) hC fwX2 hKN hP 0 rfl rfl 2 (by decide) rfl wd_118 rfl dX2_dotsOfPart_14 ?_
      refine lv_iconst (v := 5) hC.1 hC.2.1 dX2_dotsOfPart_17 (by decide) ?_
      refine runP (rSN (B := fun U H => RD (q 3) 7 (v 2) U H) (As := [.ref (q 3), .int 5]) (rest := []) hC mwX5_at (c_X5_at l G (q 3) 7 (v 2) 5) wd_249 (nm_5 hKN) ⟨rfl, rfl⟩ ⟨Nat.le_of_ble_eq_true rfl, Nat.le_of_ble_eq_true rfl⟩ (stb_RD _ _ _) hKN (RD.ofP hKN hP 3 rfl) rfl hl.1 rfl (Nat.le_of_ble_eq_true rfl) dX2_dotsOfPart_18 ⟨Nat.zero_le _, Nat.zero_le _⟩) ?_
      refine lv_iconst (v := 1) hC.1 hC.2.1 dX2_dotsOfPart_21 (by decide) ?_
      have J30 : ∀ (z0_30 : Int32), fX2_dotsOfPart v x1 x2 x3 x4 = tX2_dotsOfPart_J30 v x1 x2 x3 x4 z0_30 → ∀ (ls : Array Slot), lv_has ls 10 [(1, .int x1), (2, .int x2), (3, .int x3), (4, .int x4)] → W p l e ({ frames := 1, cells := 0, slots := 0, locals := 21 }) s m ([.ref (q 0), .int x1, .int x2, .int x3, .int x4] : List Value).toArray below meth c s.heap [] 0 0 (MQ below (QP (.int (fX2_dotsOfPart v x1 x2 x3 x4))) ([.ref (q 0), .int x1, .int x2, .int x3, .int x4] : List Value).toArray s 0 0 (fun _ => False)) (F0 m 30 ls [.int z0_30]) := by
        intro z0_30 hg ls hl
        refine lv_istore (lv' := [(5, .int z0_30), (1, .int x1), (2, .int x2), (3, .int x3), (4, .int x4)]) hC.1 hC.2.1 dX2_dotsOfPart_30 hl (by decide) rfl (fun ls hl => ?_)
        refine lv_iconst (v := 0) hC.1 hC.2.1 dX2_dotsOfPart_32 (by decide) ?_
        refine lv_istore (lv' := [(6, .int 0), (5, .int z0_30), (1, .int x1), (2, .int x2), (3, .int x3), (4, .int x4)]) hC.1 hC.2.1 dX2_dotsOfPart_33 hl (by decide) rfl (fun ls hl => ?_)
        refine lv_iconst (v := 0) hC.1 hC.2.1 dX2_dotsOfPart_35 (by decide) ?_
        refine lv_istore (lv' := [(7, .int 0), (6, .int 0), (5, .int z0_30), (1, .int x1), (2, .int x2), (3, .int x3), (4, .int x4)]) hC.1 hC.2.1 dX2_dotsOfPart_36 hl (by decide) rfl (fun ls hl => ?_)
        refine lv_iconst (v := 0) hC.1 hC.2.1 dX2_dotsOfPart_38 (by decide) ?_
        refine lv_istore (lv' := [(8, .int 0), (7, .int 0), (6, .int 0), (5, .int z0_30), (1, .int x1), (2, .int x2), (3, .int x3), (4, .int x4)]) hC.1 hC.2.1 dX2_dotsOfPart_39 hl (by decide) rfl (fun ls hl => ?_)
        have A41 : ∀ (y5_41 : Int32), ∀ (y6_41 : Int32) (y7_41 : Int32), fX2_dotsOfPart v x1 x2 x3 x4 = (tX2_dotsOfPart_41 v x1 x2 x3 x4 y5_41 (y6_41, y7_41)) → ∀ (ls : Array Slot), lv_has ls 10 [(6, .int y6_41)] → W p l e ({ frames := 1, cells := 0, slots := 0, locals := 21 }) s m ([.ref (q 0), .int x1, .int x2, .int x3, .int x4] : List Value).toArray below meth c s.heap [] 0 0 (MQ below (QP (.int (fX2_dotsOfPart v x1 x2 x3 x4))) ([.ref (q 0), .int x1, .int x2, .int x3, .int x4] : List Value).toArray s 0 0 (fun _ => False)) (F0 m 101 ls []) := by
          intro y5_41 y6_41 y7_41 hg ls hl
          refine lv_iload hC.1 hC.2.1 dX2_dotsOfPart_101 (lv_at hl 0 rfl) ?_
          have e_2 : tX2_dotsOfPart_41 v x1 x2 x3 x4 y5_41 (y6_41, y7_41) = y6_41 := by exact rfl
          have hg : fX2_dotsOfPart v x1 x2 x3 x4 = y6_41 := hg.trans (congrArg (fun z => z) e_2)
          exact eP_i hC (congrArg Value.int hg) dX2_dotsOfPart_103
        have L41 : ∀ (y5_41 : Int32), ∀ (n41 d41 : Nat), ∀ (y6_41 : Int32) (y7_41 : Int32), d41 + n41 = 24 → fX2_dotsOfPart v x1 x2 x3 x4 = (tX2_dotsOfPart_41 v x1 x2 x3 x4 y5_41 (lpF n41 d41 (bX2_dotsOfPart_41 v x1 x2 x3 x4 y5_41) (y6_41, y7_41))) → ∀ (ls : Array Slot), lv_has ls 10 [(1, .int x1), (2, .int x2), (3, .int x3), (4, .int x4), (5, .int y5_41), (6, .int y6_41), (7, .int y7_41), (8, .int (nI d41))] → W p l e ({ frames := 1, cells := 0, slots := 0, locals := 21 }) s m ([.ref (q 0), .int x1, .int x2, .int x3, .int x4] : List Value).toArray below meth c s.heap [] 0 0 (MQ below (QP (.int (fX2_dotsOfPart v x1 x2 x3 x4))) ([.ref (q 0), .int x1, .int x2, .int x3, .int x4] : List Value).toArray s 0 0 (fun _ => False)) (F0 m 41 ls []) := by
          intro y5_41
          intro n41
          induction n41 with
          | zero =>
            intro d41 y6_41 y7_41 hd hg ls hl
            refine lv_iload hC.1 hC.2.1 dX2_dotsOfPart_41 (lv_at hl 7 rfl) ?_
            refine lv_bipush (v := 24) hC.1 hC.2.1 dX2_dotsOfPart_43 (by decide +kernel) ?_
            refine lv_icmp_ge (tgt := 101) hC.1 hC.2.1 dX2_dotsOfPart_45 (by decide) (fun k45 => ?_) (fun k45 => ?_)
            · exact A41 y5_41 y6_41 y7_41 hg _ (lv_sub hl [5] rfl)
            · exact absurd (nI_le (a := 24) (b := d41) (by omega) (by omega)) k45
          | succ n41 ih =>
            intro d41 y6_41 y7_41 hd hg ls hl
            have hg : fX2_dotsOfPart v x1 x2 x3 x4 = (tX2_dotsOfPart_41 v x1 x2 x3 x4 y5_41 (lpF n41 (d41 + 1) (bX2_dotsOfPart_41 v x1 x2 x3 x4 y5_41) (bX2_dotsOfPart_41 v x1 x2 x3 x4 y5_41 d41 (y6_41, y7_41)))) := hg
            refine lv_iload hC.1 hC.2.1 dX2_dotsOfPart_41 (lv_at hl 7 rfl) ?_
            refine lv_bipush (v := 24) hC.1 hC.2.1 dX2_dotsOfPart_43 (by decide +kernel) ?_
            refine lv_icmp_ge (tgt := 101) hC.1 hC.2.1 dX2_dotsOfPart_45 (by decide) (fun k45 => ?_) (fun k45 => ?_)
            · exact absurd k45 (nI_ge (a := d41) (b := 24) (by omega) (by omega))
            · refine lv_iload_n hC.1 hC.2.1 dX2_dotsOfPart_48 rfl (lv_at hl 0 rfl) ?_
              refine lv_iload hC.1 hC.2.1 dX2_dotsOfPart_49 (lv_at hl 7 rfl) ?_
              refine runP (rSN (B := fun U H => True) (As := [.int x1, .int (nI d41)]) (rest := []) hC mwX5_bitOf (c_X5_bitOf l G x1 (nI d41)) wd_433 (nm_6 hKN) ⟨rfl, rfl⟩ ⟨Nat.le_of_ble_eq_true rfl, Nat.le_of_ble_eq_true rfl⟩ (fun _ _ _ _ h => h) hKN trivial rfl hl.1 rfl (Nat.le_of_ble_eq_true rfl) dX2_dotsOfPart_51 ⟨Nat.zero_le _, Nat.zero_le _⟩) ?_
              refine lv_iconst (v := 1) hC.1 hC.2.1 dX2_dotsOfPart_54 (by decide) ?_
              refine lv_icmp_ne (tgt := 95) hC.1 hC.2.1 dX2_dotsOfPart_55 (by decide) (fun k55 => ?_) (fun k55 => ?_)
              · refine lv_iinc (v := nI (d41 + 1)) (lv' := [(8, .int (nI (d41 + 1))), (1, .int x1), (2, .int x2), (3, .int x3), (4, .int x4), (5, .int y5_41), (6, .int y6_41), (7, .int y7_41)]) hC.1 hC.2.1 dX2_dotsOfPart_95 hl (k := 7) rfl (nI_1 _) (by decide) rfl (fun ls hl => ?_)
                refine lv_goto (tgt := 41) hC.1 hC.2.1 dX2_dotsOfPart_98 (by decide) ?_
                have e_3 : bX2_dotsOfPart_41 v x1 x2 x3 x4 y5_41 d41 (y6_41, y7_41) = (y6_41, y7_41) := by exact Eq.trans (if_neg k55) rfl
                have hg : fX2_dotsOfPart v x1 x2 x3 x4 = (tX2_dotsOfPart_41 v x1 x2 x3 x4 y5_41 (lpF n41 (d41 + 1) (bX2_dotsOfPart_41 v x1 x2 x3 x4 y5_41) (y6_41, y7_41))) := hg.trans (congrArg (fun z => (tX2_dotsOfPart_41 v x1 x2 x3 x4 y5_41 (lpF n41 (d41 + 1) (bX2_dotsOfPart_41 v x1 x2 x3 x4 y5_41) z))) e_3)
                exact ih (d41 + 1) y6_41 y7_41 (by omega) hg _ (lv_sub hl [1, 2, 3, 4, 5, 6, 7, 0] rfl)
              · refine lv_iload hC.1 hC.2.1 dX2_dotsOfPart_58 (lv_at hl 4 rfl) ?_
                have J75 : ∀ (y6_75 : Int32) (y7_75 : Int32) (z0_75 : Int32), fX2_dotsOfPart v x1 x2 x3 x4 = (tX2_dotsOfPart_41 v x1 x2 x3 x4 y5_41 (lpF n41 (d41 + 1) (bX2_dotsOfPart_41 v x1 x2 x3 x4 y5_41) (tX2_dotsOfPart_J75 v x1 x2 x3 x4 y5_41 d41 y6_75 y7_75 z0_75))) → ∀ (ls : Array Slot), lv_has ls 10 [(1, .int x1), (2, .int x2), (3, .int x3), (4, .int x4), (5, .int y5_41), (6, .int y6_75), (7, .int y7_75), (8, .int (nI d41))] → W p l e ({ frames := 1, cells := 0, slots := 0, locals := 21 }) s m ([.ref (q 0), .int x1, .int x2, .int x3, .int x4] : List Value).toArray below meth c s.heap [] 0 0 (MQ below (QP (.int (fX2_dotsOfPart v x1 x2 x3 x4))) ([.ref (q 0), .int x1, .int x2, .int x3, .int x4] : List Value).toArray s 0 0 (fun _ => False)) (F0 m 75 ls [.int z0_75]) := by
                  intro y6_75 y7_75 z0_75 hg ls hl
                  refine lv_istore (lv' := [(9, .int z0_75), (1, .int x1), (2, .int x2), (3, .int x3), (4, .int x4), (5, .int y5_41), (6, .int y6_75), (7, .int y7_75), (8, .int (nI d41))]) hC.1 hC.2.1 dX2_dotsOfPart_75 hl (by decide) rfl (fun ls hl => ?_)
                  refine lv_iload hC.1 hC.2.1 dX2_dotsOfPart_77 (lv_at hl 0 rfl) ?_
                  refine lv_iload_n hC.1 hC.2.1 dX2_dotsOfPart_79 rfl (lv_at hl 2 rfl) ?_
                  refine lv_icmp_ne (tgt := 92) hC.1 hC.2.1 dX2_dotsOfPart_80 (by decide) (fun k80 => ?_) (fun k80 => ?_)
                  · refine lv_iinc (v := y7_75 + 1) (lv' := [(7, .int (y7_75 + 1)), (9, .int z0_75), (1, .int x1), (2, .int x2), (3, .int x3), (4, .int x4), (5, .int y5_41), (6, .int y6_75), (8, .int (nI d41))]) hC.1 hC.2.1 dX2_dotsOfPart_92 hl (k := 7) rfl rfl (by decide) rfl (fun ls hl => ?_)
                    refine lv_iinc (v := nI (d41 + 1)) (lv' := [(8, .int (nI (d41 + 1))), (7, .int (y7_75 + 1)), (9, .int z0_75), (1, .int x1), (2, .int x2), (3, .int x3), (4, .int x4), (5, .int y5_41), (6, .int y6_75)]) hC.1 hC.2.1 dX2_dotsOfPart_95 hl (k := 8) rfl (nI_1 _) (by decide) rfl (fun ls hl => ?_)
                    refine lv_goto (tgt := 41) hC.1 hC.2.1 dX2_dotsOfPart_98 (by decide) ?_
                    have e_4 : tX2_dotsOfPart_J75 v x1 x2 x3 x4 y5_41 d41 y6_75 y7_75 z0_75 = (y6_75, y7_75 + 1) := by exact Eq.trans (if_neg k80) rfl
                    have hg : fX2_dotsOfPart v x1 x2 x3 x4 = (tX2_dotsOfPart_41 v x1 x2 x3 x4 y5_41 (lpF n41 (d41 + 1) (bX2_dotsOfPart_41 v x1 x2 x3 x4 y5_41) (y6_75, y7_75 + 1))) := hg.trans (congrArg (fun z => (tX2_dotsOfPart_41 v x1 x2 x3 x4 y5_41 (lpF n41 (d41 + 1) (bX2_dotsOfPart_41 v x1 x2 x3 x4 y5_41) z))) e_4)
                    exact ih (d41 + 1) y6_75 (y7_75 + 1) (by omega) hg _ (lv_sub hl [3, 4, 5, 6, 7, 8, 1, 0] rfl)
                  · refine lv_iload hC.1 hC.2.1 dX2_dotsOfPart_83 (lv_at hl 6 rfl) ?_
                    refine lv_iconst (v := 1) hC.1 hC.2.1 dX2_dotsOfPart_85 (by decide) ?_
                    refine lv_iload hC.1 hC.2.1 dX2_dotsOfPart_86 (lv_at hl 8 rfl) ?_
                    refine lv_ishl hC.1 hC.2.1 dX2_dotsOfPart_88 ?_
                    refine lv_ior hC.1 hC.2.1 dX2_dotsOfPart_89 ?_
                    refine lv_istore (lv' := [(6, .int (y6_75 ||| (1 <<< ((nI d41) &&& 31)))), (9, .int z0_75), (1, .int x1), (2, .int x2), (3, .int x3), (4, .int x4), (5, .int y5_41), (7, .int y7_75), (8, .int (nI d41))]) hC.1 hC.2.1 dX2_dotsOfPart_90 hl (by decide) rfl (fun ls hl => ?_)
                    refine lv_iinc (v := y7_75 + 1) (lv' := [(7, .int (y7_75 + 1)), (6, .int (y6_75 ||| (1 <<< ((nI d41) &&& 31)))), (9, .int z0_75), (1, .int x1), (2, .int x2), (3, .int x3), (4, .int x4), (5, .int y5_41), (8, .int (nI d41))]) hC.1 hC.2.1 dX2_dotsOfPart_92 hl (k := 7) rfl rfl (by decide) rfl (fun ls hl => ?_)
                    refine lv_iinc (v := nI (d41 + 1)) (lv' := [(8, .int (nI (d41 + 1))), (7, .int (y7_75 + 1)), (6, .int (y6_75 ||| (1 <<< ((nI d41) &&& 31)))), (9, .int z0_75), (1, .int x1), (2, .int x2), (3, .int x3), (4, .int x4), (5, .int y5_41)]) hC.1 hC.2.1 dX2_dotsOfPart_95 hl (k := 8) rfl (nI_1 _) (by decide) rfl (fun ls hl => ?_)
                    refine lv_goto (tgt := 41) hC.1 hC.2.1 dX2_dotsOfPart_98 (by decide) ?_
                    have e_5 : tX2_dotsOfPart_J75 v x1 x2 x3 x4 y5_41 d41 y6_75 y7_75 z0_75 = (y6_75 ||| (1 <<< ((nI d41) &&& 31)), y7_75 + 1) := by exact Eq.trans (if_pos k80) rfl
                    have hg : fX2_dotsOfPart v x1 x2 x3 x4 = (tX2_dotsOfPart_41 v x1 x2 x3 x4 y5_41 (lpF n41 (d41 + 1) (bX2_dotsOfPart_41 v x1 x2 x3 x4 y5_41) (y6_75 ||| (1 <<< ((nI d41) &&& 31)), y7_75 + 1))) := hg.trans (congrArg (fun z => (tX2_dotsOfPart_41 v x1 x2 x3 x4 y5_41 (lpF n41 (d41 + 1) (bX2_dotsOfPart_41 v x1 x2 x3 x4 y5_41) z))) e_5)
                    exact ih (d41 + 1) (y6_75 ||| (1 <<< ((nI d41) &&& 31))) (y7_75 + 1) (by omega) hg _ (lv_sub hl [4, 5, 6, 7, 8, 2, 1, 0] rfl)
                refine lv_if_eq (tgt := 70) hC.1 hC.2.1 dX2_dotsOfPart_60 (by decide) (fun k60 => ?_) (fun k60 => ?_)
                · refine lv_iload hC.1 hC.2.1 dX2_dotsOfPart_70 (lv_at hl 6 rfl) ?_
                  refine lv_iload hC.1 hC.2.1 dX2_dotsOfPart_72 (lv_at hl 3 rfl) ?_
                  refine lv_idiv hC.1 hC.2.1 dX2_dotsOfPart_74 (fun h => by rw [h] at k8; exact absurd k8 (by decide)) ?_
                  have e_6 : bX2_dotsOfPart_41 v x1 x2 x3 x4 y5_41 d41 (y6_41, y7_41) = tX2_dotsOfPart_J75 v x1 x2 x3 x4 y5_41 d41 y6_41 y7_41 (y7_41 / x4) := by exact Eq.trans (if_pos k55) (Eq.trans (if_pos k60) rfl)
                  have hg : fX2_dotsOfPart v x1 x2 x3 x4 = (tX2_dotsOfPart_41 v x1 x2 x3 x4 y5_41 (lpF n41 (d41 + 1) (bX2_dotsOfPart_41 v x1 x2 x3 x4 y5_41) (tX2_dotsOfPart_J75 v x1 x2 x3 x4 y5_41 d41 y6_41 y7_41 (y7_41 / x4)))) := hg.trans (congrArg (fun z => (tX2_dotsOfPart_41 v x1 x2 x3 x4 y5_41 (lpF n41 (d41 + 1) (bX2_dotsOfPart_41 v x1 x2 x3 x4 y5_41) z))) e_6)
                  exact J75 y6_41 y7_41 (y7_41 / x4) hg _ (lv_sub hl [0, 1, 2, 3, 4, 5, 6, 7] rfl)
                · refine lv_iload hC.1 hC.2.1 dX2_dotsOfPart_63 (lv_at hl 6 rfl) ?_
                  refine lv_iload_n hC.1 hC.2.1 dX2_dotsOfPart_65 rfl (lv_at hl 2 rfl) ?_
                  refine lv_irem hC.1 hC.2.1 dX2_dotsOfPart_66 (fun h => by rw [h] at k2; exact k2 (by decide)) ?_
                  refine lv_goto (tgt := 75) hC.1 hC.2.1 dX2_dotsOfPart_67 (by decide) ?_
                  have e_7 : bX2_dotsOfPart_41 v x1 x2 x3 x4 y5_41 d41 (y6_41, y7_41) = tX2_dotsOfPart_J75 v x1 x2 x3 x4 y5_41 d41 y6_41 y7_41 (y7_41 - y7_41 / x3 * x3) := by exact Eq.trans (if_pos k55) (Eq.trans (if_neg k60) rfl)
                  have hg : fX2_dotsOfPart v x1 x2 x3 x4 = (tX2_dotsOfPart_41 v x1 x2 x3 x4 y5_41 (lpF n41 (d41 + 1) (bX2_dotsOfPart_41 v x1 x2 x3 x4 y5_41) (tX2_dotsOfPart_J75 v x1 x2 x3 x4 y5_41 d41 y6_41 y7_41 (y7_41 - y7_41 / x3 * x3)))) := hg.trans (congrArg (fun z => (tX2_dotsOfPart_41 v x1 x2 x3 x4 y5_41 (lpF n41 (d41 + 1) (bX2_dotsOfPart_41 v x1 x2 x3 x4 y5_41) z))) e_7)
                  exact J75 y6_41 y7_41 (y7_41 - y7_41 / x3 * x3) hg _ (lv_sub hl [0, 1, 2, 3, 4, 5, 6, 7] rfl)
        have e_8 : tX2_dotsOfPart_J30 v x1 x2 x3 x4 z0_30 = tX2_dotsOfPart_41 v x1 x2 x3 x4 z0_30 (lpF 24 0 (bX2_dotsOfPart_41 v x1 x2 x3 x4 z0_30) (0, 0)) := by exact rfl
        have hg : fX2_dotsOfPart v x1 x2 x3 x4 = (tX2_dotsOfPart_41 v x1 x2 x3 x4 z0_30 (lpF 24 0 (bX2_dotsOfPart_41 v x1 x2 x3 x4 z0_30) (0, 0))) := hg.trans (congrArg (fun z => z) e_8)
        exact L41 z0_30 24 0 0 0 (by omega) hg _ (lv_sub hl [4, 5, 6, 7, 3, 2, 1, 0] rfl)
      refine lv_icmp_ne (tgt := 29) hC.1 hC.2.1 dX2_dotsOfPart_22 (by decide) (fun k22 => ?_) (fun k22 => ?_)
      · refine lv_iconst (v := 0) hC.1 hC.2.1 dX2_dotsOfPart_29 (by decide) ?_
        have e_9 : fX2_dotsOfPart v x1 x2 x3 x4 = tX2_dotsOfPart_J30 v x1 x2 x3 x4 0 := by exact Eq.trans (if_neg k2) (Eq.trans (if_pos k8) (Eq.trans (if_neg k22) rfl))
        have hg : fX2_dotsOfPart v x1 x2 x3 x4 = tX2_dotsOfPart_J30 v x1 x2 x3 x4 0 := hg.trans (congrArg (fun z => z) e_9)
        exact J30 0 hg _ (lv_sub hl [1, 2, 3, 4] rfl)
      · refine lv_iconst (v := 1) hC.1 hC.2.1 dX2_dotsOfPart_25 (by decide) ?_
        refine lv_goto (tgt := 30) hC.1 hC.2.1 dX2_dotsOfPart_26 (by decide) ?_
        have e_10 : fX2_dotsOfPart v x1 x2 x3 x4 = tX2_dotsOfPart_J30 v x1 x2 x3 x4 1 := by exact Eq.trans (if_neg k2) (Eq.trans (if_pos k8) (Eq.trans (if_pos k22) rfl))
        have hg : fX2_dotsOfPart v x1 x2 x3 x4 = tX2_dotsOfPart_J30 v x1 x2 x3 x4 1 := hg.trans (congrArg (fun z => z) e_10)
        exact J30 1 hg _ (lv_sub hl [1, 2, 3, 4] rfl)
    · refine lv_iconst (v := 0) hC.1 hC.2.1 dX2_dotsOfPart_11 (by decide) ?_
      have e_11 : fX2_dotsOfPart v x1 x2 x3 x4 = 0 := by exact Eq.trans (if_neg k2) (Eq.trans (if_neg k8) rfl)
      have hg : fX2_dotsOfPart v x1 x2 x3 x4 = 0 := hg.trans (congrArg (fun z => z) e_11)
      exact eP_i hC (congrArg Value.int hg) dX2_dotsOfPart_12

theorem dX2_waitOfPart_0 : decode cX2_waitOfPart 0 = .ok (.aload_n 0, 1) := by decide +kernel
theorem dX2_waitOfPart_1 : decode cX2_waitOfPart 1 = .ok (.getfield 21, 3) := by decide +kernel
theorem dX2_waitOfPart_4 : decode cX2_waitOfPart 4 = .ok (.iconst 2, 1) := by decide +kernel
theorem dX2_waitOfPart_5 : decode cX2_waitOfPart 5 = .ok (.invokestatic 59, 3) := by decide +kernel
theorem dX2_waitOfPart_8 : decode cX2_waitOfPart 8 = .ok (.istore_n 2, 1) := by decide +kernel
theorem dX2_waitOfPart_9 : decode cX2_waitOfPart 9 = .ok (.iconst 0, 1) := by decide +kernel
theorem dX2_waitOfPart_10 : decode cX2_waitOfPart 10 = .ok (.istore_n 3, 1) := by decide +kernel
theorem dX2_waitOfPart_11 : decode cX2_waitOfPart 11 = .ok (.iconst 0, 1) := by decide +kernel
theorem dX2_waitOfPart_12 : decode cX2_waitOfPart 12 = .ok (.istore 4, 2) := by decide +kernel
theorem dX2_waitOfPart_14 : decode cX2_waitOfPart 14 = .ok (.iload 4, 2) := by decide +kernel
theorem dX2_waitOfPart_16 : decode cX2_waitOfPart 16 = .ok (.bipush 24, 2) := by decide +kernel
theorem dX2_waitOfPart_18 : decode cX2_waitOfPart 18 = .ok (.if_icmp .ge 48, 3) := by decide +kernel
theorem dX2_waitOfPart_21 : decode cX2_waitOfPart 21 = .ok (.iload_n 1, 1) := by decide +kernel
theorem dX2_waitOfPart_22 : decode cX2_waitOfPart 22 = .ok (.iload 4, 2) := by decide +kernel
theorem dX2_waitOfPart_24 : decode cX2_waitOfPart 24 = .ok (.invokestatic 124, 3) := by decide +kernel
theorem dX2_waitOfPart_27 : decode cX2_waitOfPart 27 = .ok (.iconst 1, 1) := by decide +kernel
theorem dX2_waitOfPart_28 : decode cX2_waitOfPart 28 = .ok (.if_icmp .ne 32, 3) := by decide +kernel
theorem dX2_waitOfPart_31 : decode cX2_waitOfPart 31 = .ok (.iload_n 3, 1) := by decide +kernel
theorem dX2_waitOfPart_32 : decode cX2_waitOfPart 32 = .ok (.aload_n 0, 1) := by decide +kernel
theorem dX2_waitOfPart_33 : decode cX2_waitOfPart 33 = .ok (.aload_n 0, 1) := by decide +kernel
theorem dX2_waitOfPart_34 : decode cX2_waitOfPart 34 = .ok (.getfield 9, 3) := by decide +kernel
theorem dX2_waitOfPart_37 : decode cX2_waitOfPart 37 = .ok (.iload 4, 2) := by decide +kernel
theorem dX2_waitOfPart_39 : decode cX2_waitOfPart 39 = .ok (.invokestatic 59, 3) := by decide +kernel
theorem dX2_waitOfPart_42 : decode cX2_waitOfPart 42 = .ok (.iload_n 2, 1) := by decide +kernel
theorem dX2_waitOfPart_43 : decode cX2_waitOfPart 43 = .ok (.aload_n 0, 1) := by decide +kernel
theorem dX2_waitOfPart_44 : decode cX2_waitOfPart 44 = .ok (.getfield 15, 3) := by decide +kernel
theorem dX2_waitOfPart_47 : decode cX2_waitOfPart 47 = .ok (.iload 4, 2) := by decide +kernel
theorem dX2_waitOfPart_49 : decode cX2_waitOfPart 49 = .ok (.invokestatic 59, 3) := by decide +kernel
theorem dX2_waitOfPart_52 : decode cX2_waitOfPart 52 = .ok (.isub, 1) := by decide +kernel
theorem dX2_waitOfPart_53 : decode cX2_waitOfPart 53 = .ok (.invokevirtual 127, 3) := by decide +kernel
theorem dX2_waitOfPart_56 : decode cX2_waitOfPart 56 = .ok (.invokestatic 114, 3) := by decide +kernel
theorem dX2_waitOfPart_59 : decode cX2_waitOfPart 59 = .ok (.istore_n 3, 1) := by decide +kernel
theorem dX2_waitOfPart_60 : decode cX2_waitOfPart 60 = .ok (.iinc 4 1, 3) := by decide +kernel
theorem dX2_waitOfPart_63 : decode cX2_waitOfPart 63 = .ok (.goto (-49), 3) := by decide +kernel
theorem dX2_waitOfPart_66 : decode cX2_waitOfPart 66 = .ok (.iload_n 3, 1) := by decide +kernel
theorem dX2_waitOfPart_67 : decode cX2_waitOfPart 67 = .ok (.ireturn, 1) := by decide +kernel
set_option maxHeartbeats 1000000 in
set_option maxRecDepth 100000 in
theorem c_X2_waitOfPart (l : Launch) (G : GT) (q : Nat → Nat) (v : SV) (x1 : Int32) : Met l yX2_waitOfPart (Cond.code yX2_waitOfPart cX2_waitOfPart 5 (some .int) :: bigW) ({ frames := 2, cells := 0, slots := 0, locals := 47 }) (BP G [.ref (q 0), .int x1] (fun U H => PW G (stW G q v) H)) (QP (.int (fX2_waitOfPart v x1))) 0 0 (fun _ => False) := by
  refine met_of (by decide) (Nat.le_of_ble_eq_true rfl) ?_
  intro p e s m below meth c ls hC hKN hB0 hl
  have hP := hB0
  have hl : lv_has ls 5 [(0, .ref (q 0)), (1, .int x1)] := hl
  have hg : fX2_waitOfPart v x1 = fX2_waitOfPart v x1 := rfl
  refine lv_aload_n hC.1 hC.2.1 dX2_waitOfPart_0 rfl (lv_at hl 0 rfl) ?_
  refine gf (v := .ref (q 3)) hC fwX2 hKN hP 0 rfl rfl 2 (by decide) rfl wd_118 rfl dX2_waitOfPart_1 ?_
  refine lv_iconst (v := 2) hC.1 hC.2.1 dX2_waitOfPart_4 (by decide) ?_
  refine runP (rSN (B := fun U H => RD (q 3) 7 (v 2) U H) (As := [.ref (q 3), .int 2]) (rest := []) hC mwX5_at (c_X5_at l G (q 3) 7 (v 2) 2) wd_249 (nm_5 hKN) ⟨rfl, rfl⟩ ⟨Nat.le_of_ble_eq_true rfl, Nat.le_of_ble_eq_true rfl⟩ (stb_RD _ _ _) hKN (RD.ofP hKN hP 3 rfl) rfl hl.1 rfl (Nat.le_of_ble_eq_true rfl) dX2_waitOfPart_5 ⟨Nat.zero_le _, Nat.zero_le _⟩) ?_
  refine lv_istore_n (lv' := [(2, .int (fX5_at 7 (v 2) 2)), (0, .ref (q 0)), (1, .int x1)]) hC.1 hC.2.1 dX2_waitOfPart_8 rfl hl (by decide) rfl (fun ls hl => ?_)
  refine lv_iconst (v := 0) hC.1 hC.2.1 dX2_waitOfPart_9 (by decide) ?_
  refine lv_istore_n (lv' := [(3, .int 0), (2, .int (fX5_at 7 (v 2) 2)), (0, .ref (q 0)), (1, .int x1)]) hC.1 hC.2.1 dX2_waitOfPart_10 rfl hl (by decide) rfl (fun ls hl => ?_)
  refine lv_iconst (v := 0) hC.1 hC.2.1 dX2_waitOfPart_11 (by decide) ?_
  refine lv_istore (lv' := [(4, .int 0), (3, .int 0), (2, .int (fX5_at 7 (v 2) 2)), (0, .ref (q 0)), (1, .int x1)]) hC.1 hC.2.1 dX2_waitOfPart_12 hl (by decide) rfl (fun ls hl => ?_)
  have A14 : ∀ (y2_14 : Int32), ∀ (y3_14 : Int32), fX2_waitOfPart v x1 = (tX2_waitOfPart_14 v x1 y2_14 y3_14) → ∀ (ls : Array Slot), lv_has ls 5 [(3, .int y3_14)] → W p l e ({ frames := 2, cells := 0, slots := 0, locals := 47 }) s m ([.ref (q 0), .int x1] : List Value).toArray below meth c s.heap [] 0 0 (MQ below (QP (.int (fX2_waitOfPart v x1))) ([.ref (q 0), .int x1] : List Value).toArray s 0 0 (fun _ => False)) (F0 m 66 ls []) := by
    intro y2_14 y3_14 hg ls hl
    refine lv_iload_n hC.1 hC.2.1 dX2_waitOfPart_66 rfl (lv_at hl 0 rfl) ?_
    have e_1 : tX2_waitOfPart_14 v x1 y2_14 y3_14 = y3_14 := by exact rfl
    have hg : fX2_waitOfPart v x1 = y3_14 := hg.trans (congrArg (fun z => z) e_1)
    exact eP_i hC (congrArg Value.int hg) dX2_waitOfPart_67
  have L14 : ∀ (y2_14 : Int32), ∀ (n14 d14 : Nat), ∀ (y3_14 : Int32), d14 + n14 = 24 → fX2_waitOfPart v x1 = (tX2_waitOfPart_14 v x1 y2_14 (lpF n14 d14 (bX2_waitOfPart_14 v x1 y2_14) y3_14)) → ∀ (ls : Array Slot), lv_has ls 5 [(0, .ref (q 0)), (1, .int x1), (2, .int y2_14), (3, .int y3_14), (4, .int (nI d14))] → W p l e ({ frames := 2, cells := 0, slots := 0, locals := 47 }) s m ([.ref (q 0), .int x1] : List Value).toArray below meth c s.heap [] 0 0 (MQ below (QP (.int (fX2_waitOfPart v x1))) ([.ref (q 0), .int x1] : List Value).toArray s 0 0 (fun _ => False)) (F0 m 14 ls []) := by
    intro y2_14
    intro n14
    induction n14 with
    | zero =>
      intro d14 y3_14 hd hg ls hl
      refine lv_iload hC.1 hC.2.1 dX2_waitOfPart_14 (lv_at hl 4 rfl) ?_
      refine lv_bipush (v := 24) hC.1 hC.2.1 dX2_waitOfPart_16 (by decide +kernel) ?_
      refine lv_icmp_ge (tgt := 66) hC.1 hC.2.1 dX2_waitOfPart_18 (by decide) (fun k18 => ?_) (fun k18 => ?_)
      · exact A14 y2_14 y3_14 hg _ (lv_sub hl [3] rfl)
      · exact absurd (nI_le (a := 24) (b := d14) (by omega) (by omega)) k18
    | succ n14 ih =>
      intro d14 y3_14 hd hg ls hl
      have hg : fX2_waitOfPart v x1 = (tX2_waitOfPart_14 v x1 y2_14 (lpF n14 (d14 + 1) (bX2_waitOfPart_14 v x1 y2_14) (bX2_waitOfPart_14 v x1 y2_14 d14 y3_14))) := hg
      refine lv_iload hC.1 hC.2.1 dX2_waitOfPart_14 (lv_at hl 4 rfl) ?_
      refine lv_bipush (v := 24) hC.1 hC.2.1 dX2_waitOfPart_16 (by decide +kernel) ?_
      refine lv_icmp_ge (tgt := 66) hC.1 hC.2.1 dX2_waitOfPart_18 (by decide) (fun k18 => ?_) (fun k18 => ?_)
      · exact absurd k18 (nI_ge (a := d14) (b := 24) (by omega) (by omega))
      · refine lv_iload_n hC.1 hC.2.1 dX2_waitOfPart_21 rfl (lv_at hl 1 rfl) ?_
        refine lv_iload hC.1 hC.2.1 dX2_waitOfPart_22 (lv_at hl 4 rfl) ?_
        refine runP (rSN (B := fun U H => True) (As := [.int x1, .int (nI d14)]) (rest := []) hC mwX5_bitOf (c_X5_bitOf l G x1 (nI d14)) wd_433 (nm_6 hKN) ⟨rfl, rfl⟩ ⟨Nat.le_of_ble_eq_true rfl, Nat.le_of_ble_eq_true rfl⟩ (fun _ _ _ _ h => h) hKN trivial rfl hl.1 rfl (Nat.le_of_ble_eq_true rfl) dX2_waitOfPart_24 ⟨Nat.zero_le _, Nat.zero_le _⟩) ?_
        refine lv_iconst (v := 1) hC.1 hC.2.1 dX2_waitOfPart_27 (by decide) ?_
        refine lv_icmp_ne (tgt := 60) hC.1 hC.2.1 dX2_waitOfPart_28 (by decide) (fun k28 => ?_) (fun k28 => ?_)
        · refine lv_iinc (v := nI (d14 + 1)) (lv' := [(4, .int (nI (d14 + 1))), (0, .ref (q 0)), (1, .int x1), (2, .int y2_14), (3, .int y3_14)]) hC.1 hC.2.1 dX2_waitOfPart_60 hl (k := 4) rfl (nI_1 _) (by decide) rfl (fun ls hl => ?_)
          refine lv_goto (tgt := 14) hC.1 hC.2.1 dX2_waitOfPart_63 (by decide) ?_
          have e_2 : bX2_waitOfPart_14 v x1 y2_14 d14 y3_14 = y3_14 := by exact Eq.trans (if_neg k28) rfl
          have hg : fX2_waitOfPart v x1 = (tX2_waitOfPart_14 v x1 y2_14 (lpF n14 (d14 + 1) (bX2_waitOfPart_14 v x1 y2_14) y3_14)) := hg.trans (congrArg (fun z => (tX2_waitOfPart_14 v x1 y2_14 (lpF n14 (d14 + 1) (bX2_waitOfPart_14 v x1 y2_14) z))) e_2)
          exact ih (d14 + 1) y3_14 (by omega) hg _ (lv_sub hl [1, 2, 3, 4, 0] rfl)
        · refine lv_iload_n hC.1 hC.2.1 dX2_waitOfPart_31 rfl (lv_at hl 3 rfl) ?_
          refine lv_aload_n hC.1 hC.2.1 dX2_waitOfPart_32 rfl (lv_at hl 0 rfl) ?_
          refine lv_aload_n hC.1 hC.2.1 dX2_waitOfPart_33 rfl (lv_at hl 0 rfl) ?_
          refine gf (v := .ref (q 1)) hC fwX2 hKN hP 0 rfl rfl 0 (by decide) rfl wd_116 rfl dX2_waitOfPart_34 ?_
          refine lv_iload hC.1 hC.2.1 dX2_waitOfPart_37 (lv_at hl 4 rfl) ?_
          refine runP (rSN (B := fun U H => RD (q 1) 24 (v 0) U H) (As := [.ref (q 1), .int (nI d14)]) (rest := [.ref (q 0), .int y3_14]) hC mwX5_at (c_X5_at l G (q 1) 24 (v 0) (nI d14)) wd_249 (nm_5 hKN) ⟨rfl, rfl⟩ ⟨Nat.le_of_ble_eq_true rfl, Nat.le_of_ble_eq_true rfl⟩ (stb_RD _ _ _) hKN (RD.ofP hKN hP 1 rfl) rfl hl.1 rfl (Nat.le_of_ble_eq_true rfl) dX2_waitOfPart_39 ⟨Nat.zero_le _, Nat.zero_le _⟩) ?_
          refine lv_iload_n hC.1 hC.2.1 dX2_waitOfPart_42 rfl (lv_at hl 2 rfl) ?_
          refine lv_aload_n hC.1 hC.2.1 dX2_waitOfPart_43 rfl (lv_at hl 0 rfl) ?_
          refine gf (v := .ref (q 2)) hC fwX2 hKN hP 0 rfl rfl 1 (by decide) rfl wd_117 rfl dX2_waitOfPart_44 ?_
          refine lv_iload hC.1 hC.2.1 dX2_waitOfPart_47 (lv_at hl 4 rfl) ?_
          refine runP (rSN (B := fun U H => RD (q 2) 24 (v 1) U H) (As := [.ref (q 2), .int (nI d14)]) (rest := [.int y2_14, .int (fX5_at 24 (v 0) (nI d14)), .ref (q 0), .int y3_14]) hC mwX5_at (c_X5_at l G (q 2) 24 (v 1) (nI d14)) wd_249 (nm_5 hKN) ⟨rfl, rfl⟩ ⟨Nat.le_of_ble_eq_true rfl, Nat.le_of_ble_eq_true rfl⟩ (stb_RD _ _ _) hKN (RD.ofP hKN hP 2 rfl) rfl hl.1 rfl (Nat.le_of_ble_eq_true rfl) dX2_waitOfPart_49 ⟨Nat.zero_le _, Nat.zero_le _⟩) ?_
          refine lv_isub hC.1 hC.2.1 dX2_waitOfPart_52 ?_
          refine runP (rV (B := fun U H => PW G (stW G q v) H) (As := [.int (fX5_at 24 (v 0) (nI d14)), .int (y2_14 - (fX5_at 24 (v 1) (nI d14)))]) (rest := [.int y3_14]) hC mwX2_timeDownTo (c_X2_timeDownTo l G q v (fX5_at 24 (v 0) (nI d14)) (y2_14 - (fX5_at 24 (v 1) (nI d14)))) iwX2_timeDownTo wd_449 ⟨rfl, rfl⟩ ⟨Nat.le_of_ble_eq_true rfl, Nat.le_of_ble_eq_true rfl⟩ (stb_h (fun H => PW G (stW G q v) H)) hKN hP (va_recv hKN.k hP (ci := 2) (q0 := 0) rfl rfl) rfl hl.1 rfl (Nat.le_of_ble_eq_true rfl) dX2_waitOfPart_53 ⟨Nat.zero_le _, Nat.zero_le _⟩) ?_
          refine va_mmax hC.1 hC.2.1 (hC.2.2.2.1.trans hl.1.symm) hC.2.2.2.2.1 (hC.2.2.2.2.2.2.1 _ wd_412) (hC.2.2.2.2.2.2.1 _ wd_413) (hC.2.2.2.2.2.2.1 _ wd_3) (hC.2.2.2.2.2.2.1 _ wd_414) (Nat.le_of_ble_eq_true rfl) (Nat.le_of_ble_eq_true rfl) (Nat.zero_le _) (Nat.zero_le _) dX2_waitOfPart_56 ?_
          refine lv_istore_n (lv' := [(3, .int (if y3_14 < (fX2_timeDownTo v (fX5_at 24 (v 0) (nI d14)) (y2_14 - (fX5_at 24 (v 1) (nI d14)))) then (fX2_timeDownTo v (fX5_at 24 (v 0) (nI d14)) (y2_14 - (fX5_at 24 (v 1) (nI d14)))) else y3_14)), (0, .ref (q 0)), (1, .int x1), (2, .int y2_14), (4, .int (nI d14))]) hC.1 hC.2.1 dX2_waitOfPart_59 rfl hl (by decide) rfl (fun ls hl => ?_)
          refine lv_iinc (v := nI (d14 + 1)) (lv' := [(4, .int (nI (d14 + 1))), (3, .int (if y3_14 < (fX2_timeDownTo v (fX5_at 24 (v 0) (nI d14)) (y2_14 - (fX5_at 24 (v 1) (nI d14)))) then (fX2_timeDownTo v (fX5_at 24 (v 0) (nI d14)) (y2_14 - (fX5_at 24 (v 1) (nI d14)))) else y3_14)), (0, .ref (q 0)), (1, .int x1), (2, .int y2_14)]) hC.1 hC.2.1 dX2_waitOfPart_60 hl (k := 4) rfl (nI_1 _) (by decide) rfl (fun ls hl => ?_)
          refine lv_goto (tgt := 14) hC.1 hC.2.1 dX2_waitOfPart_63 (by decide) ?_
          have e_3 : bX2_waitOfPart_14 v x1 y2_14 d14 y3_14 = (if y3_14 < (fX2_timeDownTo v (fX5_at 24 (v 0) (nI d14)) (y2_14 - (fX5_at 24 (v 1) (nI d14)))) then (fX2_timeDownTo v (fX5_at 24 (v 0) (nI d14)) (y2_14 - (fX5_at 24 (v 1) (nI d14)))) else y3_14) := by exact Eq.trans (if_pos k28) rfl
          have hg : fX2_waitOfPart v x1 = (tX2_waitOfPart_14 v x1 y2_14 (lpF n14 (d14 + 1) (bX2_waitOfPart_14 v x1 y2_14) (if y3_14 < (fX2_timeDownTo v (fX5_at 24 (v 0) (nI d14)) (y2_14 - (fX5_at 24 (v 1) (nI d14)))) then (fX2_timeDownTo v (fX5_at 24 (v 0) (nI d14)) (y2_14 - (fX5_at 24 (v 1) (nI d14)))) else y3_14))) := hg.trans (congrArg (fun z => (tX2_waitOfPart_14 v x1 y2_14 (lpF n14 (d14 + 1) (bX2_waitOfPart_14 v x1 y2_14) z))) e_3)
          exact ih (d14 + 1) (if y3_14 < (fX2_timeDownTo v (fX5_at 24 (v 0) (nI d14)) (y2_14 - (fX5_at 24 (v 1) (nI d14)))) then (fX2_timeDownTo v (fX5_at 24 (v 0) (nI d14)) (y2_14 - (fX5_at 24 (v 1) (nI d14)))) else y3_14) (by omega) hg _ (lv_sub hl [2, 3, 4, 1, 0] rfl)
  have e_4 : fX2_waitOfPart v x1 = tX2_waitOfPart_14 v x1 (fX5_at 7 (v 2) 2) (lpF 24 0 (bX2_waitOfPart_14 v x1 (fX5_at 7 (v 2) 2)) 0) := by exact rfl
  have hg : fX2_waitOfPart v x1 = (tX2_waitOfPart_14 v x1 (fX5_at 7 (v 2) 2) (lpF 24 0 (bX2_waitOfPart_14 v x1 (fX5_at 7 (v 2) 2)) 0)) := hg.trans (congrArg (fun z => z) e_4)
  exact L14 (fX5_at 7 (v 2) 2) 24 0 0 (by omega) hg _ (lv_sub hl [3, 4, 2, 1, 0] rfl)

theorem dX2_longestPulse_0 : decode cX2_longestPulse 0 = .ok (.iconst 0, 1) := by decide +kernel
theorem dX2_longestPulse_1 : decode cX2_longestPulse 1 = .ok (.istore_n 2, 1) := by decide +kernel
theorem dX2_longestPulse_2 : decode cX2_longestPulse 2 = .ok (.iconst 0, 1) := by decide +kernel
theorem dX2_longestPulse_3 : decode cX2_longestPulse 3 = .ok (.istore_n 3, 1) := by decide +kernel
theorem dX2_longestPulse_4 : decode cX2_longestPulse 4 = .ok (.iload_n 3, 1) := by decide +kernel
theorem dX2_longestPulse_5 : decode cX2_longestPulse 5 = .ok (.aload_n 0, 1) := by decide +kernel
theorem dX2_longestPulse_6 : decode cX2_longestPulse 6 = .ok (.getfield 15, 3) := by decide +kernel
theorem dX2_longestPulse_9 : decode cX2_longestPulse 9 = .ok (.arraylength, 1) := by decide +kernel
theorem dX2_longestPulse_10 : decode cX2_longestPulse 10 = .ok (.if_icmp .ge 29, 3) := by decide +kernel
theorem dX2_longestPulse_13 : decode cX2_longestPulse 13 = .ok (.iload_n 1, 1) := by decide +kernel
theorem dX2_longestPulse_14 : decode cX2_longestPulse 14 = .ok (.iload_n 3, 1) := by decide +kernel
theorem dX2_longestPulse_15 : decode cX2_longestPulse 15 = .ok (.invokestatic 124, 3) := by decide +kernel
theorem dX2_longestPulse_18 : decode cX2_longestPulse 18 = .ok (.iconst 1, 1) := by decide +kernel
theorem dX2_longestPulse_19 : decode cX2_longestPulse 19 = .ok (.if_icmp .ne 14, 3) := by decide +kernel
theorem dX2_longestPulse_22 : decode cX2_longestPulse 22 = .ok (.iload_n 2, 1) := by decide +kernel
theorem dX2_longestPulse_23 : decode cX2_longestPulse 23 = .ok (.aload_n 0, 1) := by decide +kernel
theorem dX2_longestPulse_24 : decode cX2_longestPulse 24 = .ok (.getfield 15, 3) := by decide +kernel
theorem dX2_longestPulse_27 : decode cX2_longestPulse 27 = .ok (.iload_n 3, 1) := by decide +kernel
theorem dX2_longestPulse_28 : decode cX2_longestPulse 28 = .ok (.iaload, 1) := by decide +kernel
theorem dX2_longestPulse_29 : decode cX2_longestPulse 29 = .ok (.invokestatic 114, 3) := by decide +kernel
theorem dX2_longestPulse_32 : decode cX2_longestPulse 32 = .ok (.istore_n 2, 1) := by decide +kernel
theorem dX2_longestPulse_33 : decode cX2_longestPulse 33 = .ok (.iinc 3 1, 3) := by decide +kernel
theorem dX2_longestPulse_36 : decode cX2_longestPulse 36 = .ok (.goto (-32), 3) := by decide +kernel
theorem dX2_longestPulse_39 : decode cX2_longestPulse 39 = .ok (.iload_n 2, 1) := by decide +kernel
theorem dX2_longestPulse_40 : decode cX2_longestPulse 40 = .ok (.ireturn, 1) := by decide +kernel
set_option maxHeartbeats 1000000 in
set_option maxRecDepth 100000 in
theorem c_X2_longestPulse (l : Launch) (G : GT) (q : Nat → Nat) (v : SV) (x1 : Int32) : Met l yX2_longestPulse (Cond.code yX2_longestPulse cX2_longestPulse 4 (some .int) :: bigW) ({ frames := 1, cells := 0, slots := 0, locals := 24 }) (BP G [.ref (q 0), .int x1] (fun U H => PW G (stW G q v) H)) (QP (.int (fX2_longestPulse v x1))) 0 0 (fun _ => False) := by
  refine met_of (by decide) (Nat.le_of_ble_eq_true rfl) ?_
  intro p e s m below meth c ls hC hKN hB0 hl
  have hP := hB0
  have hl : lv_has ls 4 [(0, .ref (q 0)), (1, .int x1)] := hl
  have hg : fX2_longestPulse v x1 = fX2_longestPulse v x1 := rfl
  refine lv_iconst (v := 0) hC.1 hC.2.1 dX2_longestPulse_0 (by decide) ?_
  refine lv_istore_n (lv' := [(2, .int 0), (0, .ref (q 0)), (1, .int x1)]) hC.1 hC.2.1 dX2_longestPulse_1 rfl hl (by decide) rfl (fun ls hl => ?_)
  refine lv_iconst (v := 0) hC.1 hC.2.1 dX2_longestPulse_2 (by decide) ?_
  refine lv_istore_n (lv' := [(3, .int 0), (2, .int 0), (0, .ref (q 0)), (1, .int x1)]) hC.1 hC.2.1 dX2_longestPulse_3 rfl hl (by decide) rfl (fun ls hl => ?_)
  have A4 : ∀ (y2_4 : Int32), fX2_longestPulse v x1 = (tX2_longestPulse_4 v x1 y2_4) → ∀ (ls : Array Slot), lv_has ls 4 [(2, .int y2_4)] → W p l e ({ frames := 1, cells := 0, slots := 0, locals := 24 }) s m ([.ref (q 0), .int x1] : List Value).toArray below meth c s.heap [] 0 0 (MQ below (QP (.int (fX2_longestPulse v x1))) ([.ref (q 0), .int x1] : List Value).toArray s 0 0 (fun _ => False)) (F0 m 39 ls []) := by
    intro  y2_4 hg ls hl
    refine lv_iload_n hC.1 hC.2.1 dX2_longestPulse_39 rfl (lv_at hl 0 rfl) ?_
    have e_1 : tX2_longestPulse_4 v x1 y2_4 = y2_4 := by exact rfl
    have hg : fX2_longestPulse v x1 = y2_4 := hg.trans (congrArg (fun z => z) e_1)
    exact eP_i hC (congrArg Value.int hg) dX2_longestPulse_40
  have L4 : ∀ (n4 d4 : Nat), ∀ (y2_4 : Int32), d4 + n4 = 24 → fX2_longestPulse v x1 = (tX2_longestPulse_4 v x1 (lpF n4 d4 (bX2_longestPulse_4 v x1) y2_4)) → ∀ (ls : Array Slot), lv_has ls 4 [(0, .ref (q 0)), (1, .int x1), (2, .int y2_4), (3, .int (nI d4))] → W p l e ({ frames := 1, cells := 0, slots := 0, locals := 24 }) s m ([.ref (q 0), .int x1] : List Value).toArray below meth c s.heap [] 0 0 (MQ below (QP (.int (fX2_longestPulse v x1))) ([.ref (q 0), .int x1] : List Value).toArray s 0 0 (fun _ => False)) (F0 m 4 ls []) := by
    intro n4
    induction n4 with
    | zero =>
      intro d4 y2_4 hd hg ls hl
      refine lv_iload_n hC.1 hC.2.1 dX2_longestPulse_4 rfl (lv_at hl 3 rfl) ?_
      refine lv_aload_n hC.1 hC.2.1 dX2_longestPulse_5 rfl (lv_at hl 0 rfl) ?_
      refine gf (v := .ref (q 2)) hC fwX2 hKN hP 0 rfl rfl 1 (by decide) rfl wd_117 rfl dX2_longestPulse_6 ?_
      refine alen_n hC hKN hP 2 rfl dX2_longestPulse_9 ?_
      refine lv_icmp_ge (tgt := 39) hC.1 hC.2.1 dX2_longestPulse_10 (by decide) (fun k10 => ?_) (fun k10 => ?_)
      · exact A4  y2_4 hg _ (lv_sub hl [2] rfl)
      · exact absurd (nI_le (a := 24) (b := d4) (by omega) (by omega)) k10
    | succ n4 ih =>
      intro d4 y2_4 hd hg ls hl
      have hg : fX2_longestPulse v x1 = (tX2_longestPulse_4 v x1 (lpF n4 (d4 + 1) (bX2_longestPulse_4 v x1) (bX2_longestPulse_4 v x1 d4 y2_4))) := hg
      refine lv_iload_n hC.1 hC.2.1 dX2_longestPulse_4 rfl (lv_at hl 3 rfl) ?_
      refine lv_aload_n hC.1 hC.2.1 dX2_longestPulse_5 rfl (lv_at hl 0 rfl) ?_
      refine gf (v := .ref (q 2)) hC fwX2 hKN hP 0 rfl rfl 1 (by decide) rfl wd_117 rfl dX2_longestPulse_6 ?_
      refine alen_n hC hKN hP 2 rfl dX2_longestPulse_9 ?_
      refine lv_icmp_ge (tgt := 39) hC.1 hC.2.1 dX2_longestPulse_10 (by decide) (fun k10 => ?_) (fun k10 => ?_)
      · exact absurd k10 (nI_ge (a := d4) (b := 24) (by omega) (by omega))
      · refine lv_iload_n hC.1 hC.2.1 dX2_longestPulse_13 rfl (lv_at hl 1 rfl) ?_
        refine lv_iload_n hC.1 hC.2.1 dX2_longestPulse_14 rfl (lv_at hl 3 rfl) ?_
        refine runP (rSN (B := fun U H => True) (As := [.int x1, .int (nI d4)]) (rest := []) hC mwX5_bitOf (c_X5_bitOf l G x1 (nI d4)) wd_433 (nm_6 hKN) ⟨rfl, rfl⟩ ⟨Nat.le_of_ble_eq_true rfl, Nat.le_of_ble_eq_true rfl⟩ (fun _ _ _ _ h => h) hKN trivial rfl hl.1 rfl (Nat.le_of_ble_eq_true rfl) dX2_longestPulse_15 ⟨Nat.zero_le _, Nat.zero_le _⟩) ?_
        refine lv_iconst (v := 1) hC.1 hC.2.1 dX2_longestPulse_18 (by decide) ?_
        refine lv_icmp_ne (tgt := 33) hC.1 hC.2.1 dX2_longestPulse_19 (by decide) (fun k19 => ?_) (fun k19 => ?_)
        · refine lv_iinc (v := nI (d4 + 1)) (lv' := [(3, .int (nI (d4 + 1))), (0, .ref (q 0)), (1, .int x1), (2, .int y2_4)]) hC.1 hC.2.1 dX2_longestPulse_33 hl (k := 3) rfl (nI_1 _) (by decide) rfl (fun ls hl => ?_)
          refine lv_goto (tgt := 4) hC.1 hC.2.1 dX2_longestPulse_36 (by decide) ?_
          have e_2 : bX2_longestPulse_4 v x1 d4 y2_4 = y2_4 := by exact Eq.trans (if_neg k19) rfl
          have hg : fX2_longestPulse v x1 = (tX2_longestPulse_4 v x1 (lpF n4 (d4 + 1) (bX2_longestPulse_4 v x1) y2_4)) := hg.trans (congrArg (fun z => (tX2_longestPulse_4 v x1 (lpF n4 (d4 + 1) (bX2_longestPulse_4 v x1) z))) e_2)
          exact ih (d4 + 1) y2_4 (by omega) hg _ (lv_sub hl [1, 2, 3, 0] rfl)
        · refine lv_iload_n hC.1 hC.2.1 dX2_longestPulse_22 rfl (lv_at hl 2 rfl) ?_
          refine lv_aload_n hC.1 hC.2.1 dX2_longestPulse_23 rfl (lv_at hl 0 rfl) ?_
          refine gf (v := .ref (q 2)) hC fwX2 hKN hP 0 rfl rfl 1 (by decide) rfl wd_117 rfl dX2_longestPulse_24 ?_
          refine lv_iload_n hC.1 hC.2.1 dX2_longestPulse_27 rfl (lv_at hl 3 rfl) ?_
          refine iald_k hC hKN hP 2 rfl (n := 24) (f := (v 1)) d4 (rfl) (by omega) (by decide) dX2_longestPulse_28 ?_
          refine va_mmax hC.1 hC.2.1 (hC.2.2.2.1.trans hl.1.symm) hC.2.2.2.2.1 (hC.2.2.2.2.2.2.1 _ wd_412) (hC.2.2.2.2.2.2.1 _ wd_413) (hC.2.2.2.2.2.2.1 _ wd_3) (hC.2.2.2.2.2.2.1 _ wd_414) (Nat.le_of_ble_eq_true rfl) (Nat.le_of_ble_eq_true rfl) (Nat.zero_le _) (Nat.zero_le _) dX2_longestPulse_29 ?_
          refine lv_istore_n (lv' := [(2, .int (if y2_4 < ((v 1) d4) then ((v 1) d4) else y2_4)), (0, .ref (q 0)), (1, .int x1), (3, .int (nI d4))]) hC.1 hC.2.1 dX2_longestPulse_32 rfl hl (by decide) rfl (fun ls hl => ?_)
          refine lv_iinc (v := nI (d4 + 1)) (lv' := [(3, .int (nI (d4 + 1))), (2, .int (if y2_4 < ((v 1) d4) then ((v 1) d4) else y2_4)), (0, .ref (q 0)), (1, .int x1)]) hC.1 hC.2.1 dX2_longestPulse_33 hl (k := 3) rfl (nI_1 _) (by decide) rfl (fun ls hl => ?_)
          refine lv_goto (tgt := 4) hC.1 hC.2.1 dX2_longestPulse_36 (by decide) ?_
          have e_3 : bX2_longestPulse_4 v x1 d4 y2_4 = (if y2_4 < ((v 1) d4) then ((v 1) d4) else y2_4) := by exact Eq.trans (if_pos k19) rfl
          have hg : fX2_longestPulse v x1 = (tX2_longestPulse_4 v x1 (lpF n4 (d4 + 1) (bX2_longestPulse_4 v x1) (if y2_4 < ((v 1) d4) then ((v 1) d4) else y2_4))) := hg.trans (congrArg (fun z => (tX2_longestPulse_4 v x1 (lpF n4 (d4 + 1) (bX2_longestPulse_4 v x1) z))) e_3)
          exact ih (d4 + 1) (if y2_4 < ((v 1) d4) then ((v 1) d4) else y2_4) (by omega) hg _ (lv_sub hl [2, 3, 1, 0] rfl)
  have e_4 : fX2_longestPulse v x1 = tX2_longestPulse_4 v x1 (lpF 24 0 (bX2_longestPulse_4 v x1) 0) := by exact rfl
  have hg : fX2_longestPulse v x1 = (tX2_longestPulse_4 v x1 (lpF 24 0 (bX2_longestPulse_4 v x1) 0)) := hg.trans (congrArg (fun z => z) e_4)
  exact L4  24 0 0 (by omega) hg _ (lv_sub hl [2, 3, 1, 0] rfl)

theorem dX2_numberOfDot_0 : decode cX2_numberOfDot 0 = .ok (.iload_n 2, 1) := by decide +kernel
theorem dX2_numberOfDot_1 : decode cX2_numberOfDot 1 = .ok (.tableswitch 104 0 5 #[39, 48, 57, 66, 78, 90], 39) := by decide +kernel
theorem dX2_numberOfDot_40 : decode cX2_numberOfDot 40 = .ok (.aload_n 0, 1) := by decide +kernel
theorem dX2_numberOfDot_41 : decode cX2_numberOfDot 41 = .ok (.getfield 9, 3) := by decide +kernel
theorem dX2_numberOfDot_44 : decode cX2_numberOfDot 44 = .ok (.iload_n 1, 1) := by decide +kernel
theorem dX2_numberOfDot_45 : decode cX2_numberOfDot 45 = .ok (.invokestatic 59, 3) := by decide +kernel
theorem dX2_numberOfDot_48 : decode cX2_numberOfDot 48 = .ok (.ireturn, 1) := by decide +kernel
theorem dX2_numberOfDot_49 : decode cX2_numberOfDot 49 = .ok (.aload_n 0, 1) := by decide +kernel
theorem dX2_numberOfDot_50 : decode cX2_numberOfDot 50 = .ok (.getfield 42, 3) := by decide +kernel
theorem dX2_numberOfDot_53 : decode cX2_numberOfDot 53 = .ok (.iload_n 1, 1) := by decide +kernel
theorem dX2_numberOfDot_54 : decode cX2_numberOfDot 54 = .ok (.invokestatic 124, 3) := by decide +kernel
theorem dX2_numberOfDot_57 : decode cX2_numberOfDot 57 = .ok (.ireturn, 1) := by decide +kernel
theorem dX2_numberOfDot_58 : decode cX2_numberOfDot 58 = .ok (.aload_n 0, 1) := by decide +kernel
theorem dX2_numberOfDot_59 : decode cX2_numberOfDot 59 = .ok (.getfield 46, 3) := by decide +kernel
theorem dX2_numberOfDot_62 : decode cX2_numberOfDot 62 = .ok (.iload_n 1, 1) := by decide +kernel
theorem dX2_numberOfDot_63 : decode cX2_numberOfDot 63 = .ok (.invokestatic 124, 3) := by decide +kernel
theorem dX2_numberOfDot_66 : decode cX2_numberOfDot 66 = .ok (.ireturn, 1) := by decide +kernel
theorem dX2_numberOfDot_67 : decode cX2_numberOfDot 67 = .ok (.aload_n 0, 1) := by decide +kernel
theorem dX2_numberOfDot_68 : decode cX2_numberOfDot 68 = .ok (.getfield 38, 3) := by decide +kernel
theorem dX2_numberOfDot_71 : decode cX2_numberOfDot 71 = .ok (.getfield 166, 3) := by decide +kernel
theorem dX2_numberOfDot_74 : decode cX2_numberOfDot 74 = .ok (.iload_n 1, 1) := by decide +kernel
theorem dX2_numberOfDot_75 : decode cX2_numberOfDot 75 = .ok (.invokestatic 59, 3) := by decide +kernel
theorem dX2_numberOfDot_78 : decode cX2_numberOfDot 78 = .ok (.ireturn, 1) := by decide +kernel
theorem dX2_numberOfDot_79 : decode cX2_numberOfDot 79 = .ok (.aload_n 0, 1) := by decide +kernel
theorem dX2_numberOfDot_80 : decode cX2_numberOfDot 80 = .ok (.getfield 38, 3) := by decide +kernel
theorem dX2_numberOfDot_83 : decode cX2_numberOfDot 83 = .ok (.getfield 169, 3) := by decide +kernel
theorem dX2_numberOfDot_86 : decode cX2_numberOfDot 86 = .ok (.iload_n 1, 1) := by decide +kernel
theorem dX2_numberOfDot_87 : decode cX2_numberOfDot 87 = .ok (.invokestatic 59, 3) := by decide +kernel
theorem dX2_numberOfDot_90 : decode cX2_numberOfDot 90 = .ok (.ireturn, 1) := by decide +kernel
theorem dX2_numberOfDot_91 : decode cX2_numberOfDot 91 = .ok (.aload_n 0, 1) := by decide +kernel
theorem dX2_numberOfDot_92 : decode cX2_numberOfDot 92 = .ok (.iload_n 1, 1) := by decide +kernel
theorem dX2_numberOfDot_93 : decode cX2_numberOfDot 93 = .ok (.aload_n 0, 1) := by decide +kernel
theorem dX2_numberOfDot_94 : decode cX2_numberOfDot 94 = .ok (.getfield 21, 3) := by decide +kernel
theorem dX2_numberOfDot_97 : decode cX2_numberOfDot 97 = .ok (.iconst 0, 1) := by decide +kernel
theorem dX2_numberOfDot_98 : decode cX2_numberOfDot 98 = .ok (.invokestatic 59, 3) := by decide +kernel
theorem dX2_numberOfDot_101 : decode cX2_numberOfDot 101 = .ok (.invokevirtual 159, 3) := by decide +kernel
theorem dX2_numberOfDot_104 : decode cX2_numberOfDot 104 = .ok (.ireturn, 1) := by decide +kernel
theorem dX2_numberOfDot_105 : decode cX2_numberOfDot 105 = .ok (.aload_n 0, 1) := by decide +kernel
theorem dX2_numberOfDot_106 : decode cX2_numberOfDot 106 = .ok (.aload_n 0, 1) := by decide +kernel
theorem dX2_numberOfDot_107 : decode cX2_numberOfDot 107 = .ok (.getfield 9, 3) := by decide +kernel
theorem dX2_numberOfDot_110 : decode cX2_numberOfDot 110 = .ok (.iload_n 1, 1) := by decide +kernel
theorem dX2_numberOfDot_111 : decode cX2_numberOfDot 111 = .ok (.invokestatic 59, 3) := by decide +kernel
theorem dX2_numberOfDot_114 : decode cX2_numberOfDot 114 = .ok (.aload_n 0, 1) := by decide +kernel
theorem dX2_numberOfDot_115 : decode cX2_numberOfDot 115 = .ok (.iload_n 1, 1) := by decide +kernel
theorem dX2_numberOfDot_116 : decode cX2_numberOfDot 116 = .ok (.aload_n 0, 1) := by decide +kernel
theorem dX2_numberOfDot_117 : decode cX2_numberOfDot 117 = .ok (.getfield 21, 3) := by decide +kernel
theorem dX2_numberOfDot_120 : decode cX2_numberOfDot 120 = .ok (.iconst 0, 1) := by decide +kernel
theorem dX2_numberOfDot_121 : decode cX2_numberOfDot 121 = .ok (.invokestatic 59, 3) := by decide +kernel
theorem dX2_numberOfDot_124 : decode cX2_numberOfDot 124 = .ok (.invokevirtual 159, 3) := by decide +kernel
theorem dX2_numberOfDot_127 : decode cX2_numberOfDot 127 = .ok (.invokevirtual 162, 3) := by decide +kernel
theorem dX2_numberOfDot_130 : decode cX2_numberOfDot 130 = .ok (.ireturn, 1) := by decide +kernel
set_option maxHeartbeats 1000000 in
set_option maxRecDepth 100000 in
theorem c_X2_numberOfDot (l : Launch) (G : GT) (q : Nat → Nat) (v : SV) (x1 : Int32) (x2 : Int32) : Met l yX2_numberOfDot (Cond.code yX2_numberOfDot cX2_numberOfDot 3 (some .int) :: bigW) ({ frames := 3, cells := 0, slots := 0, locals := 70 }) (BP G [.ref (q 0), .int x1, .int x2] (fun U H => PW G (stW G q v) H)) (QP (.int (fX2_numberOfDot v x1 x2))) 0 0 (fun _ => False) := by
  refine met_of (by decide) (Nat.le_of_ble_eq_true rfl) ?_
  intro p e s m below meth c ls hC hKN hB0 hl
  have hP := hB0
  have hl : lv_has ls 3 [(0, .ref (q 0)), (1, .int x1), (2, .int x2)] := hl
  have hg : fX2_numberOfDot v x1 x2 = fX2_numberOfDot v x1 x2 := rfl
  refine lv_iload_n hC.1 hC.2.1 dX2_numberOfDot_0 rfl (lv_at hl 2 rfl) ?_
  by_cases k1_0 : x2 = 0
  · refine swIn hC (tgt := 40) 0 k1_0 dX2_numberOfDot_1 (by decide) (by decide) rfl (by decide) ?_
    refine lv_aload_n hC.1 hC.2.1 dX2_numberOfDot_40 rfl (lv_at hl 0 rfl) ?_
    refine gf (v := .ref (q 1)) hC fwX2 hKN hP 0 rfl rfl 0 (by decide) rfl wd_116 rfl dX2_numberOfDot_41 ?_
    refine lv_iload_n hC.1 hC.2.1 dX2_numberOfDot_44 rfl (lv_at hl 1 rfl) ?_
    refine runP (rSN (B := fun U H => RD (q 1) 24 (v 0) U H) (As := [.ref (q 1), .int x1]) (rest := []) hC mwX5_at (c_X5_at l G (q 1) 24 (v 0) x1) wd_249 (nm_5 hKN) ⟨rfl, rfl⟩ ⟨Nat.le_of_ble_eq_true rfl, Nat.le_of_ble_eq_true rfl⟩ (stb_RD _ _ _) hKN (RD.ofP hKN hP 1 rfl) rfl hl.1 rfl (Nat.le_of_ble_eq_true rfl) dX2_numberOfDot_45 ⟨Nat.zero_le _, Nat.zero_le _⟩) ?_
    have e_1 : fX2_numberOfDot v x1 x2 = fX5_at 24 (v 0) x1 := by exact Eq.trans (if_pos k1_0) rfl
    have hg : fX2_numberOfDot v x1 x2 = fX5_at 24 (v 0) x1 := hg.trans (congrArg (fun z => z) e_1)
    exact eP_i hC (congrArg Value.int hg) dX2_numberOfDot_48
  · skip
    by_cases k1_1 : x2 = 1
    · refine swIn hC (tgt := 49) 1 k1_1 dX2_numberOfDot_1 (by decide) (by decide) rfl (by decide) ?_
      refine lv_aload_n hC.1 hC.2.1 dX2_numberOfDot_49 rfl (lv_at hl 0 rfl) ?_
      refine gf (v := .int (v 8 8)) hC fwX2 hKN hP 0 rfl rfl 5 (by decide) rfl wd_123 rfl dX2_numberOfDot_50 ?_
      refine lv_iload_n hC.1 hC.2.1 dX2_numberOfDot_53 rfl (lv_at hl 1 rfl) ?_
      refine runP (rSN (B := fun U H => True) (As := [.int (v 8 8), .int x1]) (rest := []) hC mwX5_bitOf (c_X5_bitOf l G (v 8 8) x1) wd_433 (nm_6 hKN) ⟨rfl, rfl⟩ ⟨Nat.le_of_ble_eq_true rfl, Nat.le_of_ble_eq_true rfl⟩ (fun _ _ _ _ h => h) hKN trivial rfl hl.1 rfl (Nat.le_of_ble_eq_true rfl) dX2_numberOfDot_54 ⟨Nat.zero_le _, Nat.zero_le _⟩) ?_
      have e_2 : fX2_numberOfDot v x1 x2 = fX5_bitOf (v 8 8) x1 := by exact Eq.trans (if_neg k1_0) (Eq.trans (if_pos k1_1) rfl)
      have hg : fX2_numberOfDot v x1 x2 = fX5_bitOf (v 8 8) x1 := hg.trans (congrArg (fun z => z) e_2)
      exact eP_i hC (congrArg Value.int hg) dX2_numberOfDot_57
    · skip
      by_cases k1_2 : x2 = 2
      · refine swIn hC (tgt := 58) 2 k1_2 dX2_numberOfDot_1 (by decide) (by decide) rfl (by decide) ?_
        refine lv_aload_n hC.1 hC.2.1 dX2_numberOfDot_58 rfl (lv_at hl 0 rfl) ?_
        refine gf (v := .int (v 8 9)) hC fwX2 hKN hP 0 rfl rfl 6 (by decide) rfl wd_124 rfl dX2_numberOfDot_59 ?_
        refine lv_iload_n hC.1 hC.2.1 dX2_numberOfDot_62 rfl (lv_at hl 1 rfl) ?_
        refine runP (rSN (B := fun U H => True) (As := [.int (v 8 9), .int x1]) (rest := []) hC mwX5_bitOf (c_X5_bitOf l G (v 8 9) x1) wd_433 (nm_6 hKN) ⟨rfl, rfl⟩ ⟨Nat.le_of_ble_eq_true rfl, Nat.le_of_ble_eq_true rfl⟩ (fun _ _ _ _ h => h) hKN trivial rfl hl.1 rfl (Nat.le_of_ble_eq_true rfl) dX2_numberOfDot_63 ⟨Nat.zero_le _, Nat.zero_le _⟩) ?_
        have e_3 : fX2_numberOfDot v x1 x2 = fX5_bitOf (v 8 9) x1 := by exact Eq.trans (if_neg k1_0) (Eq.trans (if_neg k1_1) (Eq.trans (if_pos k1_2) rfl))
        have hg : fX2_numberOfDot v x1 x2 = fX5_bitOf (v 8 9) x1 := hg.trans (congrArg (fun z => z) e_3)
        exact eP_i hC (congrArg Value.int hg) dX2_numberOfDot_66
      · skip
        by_cases k1_3 : x2 = 3
        · refine swIn hC (tgt := 67) 3 k1_3 dX2_numberOfDot_1 (by decide) (by decide) rfl (by decide) ?_
          refine lv_aload_n hC.1 hC.2.1 dX2_numberOfDot_67 rfl (lv_at hl 0 rfl) ?_
          refine gf (v := .ref (q 8)) hC fwX2 hKN hP 0 rfl rfl 4 (by decide) rfl wd_121 rfl dX2_numberOfDot_68 ?_
          refine gfN (v := .ref (q 9)) hC fwX4 hKN hP 8 rfl rfl 0 (by decide) rfl (nf_3 hKN) rfl dX2_numberOfDot_71 ?_
          refine lv_iload_n hC.1 hC.2.1 dX2_numberOfDot_74 rfl (lv_at hl 1 rfl) ?_
          refine runP (rSN (B := fun U H => RD (q 9) 24 (v 6) U H) (As := [.ref (q 9), .int x1]) (rest := []) hC mwX5_at (c_X5_at l G (q 9) 24 (v 6) x1) wd_249 (nm_5 hKN) ⟨rfl, rfl⟩ ⟨Nat.le_of_ble_eq_true rfl, Nat.le_of_ble_eq_true rfl⟩ (stb_RD _ _ _) hKN (RD.ofP hKN hP 9 rfl) rfl hl.1 rfl (Nat.le_of_ble_eq_true rfl) dX2_numberOfDot_75 ⟨Nat.zero_le _, Nat.zero_le _⟩) ?_
          have e_4 : fX2_numberOfDot v x1 x2 = fX5_at 24 (v 6) x1 := by exact Eq.trans (if_neg k1_0) (Eq.trans (if_neg k1_1) (Eq.trans (if_neg k1_2) (Eq.trans (if_pos k1_3) rfl)))
          have hg : fX2_numberOfDot v x1 x2 = fX5_at 24 (v 6) x1 := hg.trans (congrArg (fun z => z) e_4)
          exact eP_i hC (congrArg Value.int hg) dX2_numberOfDot_78
        · skip
          by_cases k1_4 : x2 = 4
          · refine swIn hC (tgt := 79) 4 k1_4 dX2_numberOfDot_1 (by decide) (by decide) rfl (by decide) ?_
            refine lv_aload_n hC.1 hC.2.1 dX2_numberOfDot_79 rfl (lv_at hl 0 rfl) ?_
            refine gf (v := .ref (q 8)) hC fwX2 hKN hP 0 rfl rfl 4 (by decide) rfl wd_121 rfl dX2_numberOfDot_80 ?_
            refine gfN (v := .ref (q 10)) hC fwX4 hKN hP 8 rfl rfl 1 (by decide) rfl (nf_4 hKN) rfl dX2_numberOfDot_83 ?_
            refine lv_iload_n hC.1 hC.2.1 dX2_numberOfDot_86 rfl (lv_at hl 1 rfl) ?_
            refine runP (rSN (B := fun U H => RD (q 10) 24 (v 7) U H) (As := [.ref (q 10), .int x1]) (rest := []) hC mwX5_at (c_X5_at l G (q 10) 24 (v 7) x1) wd_249 (nm_5 hKN) ⟨rfl, rfl⟩ ⟨Nat.le_of_ble_eq_true rfl, Nat.le_of_ble_eq_true rfl⟩ (stb_RD _ _ _) hKN (RD.ofP hKN hP 10 rfl) rfl hl.1 rfl (Nat.le_of_ble_eq_true rfl) dX2_numberOfDot_87 ⟨Nat.zero_le _, Nat.zero_le _⟩) ?_
            have e_5 : fX2_numberOfDot v x1 x2 = fX5_at 24 (v 7) x1 := by exact Eq.trans (if_neg k1_0) (Eq.trans (if_neg k1_1) (Eq.trans (if_neg k1_2) (Eq.trans (if_neg k1_3) (Eq.trans (if_pos k1_4) rfl))))
            have hg : fX2_numberOfDot v x1 x2 = fX5_at 24 (v 7) x1 := hg.trans (congrArg (fun z => z) e_5)
            exact eP_i hC (congrArg Value.int hg) dX2_numberOfDot_90
          · skip
            by_cases k1_5 : x2 = 5
            · refine swIn hC (tgt := 91) 5 k1_5 dX2_numberOfDot_1 (by decide) (by decide) rfl (by decide) ?_
              refine lv_aload_n hC.1 hC.2.1 dX2_numberOfDot_91 rfl (lv_at hl 0 rfl) ?_
              refine lv_iload_n hC.1 hC.2.1 dX2_numberOfDot_92 rfl (lv_at hl 1 rfl) ?_
              refine lv_aload_n hC.1 hC.2.1 dX2_numberOfDot_93 rfl (lv_at hl 0 rfl) ?_
              refine gf (v := .ref (q 3)) hC fwX2 hKN hP 0 rfl rfl 2 (by decide) rfl wd_118 rfl dX2_numberOfDot_94 ?_
              refine lv_iconst (v := 0) hC.1 hC.2.1 dX2_numberOfDot_97 (by decide) ?_
              refine runP (rSN (B := fun U H => RD (q 3) 7 (v 2) U H) (As := [.ref (q 3), .int 0]) (rest := [.int x1, .ref (q 0)]) hC mwX5_at (c_X5_at l G (q 3) 7 (v 2) 0) wd_249 (nm_5 hKN) ⟨rfl, rfl⟩ ⟨Nat.le_of_ble_eq_true rfl, Nat.le_of_ble_eq_true rfl⟩ (stb_RD _ _ _) hKN (RD.ofP hKN hP 3 rfl) rfl hl.1 rfl (Nat.le_of_ble_eq_true rfl) dX2_numberOfDot_98 ⟨Nat.zero_le _, Nat.zero_le _⟩) ?_
              refine runP (rV (B := fun U H => PW G (stW G q v) H) (As := [.int x1, .int (fX5_at 7 (v 2) 0)]) (rest := []) hC mwX2_pulseAlone (c_X2_pulseAlone l G q v x1 (fX5_at 7 (v 2) 0)) iwX2_pulseAlone wd_435 ⟨rfl, rfl⟩ ⟨Nat.le_of_ble_eq_true rfl, Nat.le_of_ble_eq_true rfl⟩ (stb_h (fun H => PW G (stW G q v) H)) hKN hP (va_recv hKN.k hP (ci := 2) (q0 := 0) rfl rfl) rfl hl.1 rfl (Nat.le_of_ble_eq_true rfl) dX2_numberOfDot_101 ⟨Nat.zero_le _, Nat.zero_le _⟩) ?_
              have e_6 : fX2_numberOfDot v x1 x2 = fX2_pulseAlone v x1 (fX5_at 7 (v 2) 0) := by exact Eq.trans (if_neg k1_0) (Eq.trans (if_neg k1_1) (Eq.trans (if_neg k1_2) (Eq.trans (if_neg k1_3) (Eq.trans (if_neg k1_4) (Eq.trans (if_pos k1_5) rfl)))))
              have hg : fX2_numberOfDot v x1 x2 = fX2_pulseAlone v x1 (fX5_at 7 (v 2) 0) := hg.trans (congrArg (fun z => z) e_6)
              exact eP_i hC (congrArg Value.int hg) dX2_numberOfDot_104
            · skip
              refine lv_tableOut (tgt := 105) hC.1 hC.2.1 dX2_numberOfDot_1 (sw_out 0 5 (by decide) (fun k h1 h2 => by match k, h1, h2 with  | 0, _, _ => exact k1_0 | 1, _, _ => exact k1_1 | 2, _, _ => exact k1_2 | 3, _, _ => exact k1_3 | 4, _, _ => exact k1_4 | 5, _, _ => exact k1_5 | k + 6, _, h => exact absurd h (by omega))) (by decide) ?_
              refine lv_aload_n hC.1 hC.2.1 dX2_numberOfDot_105 rfl (lv_at hl 0 rfl) ?_
              refine lv_aload_n hC.1 hC.2.1 dX2_numberOfDot_106 rfl (lv_at hl 0 rfl) ?_
              refine gf (v := .ref (q 1)) hC fwX2 hKN hP 0 rfl rfl 0 (by decide) rfl wd_116 rfl dX2_numberOfDot_107 ?_
              refine lv_iload_n hC.1 hC.2.1 dX2_numberOfDot_110 rfl (lv_at hl 1 rfl) ?_
              refine runP (rSN (B := fun U H => RD (q 1) 24 (v 0) U H) (As := [.ref (q 1), .int x1]) (rest := [.ref (q 0)]) hC mwX5_at (c_X5_at l G (q 1) 24 (v 0) x1) wd_249 (nm_5 hKN) ⟨rfl, rfl⟩ ⟨Nat.le_of_ble_eq_true rfl, Nat.le_of_ble_eq_true rfl⟩ (stb_RD _ _ _) hKN (RD.ofP hKN hP 1 rfl) rfl hl.1 rfl (Nat.le_of_ble_eq_true rfl) dX2_numberOfDot_111 ⟨Nat.zero_le _, Nat.zero_le _⟩) ?_
              refine lv_aload_n hC.1 hC.2.1 dX2_numberOfDot_114 rfl (lv_at hl 0 rfl) ?_
              refine lv_iload_n hC.1 hC.2.1 dX2_numberOfDot_115 rfl (lv_at hl 1 rfl) ?_
              refine lv_aload_n hC.1 hC.2.1 dX2_numberOfDot_116 rfl (lv_at hl 0 rfl) ?_
              refine gf (v := .ref (q 3)) hC fwX2 hKN hP 0 rfl rfl 2 (by decide) rfl wd_118 rfl dX2_numberOfDot_117 ?_
              refine lv_iconst (v := 0) hC.1 hC.2.1 dX2_numberOfDot_120 (by decide) ?_
              refine runP (rSN (B := fun U H => RD (q 3) 7 (v 2) U H) (As := [.ref (q 3), .int 0]) (rest := [.int x1, .ref (q 0), .int (fX5_at 24 (v 0) x1), .ref (q 0)]) hC mwX5_at (c_X5_at l G (q 3) 7 (v 2) 0) wd_249 (nm_5 hKN) ⟨rfl, rfl⟩ ⟨Nat.le_of_ble_eq_true rfl, Nat.le_of_ble_eq_true rfl⟩ (stb_RD _ _ _) hKN (RD.ofP hKN hP 3 rfl) rfl hl.1 rfl (Nat.le_of_ble_eq_true rfl) dX2_numberOfDot_121 ⟨Nat.zero_le _, Nat.zero_le _⟩) ?_
              refine runP (rV (B := fun U H => PW G (stW G q v) H) (As := [.int x1, .int (fX5_at 7 (v 2) 0)]) (rest := [.int (fX5_at 24 (v 0) x1), .ref (q 0)]) hC mwX2_pulseAlone (c_X2_pulseAlone l G q v x1 (fX5_at 7 (v 2) 0)) iwX2_pulseAlone wd_435 ⟨rfl, rfl⟩ ⟨Nat.le_of_ble_eq_true rfl, Nat.le_of_ble_eq_true rfl⟩ (stb_h (fun H => PW G (stW G q v) H)) hKN hP (va_recv hKN.k hP (ci := 2) (q0 := 0) rfl rfl) rfl hl.1 rfl (Nat.le_of_ble_eq_true rfl) dX2_numberOfDot_124 ⟨Nat.zero_le _, Nat.zero_le _⟩) ?_
              refine runP (rV (B := fun U H => PW G (stW G q v) H) (As := [.int (fX5_at 24 (v 0) x1), .int (fX2_pulseAlone v x1 (fX5_at 7 (v 2) 0))]) (rest := []) hC mwX2_waitFor (c_X2_waitFor l G q v (fX5_at 24 (v 0) x1) (fX2_pulseAlone v x1 (fX5_at 7 (v 2) 0))) iwX2_waitFor wd_445 ⟨rfl, rfl⟩ ⟨Nat.le_of_ble_eq_true rfl, Nat.le_of_ble_eq_true rfl⟩ (stb_h (fun H => PW G (stW G q v) H)) hKN hP (va_recv hKN.k hP (ci := 2) (q0 := 0) rfl rfl) rfl hl.1 rfl (Nat.le_of_ble_eq_true rfl) dX2_numberOfDot_127 ⟨Nat.zero_le _, Nat.zero_le _⟩) ?_
              have e_7 : fX2_numberOfDot v x1 x2 = fX2_waitFor v (fX5_at 24 (v 0) x1) (fX2_pulseAlone v x1 (fX5_at 7 (v 2) 0)) := by exact Eq.trans (if_neg k1_0) (Eq.trans (if_neg k1_1) (Eq.trans (if_neg k1_2) (Eq.trans (if_neg k1_3) (Eq.trans (if_neg k1_4) (Eq.trans (if_neg k1_5) rfl)))))
              have hg : fX2_numberOfDot v x1 x2 = fX2_waitFor v (fX5_at 24 (v 0) x1) (fX2_pulseAlone v x1 (fX5_at 7 (v 2) 0)) := hg.trans (congrArg (fun z => z) e_7)
              exact eP_i hC (congrArg Value.int hg) dX2_numberOfDot_130
end
section
def fX3_numberOfLine (v : SV) (x1 : Int32) (x2 : Int32) : Int32 := if x1 < 0 then ((-1)) else (if x1 < (v 8 0) then (if x2 = 0 then (fX5_at 12 (v 3) x1) else if x2 = 1 then (fX5_at 12 (v 4) x1) else (fX5_at 12 (v 5) x1)) else ((-1)))
def fX3_textLength (v : SV) (x1 : Int32) : Int32 := 24 + (if 0 < ((fX5_at 12 (v 5) x1) - 1) then ((fX5_at 12 (v 5) x1) - 1) else 0)
def fX3_sign (v : SV) (x1 : Int32) (x2 : Int32) : Int32 := if x1 < 0 then ((-1)) else (if (v 8 0) ≤ x1 then ((-1)) else (if x2 < 0 then ((-1)) else (if x2 < (fX3_textLength v x1) then (if x2 < 24 then (if (fX5_bitOf (fX5_at 12 (v 3) x1) x2) = 1 then (35) else (if (fX5_bitOf (fX5_at 12 (v 4) x1) x2) = 1 then (43) else (46))) else (124)) else ((-1)))))
def tX4_dotByDot_4 (v : SV) (s : Int32) : Int32 := let y1_4 := s; y1_4
def bX4_dotByDot_4 (v : SV) (d4 : Nat) (s : Int32) : Int32 := let y1_4 := s; y1_4 + ((v 6) d4)
def fX4_dotByDot (v : SV) : Int32 := tX4_dotByDot_4 v (lpF 24 0 (bX4_dotByDot_4 v) 0)
theorem dX3_numberOfLine_0 : decode cX3_numberOfLine 0 = .ok (.iload_n 1, 1) := by decide +kernel
theorem dX3_numberOfLine_1 : decode cX3_numberOfLine 1 = .ok (.ifCond .lt 11, 3) := by decide +kernel
theorem dX3_numberOfLine_4 : decode cX3_numberOfLine 4 = .ok (.iload_n 1, 1) := by decide +kernel
theorem dX3_numberOfLine_5 : decode cX3_numberOfLine 5 = .ok (.aload_n 0, 1) := by decide +kernel
theorem dX3_numberOfLine_6 : decode cX3_numberOfLine 6 = .ok (.getfield 21, 3) := by decide +kernel
theorem dX3_numberOfLine_9 : decode cX3_numberOfLine 9 = .ok (.if_icmp .lt 5, 3) := by decide +kernel
theorem dX3_numberOfLine_12 : decode cX3_numberOfLine 12 = .ok (.iconst (-1), 1) := by decide +kernel
theorem dX3_numberOfLine_13 : decode cX3_numberOfLine 13 = .ok (.ireturn, 1) := by decide +kernel
theorem dX3_numberOfLine_14 : decode cX3_numberOfLine 14 = .ok (.iload_n 2, 1) := by decide +kernel
theorem dX3_numberOfLine_15 : decode cX3_numberOfLine 15 = .ok (.lookupswitch 43 #[(0, 25), (1, 34)], 25) := by decide +kernel
theorem dX3_numberOfLine_40 : decode cX3_numberOfLine 40 = .ok (.aload_n 0, 1) := by decide +kernel
theorem dX3_numberOfLine_41 : decode cX3_numberOfLine 41 = .ok (.getfield 11, 3) := by decide +kernel
theorem dX3_numberOfLine_44 : decode cX3_numberOfLine 44 = .ok (.iload_n 1, 1) := by decide +kernel
theorem dX3_numberOfLine_45 : decode cX3_numberOfLine 45 = .ok (.invokestatic 43, 3) := by decide +kernel
theorem dX3_numberOfLine_48 : decode cX3_numberOfLine 48 = .ok (.ireturn, 1) := by decide +kernel
theorem dX3_numberOfLine_49 : decode cX3_numberOfLine 49 = .ok (.aload_n 0, 1) := by decide +kernel
theorem dX3_numberOfLine_50 : decode cX3_numberOfLine 50 = .ok (.getfield 15, 3) := by decide +kernel
theorem dX3_numberOfLine_53 : decode cX3_numberOfLine 53 = .ok (.iload_n 1, 1) := by decide +kernel
theorem dX3_numberOfLine_54 : decode cX3_numberOfLine 54 = .ok (.invokestatic 43, 3) := by decide +kernel
theorem dX3_numberOfLine_57 : decode cX3_numberOfLine 57 = .ok (.ireturn, 1) := by decide +kernel
theorem dX3_numberOfLine_58 : decode cX3_numberOfLine 58 = .ok (.aload_n 0, 1) := by decide +kernel
theorem dX3_numberOfLine_59 : decode cX3_numberOfLine 59 = .ok (.getfield 18, 3) := by decide +kernel
theorem dX3_numberOfLine_62 : decode cX3_numberOfLine 62 = .ok (.iload_n 1, 1) := by decide +kernel
theorem dX3_numberOfLine_63 : decode cX3_numberOfLine 63 = .ok (.invokestatic 43, 3) := by decide +kernel
theorem dX3_numberOfLine_66 : decode cX3_numberOfLine 66 = .ok (.ireturn, 1) := by decide +kernel
set_option maxHeartbeats 1000000 in
set_option maxRecDepth 100000 in
theorem c_X3_numberOfLine (l : Launch) (G : GT) (q : Nat → Nat) (v : SV) (x1 : Int32) (x2 : Int32) : Met l yX3_numberOfLine (Cond.code yX3_numberOfLine cX3_numberOfLine 3 (some .int) :: bigW) ({ frames := 1, cells := 0, slots := 0, locals := 21 }) (BP G [.ref (q 4), .int x1, .int x2] (fun U H => PW G (stW G q v) H)) (QP (.int (fX3_numberOfLine v x1 x2))) 0 0 (fun _ => False) := by
  refine met_of (by decide) (Nat.le_of_ble_eq_true rfl) ?_
  intro p e s m below meth c ls hC hKN hB0 hl
  have hP := hB0
  have hl : lv_has ls 3 [(0, .ref (q 4)), (1, .int x1), (2, .int x2)] := hl
  have hg : fX3_numberOfLine v x1 x2 = fX3_numberOfLine v x1 x2 := rfl
  refine lv_iload_n hC.1 hC.2.1 dX3_numberOfLine_0 rfl (lv_at hl 1 rfl) ?_
  refine lv_if_lt (tgt := 12) hC.1 hC.2.1 dX3_numberOfLine_1 (by decide) (fun k1 => ?_) (fun k1 => ?_)
  · refine lv_iconst (v := (-1)) hC.1 hC.2.1 dX3_numberOfLine_12 (by decide) ?_
    have e_1 : fX3_numberOfLine v x1 x2 = (-1) := by exact Eq.trans (if_pos k1) rfl
    have hg : fX3_numberOfLine v x1 x2 = (-1) := hg.trans (congrArg (fun z => z) e_1)
    exact eP_i hC (congrArg Value.int hg) dX3_numberOfLine_13
  · refine lv_iload_n hC.1 hC.2.1 dX3_numberOfLine_4 rfl (lv_at hl 1 rfl) ?_
    refine lv_aload_n hC.1 hC.2.1 dX3_numberOfLine_5 rfl (lv_at hl 0 rfl) ?_
    refine gf (v := .int (v 8 0)) hC fwX3 hKN hP 4 rfl rfl 3 (by decide) rfl wd_57 rfl dX3_numberOfLine_6 ?_
    refine lv_icmp_lt (tgt := 14) hC.1 hC.2.1 dX3_numberOfLine_9 (by decide) (fun k9 => ?_) (fun k9 => ?_)
    · refine lv_iload_n hC.1 hC.2.1 dX3_numberOfLine_14 rfl (lv_at hl 2 rfl) ?_
      by_cases k15_0 : x2 = 0
      · refine lkIn hC (tgt := 40) (off := 25) 0 k15_0 dX3_numberOfLine_15 (by decide) (by decide) (by decide) ?_
        refine lv_aload_n hC.1 hC.2.1 dX3_numberOfLine_40 rfl (lv_at hl 0 rfl) ?_
        refine gf (v := .ref (q 5)) hC fwX3 hKN hP 4 rfl rfl 0 (by decide) rfl wd_54 rfl dX3_numberOfLine_41 ?_
        refine lv_iload_n hC.1 hC.2.1 dX3_numberOfLine_44 rfl (lv_at hl 1 rfl) ?_
        refine runP (rSN (B := fun U H => RD (q 5) 12 (v 3) U H) (As := [.ref (q 5), .int x1]) (rest := []) hC mwX5_at (c_X5_at l G (q 5) 12 (v 3) x1) wd_249 (nm_7 hKN) ⟨rfl, rfl⟩ ⟨Nat.le_of_ble_eq_true rfl, Nat.le_of_ble_eq_true rfl⟩ (stb_RD _ _ _) hKN (RD.ofP hKN hP 5 rfl) rfl hl.1 rfl (Nat.le_of_ble_eq_true rfl) dX3_numberOfLine_45 ⟨Nat.zero_le _, Nat.zero_le _⟩) ?_
        have e_2 : fX3_numberOfLine v x1 x2 = fX5_at 12 (v 3) x1 := by exact Eq.trans (if_neg k1) (Eq.trans (if_pos k9) (Eq.trans (if_pos k15_0) rfl))
        have hg : fX3_numberOfLine v x1 x2 = fX5_at 12 (v 3) x1 := hg.trans (congrArg (fun z => z) e_2)
        exact eP_i hC (congrArg Value.int hg) dX3_numberOfLine_48
      · skip
        by_cases k15_1 : x2 = 1
        · refine lkIn hC (tgt := 49) (off := 34) 1 k15_1 dX3_numberOfLine_15 (by decide) (by decide) (by decide) ?_
          refine lv_aload_n hC.1 hC.2.1 dX3_numberOfLine_49 rfl (lv_at hl 0 rfl) ?_
          refine gf (v := .ref (q 6)) hC fwX3 hKN hP 4 rfl rfl 1 (by decide) rfl wd_55 rfl dX3_numberOfLine_50 ?_
          refine lv_iload_n hC.1 hC.2.1 dX3_numberOfLine_53 rfl (lv_at hl 1 rfl) ?_
          refine runP (rSN (B := fun U H => RD (q 6) 12 (v 4) U H) (As := [.ref (q 6), .int x1]) (rest := []) hC mwX5_at (c_X5_at l G (q 6) 12 (v 4) x1) wd_249 (nm_7 hKN) ⟨rfl, rfl⟩ ⟨Nat.le_of_ble_eq_true rfl, Nat.le_of_ble_eq_true rfl⟩ (stb_RD _ _ _) hKN (RD.ofP hKN hP 6 rfl) rfl hl.1 rfl (Nat.le_of_ble_eq_true rfl) dX3_numberOfLine_54 ⟨Nat.zero_le _, Nat.zero_le _⟩) ?_
          have e_3 : fX3_numberOfLine v x1 x2 = fX5_at 12 (v 4) x1 := by exact Eq.trans (if_neg k1) (Eq.trans (if_pos k9) (Eq.trans (if_neg k15_0) (Eq.trans (if_pos k15_1) rfl)))
          have hg : fX3_numberOfLine v x1 x2 = fX5_at 12 (v 4) x1 := hg.trans (congrArg (fun z => z) e_3)
          exact eP_i hC (congrArg Value.int hg) dX3_numberOfLine_57
        · skip
          have z15_0 : ¬ x2.toInt = 0 := ne_toInt k15_0
          have z15_1 : ¬ x2.toInt = 1 := ne_toInt k15_1
          refine lv_lookup (tgt := 58) hC.1 hC.2.1 dX3_numberOfLine_15 (by decide) (off := 43) (by simp [Op.lookupswitch.offset, z15_0, Ne.symm z15_0, z15_1, Ne.symm z15_1]) (by decide) ?_
          refine lv_aload_n hC.1 hC.2.1 dX3_numberOfLine_58 rfl (lv_at hl 0 rfl) ?_
          refine gf (v := .ref (q 7)) hC fwX3 hKN hP 4 rfl rfl 2 (by decide) rfl wd_56 rfl dX3_numberOfLine_59 ?_
          refine lv_iload_n hC.1 hC.2.1 dX3_numberOfLine_62 rfl (lv_at hl 1 rfl) ?_
          refine runP (rSN (B := fun U H => RD (q 7) 12 (v 5) U H) (As := [.ref (q 7), .int x1]) (rest := []) hC mwX5_at (c_X5_at l G (q 7) 12 (v 5) x1) wd_249 (nm_7 hKN) ⟨rfl, rfl⟩ ⟨Nat.le_of_ble_eq_true rfl, Nat.le_of_ble_eq_true rfl⟩ (stb_RD _ _ _) hKN (RD.ofP hKN hP 7 rfl) rfl hl.1 rfl (Nat.le_of_ble_eq_true rfl) dX3_numberOfLine_63 ⟨Nat.zero_le _, Nat.zero_le _⟩) ?_
          have e_4 : fX3_numberOfLine v x1 x2 = fX5_at 12 (v 5) x1 := by exact Eq.trans (if_neg k1) (Eq.trans (if_pos k9) (Eq.trans (if_neg k15_0) (Eq.trans (if_neg k15_1) rfl)))
          have hg : fX3_numberOfLine v x1 x2 = fX5_at 12 (v 5) x1 := hg.trans (congrArg (fun z => z) e_4)
          exact eP_i hC (congrArg Value.int hg) dX3_numberOfLine_66
    · refine lv_iconst (v := (-1)) hC.1 hC.2.1 dX3_numberOfLine_12 (by decide) ?_
      have e_5 : fX3_numberOfLine v x1 x2 = (-1) := by exact Eq.trans (if_neg k1) (Eq.trans (if_neg k9) rfl)
      have hg : fX3_numberOfLine v x1 x2 = (-1) := hg.trans (congrArg (fun z => z) e_5)
      exact eP_i hC (congrArg Value.int hg) dX3_numberOfLine_13

theorem dX3_textLength_0 : decode cX3_textLength 0 = .ok (.bipush 24, 2) := by decide +kernel
theorem dX3_textLength_2 : decode cX3_textLength 2 = .ok (.iconst 0, 1) := by decide +kernel
theorem dX3_textLength_3 : decode cX3_textLength 3 = .ok (.aload_n 0, 1) := by decide +kernel
theorem dX3_textLength_4 : decode cX3_textLength 4 = .ok (.getfield 18, 3) := by decide +kernel
theorem dX3_textLength_7 : decode cX3_textLength 7 = .ok (.iload_n 1, 1) := by decide +kernel
theorem dX3_textLength_8 : decode cX3_textLength 8 = .ok (.invokestatic 43, 3) := by decide +kernel
theorem dX3_textLength_11 : decode cX3_textLength 11 = .ok (.iconst 1, 1) := by decide +kernel
theorem dX3_textLength_12 : decode cX3_textLength 12 = .ok (.isub, 1) := by decide +kernel
theorem dX3_textLength_13 : decode cX3_textLength 13 = .ok (.invokestatic 47, 3) := by decide +kernel
theorem dX3_textLength_16 : decode cX3_textLength 16 = .ok (.iadd, 1) := by decide +kernel
theorem dX3_textLength_17 : decode cX3_textLength 17 = .ok (.ireturn, 1) := by decide +kernel
set_option maxHeartbeats 1000000 in
set_option maxRecDepth 100000 in
theorem c_X3_textLength (l : Launch) (G : GT) (q : Nat → Nat) (v : SV) (x1 : Int32) : Met l yX3_textLength (Cond.code yX3_textLength cX3_textLength 2 (some .int) :: bigW) ({ frames := 1, cells := 0, slots := 0, locals := 24 }) (BP G [.ref (q 4), .int x1] (fun U H => PW G (stW G q v) H)) (QP (.int (fX3_textLength v x1))) 0 0 (fun _ => False) := by
  refine met_of (by decide) (Nat.le_of_ble_eq_true rfl) ?_
  intro p e s m below meth c ls hC hKN hB0 hl
  have hP := hB0
  have hl : lv_has ls 2 [(0, .ref (q 4)), (1, .int x1)] := hl
  have hg : fX3_textLength v x1 = fX3_textLength v x1 := rfl
  refine lv_bipush (v := 24) hC.1 hC.2.1 dX3_textLength_0 (by decide +kernel) ?_
  refine lv_iconst (v := 0) hC.1 hC.2.1 dX3_textLength_2 (by decide) ?_
  refine lv_aload_n hC.1 hC.2.1 dX3_textLength_3 rfl (lv_at hl 0 rfl) ?_
  refine gf (v := .ref (q 7)) hC fwX3 hKN hP 4 rfl rfl 2 (by decide) rfl wd_56 rfl dX3_textLength_4 ?_
  refine lv_iload_n hC.1 hC.2.1 dX3_textLength_7 rfl (lv_at hl 1 rfl) ?_
  refine runP (rSN (B := fun U H => RD (q 7) 12 (v 5) U H) (As := [.ref (q 7), .int x1]) (rest := [.int 0, .int 24]) hC mwX5_at (c_X5_at l G (q 7) 12 (v 5) x1) wd_249 (nm_7 hKN) ⟨rfl, rfl⟩ ⟨Nat.le_of_ble_eq_true rfl, Nat.le_of_ble_eq_true rfl⟩ (stb_RD _ _ _) hKN (RD.ofP hKN hP 7 rfl) rfl hl.1 rfl (Nat.le_of_ble_eq_true rfl) dX3_textLength_8 ⟨Nat.zero_le _, Nat.zero_le _⟩) ?_
  refine lv_iconst (v := 1) hC.1 hC.2.1 dX3_textLength_11 (by decide) ?_
  refine lv_isub hC.1 hC.2.1 dX3_textLength_12 ?_
  refine va_mmax hC.1 hC.2.1 (hC.2.2.2.1.trans hl.1.symm) hC.2.2.2.2.1 (hC.2.2.2.2.2.2.1 _ wd_470) (hC.2.2.2.2.2.2.1 _ wd_413) (hC.2.2.2.2.2.2.1 _ wd_3) (hC.2.2.2.2.2.2.1 _ wd_414) (Nat.le_of_ble_eq_true rfl) (Nat.le_of_ble_eq_true rfl) (Nat.zero_le _) (Nat.zero_le _) dX3_textLength_13 ?_
  refine lv_iadd hC.1 hC.2.1 dX3_textLength_16 ?_
  have e_1 : fX3_textLength v x1 = 24 + (if 0 < ((fX5_at 12 (v 5) x1) - 1) then ((fX5_at 12 (v 5) x1) - 1) else 0) := by exact rfl
  have hg : fX3_textLength v x1 = 24 + (if 0 < ((fX5_at 12 (v 5) x1) - 1) then ((fX5_at 12 (v 5) x1) - 1) else 0) := hg.trans (congrArg (fun z => z) e_1)
  exact eP_i hC (congrArg Value.int hg) dX3_textLength_17

theorem dX3_sign_0 : decode cX3_sign 0 = .ok (.iload_n 1, 1) := by decide +kernel
theorem dX3_sign_1 : decode cX3_sign 1 = .ok (.ifCond .lt 24, 3) := by decide +kernel
theorem dX3_sign_4 : decode cX3_sign 4 = .ok (.iload_n 1, 1) := by decide +kernel
theorem dX3_sign_5 : decode cX3_sign 5 = .ok (.aload_n 0, 1) := by decide +kernel
theorem dX3_sign_6 : decode cX3_sign 6 = .ok (.getfield 21, 3) := by decide +kernel
theorem dX3_sign_9 : decode cX3_sign 9 = .ok (.if_icmp .ge 16, 3) := by decide +kernel
theorem dX3_sign_12 : decode cX3_sign 12 = .ok (.iload_n 2, 1) := by decide +kernel
theorem dX3_sign_13 : decode cX3_sign 13 = .ok (.ifCond .lt 12, 3) := by decide +kernel
theorem dX3_sign_16 : decode cX3_sign 16 = .ok (.iload_n 2, 1) := by decide +kernel
theorem dX3_sign_17 : decode cX3_sign 17 = .ok (.aload_n 0, 1) := by decide +kernel
theorem dX3_sign_18 : decode cX3_sign 18 = .ok (.iload_n 1, 1) := by decide +kernel
theorem dX3_sign_19 : decode cX3_sign 19 = .ok (.invokevirtual 50, 3) := by decide +kernel
theorem dX3_sign_22 : decode cX3_sign 22 = .ok (.if_icmp .lt 5, 3) := by decide +kernel
theorem dX3_sign_25 : decode cX3_sign 25 = .ok (.iconst (-1), 1) := by decide +kernel
theorem dX3_sign_26 : decode cX3_sign 26 = .ok (.ireturn, 1) := by decide +kernel
theorem dX3_sign_27 : decode cX3_sign 27 = .ok (.iload_n 2, 1) := by decide +kernel
theorem dX3_sign_28 : decode cX3_sign 28 = .ok (.bipush 24, 2) := by decide +kernel
theorem dX3_sign_30 : decode cX3_sign 30 = .ok (.if_icmp .lt 6, 3) := by decide +kernel
theorem dX3_sign_33 : decode cX3_sign 33 = .ok (.bipush 124, 2) := by decide +kernel
theorem dX3_sign_35 : decode cX3_sign 35 = .ok (.ireturn, 1) := by decide +kernel
theorem dX3_sign_36 : decode cX3_sign 36 = .ok (.aload_n 0, 1) := by decide +kernel
theorem dX3_sign_37 : decode cX3_sign 37 = .ok (.getfield 11, 3) := by decide +kernel
theorem dX3_sign_40 : decode cX3_sign 40 = .ok (.iload_n 1, 1) := by decide +kernel
theorem dX3_sign_41 : decode cX3_sign 41 = .ok (.invokestatic 43, 3) := by decide +kernel
theorem dX3_sign_44 : decode cX3_sign 44 = .ok (.iload_n 2, 1) := by decide +kernel
theorem dX3_sign_45 : decode cX3_sign 45 = .ok (.invokestatic 54, 3) := by decide +kernel
theorem dX3_sign_48 : decode cX3_sign 48 = .ok (.iconst 1, 1) := by decide +kernel
theorem dX3_sign_49 : decode cX3_sign 49 = .ok (.if_icmp .ne 6, 3) := by decide +kernel
theorem dX3_sign_52 : decode cX3_sign 52 = .ok (.bipush 35, 2) := by decide +kernel
theorem dX3_sign_54 : decode cX3_sign 54 = .ok (.ireturn, 1) := by decide +kernel
theorem dX3_sign_55 : decode cX3_sign 55 = .ok (.aload_n 0, 1) := by decide +kernel
theorem dX3_sign_56 : decode cX3_sign 56 = .ok (.getfield 15, 3) := by decide +kernel
theorem dX3_sign_59 : decode cX3_sign 59 = .ok (.iload_n 1, 1) := by decide +kernel
theorem dX3_sign_60 : decode cX3_sign 60 = .ok (.invokestatic 43, 3) := by decide +kernel
theorem dX3_sign_63 : decode cX3_sign 63 = .ok (.iload_n 2, 1) := by decide +kernel
theorem dX3_sign_64 : decode cX3_sign 64 = .ok (.invokestatic 54, 3) := by decide +kernel
theorem dX3_sign_67 : decode cX3_sign 67 = .ok (.iconst 1, 1) := by decide +kernel
theorem dX3_sign_68 : decode cX3_sign 68 = .ok (.if_icmp .ne 8, 3) := by decide +kernel
theorem dX3_sign_71 : decode cX3_sign 71 = .ok (.bipush 43, 2) := by decide +kernel
theorem dX3_sign_73 : decode cX3_sign 73 = .ok (.goto 5, 3) := by decide +kernel
theorem dX3_sign_76 : decode cX3_sign 76 = .ok (.bipush 46, 2) := by decide +kernel
theorem dX3_sign_78 : decode cX3_sign 78 = .ok (.ireturn, 1) := by decide +kernel
set_option maxHeartbeats 1000000 in
set_option maxRecDepth 100000 in
theorem c_X3_sign (l : Launch) (G : GT) (q : Nat → Nat) (v : SV) (x1 : Int32) (x2 : Int32) : Met l yX3_sign (Cond.code yX3_sign cX3_sign 3 (some .int) :: bigW) ({ frames := 2, cells := 0, slots := 0, locals := 45 }) (BP G [.ref (q 4), .int x1, .int x2] (fun U H => PW G (stW G q v) H)) (QP (.int (fX3_sign v x1 x2))) 0 0 (fun _ => False) := by
  refine met_of (by decide) (Nat.le_of_ble_eq_true rfl) ?_
  intro p e s m below meth c ls hC hKN hB0 hl
  have hP := hB0
  have hl : lv_has ls 3 [(0, .ref (q 4)), (1, .int x1), (2, .int x2)] := hl
  have hg : fX3_sign v x1 x2 = fX3_sign v x1 x2 := rfl
  refine lv_iload_n hC.1 hC.2.1 dX3_sign_0 rfl (lv_at hl 1 rfl) ?_
  refine lv_if_lt (tgt := 25) hC.1 hC.2.1 dX3_sign_1 (by decide) (fun k1 => ?_) (fun k1 => ?_)
  · refine lv_iconst (v := (-1)) hC.1 hC.2.1 dX3_sign_25 (by decide) ?_
    have e_1 : fX3_sign v x1 x2 = (-1) := by exact Eq.trans (if_pos k1) rfl
    have hg : fX3_sign v x1 x2 = (-1) := hg.trans (congrArg (fun z => z) e_1)
    exact eP_i hC (congrArg Value.int hg) dX3_sign_26
  · refine lv_iload_n hC.1 hC.2.1 dX3_sign_4 rfl (lv_at hl 1 rfl) ?_
    refine lv_aload_n hC.1 hC.2.1 dX3_sign_5 rfl (lv_at hl 0 rfl) ?_
    refine gf (v := .int (v 8 0)) hC fwX3 hKN hP 4 rfl rfl 3 (by decide) rfl wd_57 rfl dX3_sign_6 ?_
    refine lv_icmp_ge (tgt := 25) hC.1 hC.2.1 dX3_sign_9 (by decide) (fun k9 => ?_) (fun k9 => ?_)
    · refine lv_iconst (v := (-1)) hC.1 hC.2.1 dX3_sign_25 (by decide) ?_
      have e_2 : fX3_sign v x1 x2 = (-1) := by exact Eq.trans (if_neg k1) (Eq.trans (if_pos k9) rfl)
      have hg : fX3_sign v x1 x2 = (-1) := hg.trans (congrArg (fun z => z) e_2)
      exact eP_i hC (congrArg Value.int hg) dX3_sign_26
    · refine lv_iload_n hC.1 hC.2.1 dX3_sign_12 rfl (lv_at hl 2 rfl) ?_
      refine lv_if_lt (tgt := 25) hC.1 hC.2.1 dX3_sign_13 (by decide) (fun k13 => ?_) (fun k13 => ?_)
      · refine lv_iconst (v := (-1)) hC.1 hC.2.1 dX3_sign_25 (by decide) ?_
        have e_3 : fX3_sign v x1 x2 = (-1) := by exact Eq.trans (if_neg k1) (Eq.trans (if_neg k9) (Eq.trans (if_pos k13) rfl))
        have hg : fX3_sign v x1 x2 = (-1) := hg.trans (congrArg (fun z => z) e_3)
        exact eP_i hC (congrArg Value.int hg) dX3_sign_26
      · refine lv_iload_n hC.1 hC.2.1 dX3_sign_16 rfl (lv_at hl 2 rfl) ?_
        refine lv_aload_n hC.1 hC.2.1 dX3_sign_17 rfl (lv_at hl 0 rfl) ?_
        refine lv_iload_n hC.1 hC.2.1 dX3_sign_18 rfl (lv_at hl 1 rfl) ?_
        refine runP (rV (B := fun U H => PW G (stW G q v) H) (As := [.int x1]) (rest := [.int x2]) hC mwX3_textLength (c_X3_textLength l G q v x1) iwX3_textLength wd_475 ⟨rfl, rfl⟩ ⟨Nat.le_of_ble_eq_true rfl, Nat.le_of_ble_eq_true rfl⟩ (stb_h (fun H => PW G (stW G q v) H)) hKN hP (va_recv hKN.k hP (ci := 3) (q0 := 4) rfl rfl) rfl hl.1 rfl (Nat.le_of_ble_eq_true rfl) dX3_sign_19 ⟨Nat.zero_le _, Nat.zero_le _⟩) ?_
        refine lv_icmp_lt (tgt := 27) hC.1 hC.2.1 dX3_sign_22 (by decide) (fun k22 => ?_) (fun k22 => ?_)
        · refine lv_iload_n hC.1 hC.2.1 dX3_sign_27 rfl (lv_at hl 2 rfl) ?_
          refine lv_bipush (v := 24) hC.1 hC.2.1 dX3_sign_28 (by decide +kernel) ?_
          refine lv_icmp_lt (tgt := 36) hC.1 hC.2.1 dX3_sign_30 (by decide) (fun k30 => ?_) (fun k30 => ?_)
          · refine lv_aload_n hC.1 hC.2.1 dX3_sign_36 rfl (lv_at hl 0 rfl) ?_
            refine gf (v := .ref (q 5)) hC fwX3 hKN hP 4 rfl rfl 0 (by decide) rfl wd_54 rfl dX3_sign_37 ?_
            refine lv_iload_n hC.1 hC.2.1 dX3_sign_40 rfl (lv_at hl 1 rfl) ?_
            refine runP (rSN (B := fun U H => RD (q 5) 12 (v 3) U H) (As := [.ref (q 5), .int x1]) (rest := []) hC mwX5_at (c_X5_at l G (q 5) 12 (v 3) x1) wd_249 (nm_7 hKN) ⟨rfl, rfl⟩ ⟨Nat.le_of_ble_eq_true rfl, Nat.le_of_ble_eq_true rfl⟩ (stb_RD _ _ _) hKN (RD.ofP hKN hP 5 rfl) rfl hl.1 rfl (Nat.le_of_ble_eq_true rfl) dX3_sign_41 ⟨Nat.zero_le _, Nat.zero_le _⟩) ?_
            refine lv_iload_n hC.1 hC.2.1 dX3_sign_44 rfl (lv_at hl 2 rfl) ?_
            refine runP (rSN (B := fun U H => True) (As := [.int (fX5_at 12 (v 3) x1), .int x2]) (rest := []) hC mwX5_bitOf (c_X5_bitOf l G (fX5_at 12 (v 3) x1) x2) wd_433 (nm_8 hKN) ⟨rfl, rfl⟩ ⟨Nat.le_of_ble_eq_true rfl, Nat.le_of_ble_eq_true rfl⟩ (fun _ _ _ _ h => h) hKN trivial rfl hl.1 rfl (Nat.le_of_ble_eq_true rfl) dX3_sign_45 ⟨Nat.zero_le _, Nat.zero_le _⟩) ?_
            refine lv_iconst (v := 1) hC.1 hC.2.1 dX3_sign_48 (by decide) ?_
            refine lv_icmp_ne (tgt := 55) hC.1 hC.2.1 dX3_sign_49 (by decide) (fun k49 => ?_) (fun k49 => ?_)
            · refine lv_aload_n hC.1 hC.2.1 dX3_sign_55 rfl (lv_at hl 0 rfl) ?_
              refine gf (v := .ref (q 6)) hC fwX3 hKN hP 4 rfl rfl 1 (by decide) rfl wd_55 rfl dX3_sign_56 ?_
              refine lv_iload_n hC.1 hC.2.1 dX3_sign_59 rfl (lv_at hl 1 rfl) ?_
              refine runP (rSN (B := fun U H => RD (q 6) 12 (v 4) U H) (As := [.ref (q 6), .int x1]) (rest := []) hC mwX5_at (c_X5_at l G (q 6) 12 (v 4) x1) wd_249 (nm_7 hKN) ⟨rfl, rfl⟩ ⟨Nat.le_of_ble_eq_true rfl, Nat.le_of_ble_eq_true rfl⟩ (stb_RD _ _ _) hKN (RD.ofP hKN hP 6 rfl) rfl hl.1 rfl (Nat.le_of_ble_eq_true rfl) dX3_sign_60 ⟨Nat.zero_le _, Nat.zero_le _⟩) ?_
              refine lv_iload_n hC.1 hC.2.1 dX3_sign_63 rfl (lv_at hl 2 rfl) ?_
              refine runP (rSN (B := fun U H => True) (As := [.int (fX5_at 12 (v 4) x1), .int x2]) (rest := []) hC mwX5_bitOf (c_X5_bitOf l G (fX5_at 12 (v 4) x1) x2) wd_433 (nm_8 hKN) ⟨rfl, rfl⟩ ⟨Nat.le_of_ble_eq_true rfl, Nat.le_of_ble_eq_true rfl⟩ (fun _ _ _ _ h => h) hKN trivial rfl hl.1 rfl (Nat.le_of_ble_eq_true rfl) dX3_sign_64 ⟨Nat.zero_le _, Nat.zero_le _⟩) ?_
              refine lv_iconst (v := 1) hC.1 hC.2.1 dX3_sign_67 (by decide) ?_
              refine lv_icmp_ne (tgt := 76) hC.1 hC.2.1 dX3_sign_68 (by decide) (fun k68 => ?_) (fun k68 => ?_)
              · refine lv_bipush (v := 46) hC.1 hC.2.1 dX3_sign_76 (by decide +kernel) ?_
                have e_4 : fX3_sign v x1 x2 = 46 := by exact Eq.trans (if_neg k1) (Eq.trans (if_neg k9) (Eq.trans (if_neg k13) (Eq.trans (if_pos k22) (Eq.trans (if_pos k30) (Eq.trans (if_neg k49) (Eq.trans (if_neg k68) rfl))))))
                have hg : fX3_sign v x1 x2 = 46 := hg.trans (congrArg (fun z => z) e_4)
                exact eP_i hC (congrArg Value.int hg) dX3_sign_78
              · refine lv_bipush (v := 43) hC.1 hC.2.1 dX3_sign_71 (by decide +kernel) ?_
                refine lv_goto (tgt := 78) hC.1 hC.2.1 dX3_sign_73 (by decide) ?_
                have e_5 : fX3_sign v x1 x2 = 43 := by exact Eq.trans (if_neg k1) (Eq.trans (if_neg k9) (Eq.trans (if_neg k13) (Eq.trans (if_pos k22) (Eq.trans (if_pos k30) (Eq.trans (if_neg k49) (Eq.trans (if_pos k68) rfl))))))
                have hg : fX3_sign v x1 x2 = 43 := hg.trans (congrArg (fun z => z) e_5)
                exact eP_i hC (congrArg Value.int hg) dX3_sign_78
            · refine lv_bipush (v := 35) hC.1 hC.2.1 dX3_sign_52 (by decide +kernel) ?_
              have e_6 : fX3_sign v x1 x2 = 35 := by exact Eq.trans (if_neg k1) (Eq.trans (if_neg k9) (Eq.trans (if_neg k13) (Eq.trans (if_pos k22) (Eq.trans (if_pos k30) (Eq.trans (if_pos k49) rfl)))))
              have hg : fX3_sign v x1 x2 = 35 := hg.trans (congrArg (fun z => z) e_6)
              exact eP_i hC (congrArg Value.int hg) dX3_sign_54
          · refine lv_bipush (v := 124) hC.1 hC.2.1 dX3_sign_33 (by decide +kernel) ?_
            have e_7 : fX3_sign v x1 x2 = 124 := by exact Eq.trans (if_neg k1) (Eq.trans (if_neg k9) (Eq.trans (if_neg k13) (Eq.trans (if_pos k22) (Eq.trans (if_neg k30) rfl))))
            have hg : fX3_sign v x1 x2 = 124 := hg.trans (congrArg (fun z => z) e_7)
            exact eP_i hC (congrArg Value.int hg) dX3_sign_35
        · refine lv_iconst (v := (-1)) hC.1 hC.2.1 dX3_sign_25 (by decide) ?_
          have e_8 : fX3_sign v x1 x2 = (-1) := by exact Eq.trans (if_neg k1) (Eq.trans (if_neg k9) (Eq.trans (if_neg k13) (Eq.trans (if_neg k22) rfl)))
          have hg : fX3_sign v x1 x2 = (-1) := hg.trans (congrArg (fun z => z) e_8)
          exact eP_i hC (congrArg Value.int hg) dX3_sign_26

theorem dX4_dotByDot_0 : decode cX4_dotByDot 0 = .ok (.iconst 0, 1) := by decide +kernel
theorem dX4_dotByDot_1 : decode cX4_dotByDot 1 = .ok (.istore_n 1, 1) := by decide +kernel
theorem dX4_dotByDot_2 : decode cX4_dotByDot 2 = .ok (.iconst 0, 1) := by decide +kernel
theorem dX4_dotByDot_3 : decode cX4_dotByDot 3 = .ok (.istore_n 2, 1) := by decide +kernel
theorem dX4_dotByDot_4 : decode cX4_dotByDot 4 = .ok (.iload_n 2, 1) := by decide +kernel
theorem dX4_dotByDot_5 : decode cX4_dotByDot 5 = .ok (.aload_n 0, 1) := by decide +kernel
theorem dX4_dotByDot_6 : decode cX4_dotByDot 6 = .ok (.getfield 9, 3) := by decide +kernel
theorem dX4_dotByDot_9 : decode cX4_dotByDot 9 = .ok (.arraylength, 1) := by decide +kernel
theorem dX4_dotByDot_10 : decode cX4_dotByDot 10 = .ok (.if_icmp .ge 18, 3) := by decide +kernel
theorem dX4_dotByDot_13 : decode cX4_dotByDot 13 = .ok (.iload_n 1, 1) := by decide +kernel
theorem dX4_dotByDot_14 : decode cX4_dotByDot 14 = .ok (.aload_n 0, 1) := by decide +kernel
theorem dX4_dotByDot_15 : decode cX4_dotByDot 15 = .ok (.getfield 9, 3) := by decide +kernel
theorem dX4_dotByDot_18 : decode cX4_dotByDot 18 = .ok (.iload_n 2, 1) := by decide +kernel
theorem dX4_dotByDot_19 : decode cX4_dotByDot 19 = .ok (.iaload, 1) := by decide +kernel
theorem dX4_dotByDot_20 : decode cX4_dotByDot 20 = .ok (.iadd, 1) := by decide +kernel
theorem dX4_dotByDot_21 : decode cX4_dotByDot 21 = .ok (.istore_n 1, 1) := by decide +kernel
theorem dX4_dotByDot_22 : decode cX4_dotByDot 22 = .ok (.iinc 2 1, 3) := by decide +kernel
theorem dX4_dotByDot_25 : decode cX4_dotByDot 25 = .ok (.goto (-21), 3) := by decide +kernel
theorem dX4_dotByDot_28 : decode cX4_dotByDot 28 = .ok (.iload_n 1, 1) := by decide +kernel
theorem dX4_dotByDot_29 : decode cX4_dotByDot 29 = .ok (.ireturn, 1) := by decide +kernel
set_option maxHeartbeats 1000000 in
set_option maxRecDepth 100000 in
theorem c_X4_dotByDot (l : Launch) (G : GT) (q : Nat → Nat) (v : SV) : Met l yX4_dotByDot (Cond.code yX4_dotByDot cX4_dotByDot 3 (some .int) :: bigW) ({ frames := 0, cells := 0, slots := 0, locals := 0 }) (BP G [.ref (q 8)] (fun U H => PW G (stW G q v) H)) (QP (.int (fX4_dotByDot v))) 0 0 (fun _ => False) := by
  refine met_of (by decide) (Nat.le_of_ble_eq_true rfl) ?_
  intro p e s m below meth c ls hC hKN hB0 hl
  have hP := hB0
  have hl : lv_has ls 3 [(0, .ref (q 8))] := hl
  have hg : fX4_dotByDot v = fX4_dotByDot v := rfl
  refine lv_iconst (v := 0) hC.1 hC.2.1 dX4_dotByDot_0 (by decide) ?_
  refine lv_istore_n (lv' := [(1, .int 0), (0, .ref (q 8))]) hC.1 hC.2.1 dX4_dotByDot_1 rfl hl (by decide) rfl (fun ls hl => ?_)
  refine lv_iconst (v := 0) hC.1 hC.2.1 dX4_dotByDot_2 (by decide) ?_
  refine lv_istore_n (lv' := [(2, .int 0), (1, .int 0), (0, .ref (q 8))]) hC.1 hC.2.1 dX4_dotByDot_3 rfl hl (by decide) rfl (fun ls hl => ?_)
  have A4 : ∀ (y1_4 : Int32), fX4_dotByDot v = (tX4_dotByDot_4 v y1_4) → ∀ (ls : Array Slot), lv_has ls 3 [(1, .int y1_4)] → W p l e ({ frames := 0, cells := 0, slots := 0, locals := 0 }) s m ([.ref (q 8)] : List Value).toArray below meth c s.heap [] 0 0 (MQ below (QP (.int (fX4_dotByDot v))) ([.ref (q 8)] : List Value).toArray s 0 0 (fun _ => False)) (F0 m 28 ls []) := by
    intro  y1_4 hg ls hl
    refine lv_iload_n hC.1 hC.2.1 dX4_dotByDot_28 rfl (lv_at hl 0 rfl) ?_
    have e_1 : tX4_dotByDot_4 v y1_4 = y1_4 := by exact rfl
    have hg : fX4_dotByDot v = y1_4 := hg.trans (congrArg (fun z => z) e_1)
    exact eP_i hC (congrArg Value.int hg) dX4_dotByDot_29
  have L4 : ∀ (n4 d4 : Nat), ∀ (y1_4 : Int32), d4 + n4 = 24 → fX4_dotByDot v = (tX4_dotByDot_4 v (lpF n4 d4 (bX4_dotByDot_4 v) y1_4)) → ∀ (ls : Array Slot), lv_has ls 3 [(0, .ref (q 8)), (1, .int y1_4), (2, .int (nI d4))] → W p l e ({ frames := 0, cells := 0, slots := 0, locals := 0 }) s m ([.ref (q 8)] : List Value).toArray below meth c s.heap [] 0 0 (MQ below (QP (.int (fX4_dotByDot v))) ([.ref (q 8)] : List Value).toArray s 0 0 (fun _ => False)) (F0 m 4 ls []) := by
    intro n4
    induction n4 with
    | zero =>
      intro d4 y1_4 hd hg ls hl
      refine lv_iload_n hC.1 hC.2.1 dX4_dotByDot_4 rfl (lv_at hl 2 rfl) ?_
      refine lv_aload_n hC.1 hC.2.1 dX4_dotByDot_5 rfl (lv_at hl 0 rfl) ?_
      refine gf (v := .ref (q 9)) hC fwX4 hKN hP 8 rfl rfl 0 (by decide) rfl wd_76 rfl dX4_dotByDot_6 ?_
      refine alen_n hC hKN hP 9 rfl dX4_dotByDot_9 ?_
      refine lv_icmp_ge (tgt := 28) hC.1 hC.2.1 dX4_dotByDot_10 (by decide) (fun k10 => ?_) (fun k10 => ?_)
      · exact A4  y1_4 hg _ (lv_sub hl [1] rfl)
      · exact absurd (nI_le (a := 24) (b := d4) (by omega) (by omega)) k10
    | succ n4 ih =>
      intro d4 y1_4 hd hg ls hl
      have hg : fX4_dotByDot v = (tX4_dotByDot_4 v (lpF n4 (d4 + 1) (bX4_dotByDot_4 v) (bX4_dotByDot_4 v d4 y1_4))) := hg
      refine lv_iload_n hC.1 hC.2.1 dX4_dotByDot_4 rfl (lv_at hl 2 rfl) ?_
      refine lv_aload_n hC.1 hC.2.1 dX4_dotByDot_5 rfl (lv_at hl 0 rfl) ?_
      refine gf (v := .ref (q 9)) hC fwX4 hKN hP 8 rfl rfl 0 (by decide) rfl wd_76 rfl dX4_dotByDot_6 ?_
      refine alen_n hC hKN hP 9 rfl dX4_dotByDot_9 ?_
      refine lv_icmp_ge (tgt := 28) hC.1 hC.2.1 dX4_dotByDot_10 (by decide) (fun k10 => ?_) (fun k10 => ?_)
      · exact absurd k10 (nI_ge (a := d4) (b := 24) (by omega) (by omega))
      · refine lv_iload_n hC.1 hC.2.1 dX4_dotByDot_13 rfl (lv_at hl 1 rfl) ?_
        refine lv_aload_n hC.1 hC.2.1 dX4_dotByDot_14 rfl (lv_at hl 0 rfl) ?_
        refine gf (v := .ref (q 9)) hC fwX4 hKN hP 8 rfl rfl 0 (by decide) rfl wd_76 rfl dX4_dotByDot_15 ?_
        refine lv_iload_n hC.1 hC.2.1 dX4_dotByDot_18 rfl (lv_at hl 2 rfl) ?_
        refine iald_k hC hKN hP 9 rfl (n := 24) (f := (v 6)) d4 (rfl) (by omega) (by decide) dX4_dotByDot_19 ?_
        refine lv_iadd hC.1 hC.2.1 dX4_dotByDot_20 ?_
        refine lv_istore_n (lv' := [(1, .int (y1_4 + ((v 6) d4))), (0, .ref (q 8)), (2, .int (nI d4))]) hC.1 hC.2.1 dX4_dotByDot_21 rfl hl (by decide) rfl (fun ls hl => ?_)
        refine lv_iinc (v := nI (d4 + 1)) (lv' := [(2, .int (nI (d4 + 1))), (1, .int (y1_4 + ((v 6) d4))), (0, .ref (q 8))]) hC.1 hC.2.1 dX4_dotByDot_22 hl (k := 2) rfl (nI_1 _) (by decide) rfl (fun ls hl => ?_)
        refine lv_goto (tgt := 4) hC.1 hC.2.1 dX4_dotByDot_25 (by decide) ?_
        have e_2 : bX4_dotByDot_4 v d4 y1_4 = y1_4 + ((v 6) d4) := by exact rfl
        have hg : fX4_dotByDot v = (tX4_dotByDot_4 v (lpF n4 (d4 + 1) (bX4_dotByDot_4 v) (y1_4 + ((v 6) d4)))) := hg.trans (congrArg (fun z => (tX4_dotByDot_4 v (lpF n4 (d4 + 1) (bX4_dotByDot_4 v) z))) e_2)
        exact ih (d4 + 1) (y1_4 + ((v 6) d4)) (by omega) hg _ (lv_sub hl [2, 1, 0] rfl)
  have e_3 : fX4_dotByDot v = tX4_dotByDot_4 v (lpF 24 0 (bX4_dotByDot_4 v) 0) := by exact rfl
  have hg : fX4_dotByDot v = (tX4_dotByDot_4 v (lpF 24 0 (bX4_dotByDot_4 v) 0)) := hg.trans (congrArg (fun z => z) e_3)
  exact L4  24 0 0 (by omega) hg _ (lv_sub hl [2, 1, 0] rfl)
end
section
def fX5_put (n1 : Nat) (f1 : Nat → Int32) (x2 : Int32) (x3 : Int32) : (Nat → Int32) := if x2 < 0 then (f1) else (if (nI n1) ≤ x2 then (f1) else (upd f1 x2.toNatClampNeg x3))
def tX3_pushFront_5 (f1 : Nat → Int32) (x2 : Int32) (s : (Nat → Int32)) : (Nat → Int32) := let f_5 := s; fX5_put 12 f_5 0 x2
def bX3_pushFront_5 (f1 : Nat → Int32) (x2 : Int32) (d : Nat) (s : (Nat → Int32)) : (Nat → Int32) := let f_5 := s; let w_5 : Int32 := f_5 (d - 1); upd f_5 d w_5
def fX3_pushFront (f1 : Nat → Int32) (x2 : Int32) : (Nat → Int32) := tX3_pushFront_5 f1 x2 (lpD 11 (bX3_pushFront_5 f1 x2) f1)
def tX4_addDots_2 (f1 : Nat → Int32) (x2 : Int32) (s : (Nat → Int32)) : (Nat → Int32) := let f_2 := s; f_2
def bX4_addDots_2 (f1 : Nat → Int32) (x2 : Int32) (d2 : Nat) (s : (Nat → Int32)) : (Nat → Int32) := let f_2 := s; let w_2 : Int32 := (f_2 d2) + (fX5_bitOf x2 (nI d2)); upd f_2 d2 w_2
def fX4_addDots (f1 : Nat → Int32) (x2 : Int32) : (Nat → Int32) := tX4_addDots_2 f1 x2 (lpF 24 0 (bX4_addDots_2 f1 x2) f1)
theorem dX5_put_0 : decode cX5_put 0 = .ok (.iload_n 1, 1) := by decide +kernel
theorem dX5_put_1 : decode cX5_put 1 = .ok (.ifCond .lt 13, 3) := by decide +kernel
theorem dX5_put_4 : decode cX5_put 4 = .ok (.iload_n 1, 1) := by decide +kernel
theorem dX5_put_5 : decode cX5_put 5 = .ok (.aload_n 0, 1) := by decide +kernel
theorem dX5_put_6 : decode cX5_put 6 = .ok (.arraylength, 1) := by decide +kernel
theorem dX5_put_7 : decode cX5_put 7 = .ok (.if_icmp .ge 7, 3) := by decide +kernel
theorem dX5_put_10 : decode cX5_put 10 = .ok (.aload_n 0, 1) := by decide +kernel
theorem dX5_put_11 : decode cX5_put 11 = .ok (.iload_n 1, 1) := by decide +kernel
theorem dX5_put_12 : decode cX5_put 12 = .ok (.iload_n 2, 1) := by decide +kernel
theorem dX5_put_13 : decode cX5_put 13 = .ok (.iastore, 1) := by decide +kernel
theorem dX5_put_14 : decode cX5_put 14 = .ok (.return_, 1) := by decide +kernel
set_option maxHeartbeats 1000000 in
set_option maxRecDepth 100000 in
theorem c_X5_put (l : Launch) (G : GT) (a1 : Nat) (n1 : Nat) (f1 : Nat → Int32) (x2 : Int32) (x3 : Int32) (hlow : gL G ≤ a1) : Met l yX5_put (Cond.code yX5_put cX5_put 3 none :: bigW) ({ frames := 0, cells := 0, slots := 0, locals := 0 }) (BP G [.ref a1, .int x2, .int x3] (fun U H => PW G (a1W G a1 n1 f1) H)) (QE (none) (fun H => PW G (a1W G a1 n1 (fX5_put n1 f1 x2 x3)) H) (fun z => z = a1)) 0 0 (fun z => z = a1) := by
  refine met_of (by decide) (Nat.le_of_ble_eq_true rfl) ?_
  intro p e s m below meth c ls hC hKN hB0 hl
  have hP := hB0
  have hl : lv_has ls 3 [(0, .ref a1), (1, .int x2), (2, .int x3)] := hl
  have hS : va_S (fun z => z = a1) s.heap s.heap [] := va_S.rf
  have hAL : ∀ a, (fun z => z = a1) a → gL G ≤ a := fun a h => by rw [h]; exact hlow
  have hg : fX5_put n1 f1 x2 x3 = fX5_put n1 f1 x2 x3 := rfl
  refine lv_iload_n hC.1 hC.2.1 dX5_put_0 rfl (lv_at hl 1 rfl) ?_
  refine lv_if_lt (tgt := 14) hC.1 hC.2.1 dX5_put_1 (by decide) (fun k1 => ?_) (fun k1 => ?_)
  · have e_1 : fX5_put n1 f1 x2 x3 = f1 := by exact Eq.trans (if_pos k1) rfl
    have hg : fX5_put n1 f1 x2 x3 = f1 := hg.trans (congrArg (fun z => z) e_1)
    exact eE_v hC (by show PW G (a1W G a1 n1 (fX5_put n1 f1 x2 x3)) s.heap; rw [hg]; exact hP) hS dX5_put_14
  · refine lv_iload_n hC.1 hC.2.1 dX5_put_4 rfl (lv_at hl 1 rfl) ?_
    refine lv_aload_n hC.1 hC.2.1 dX5_put_5 rfl (lv_at hl 0 rfl) ?_
    refine alen_n hC hKN hP 0 rfl dX5_put_6 ?_
    refine lv_icmp_ge (tgt := 14) hC.1 hC.2.1 dX5_put_7 (by decide) (fun k7 => ?_) (fun k7 => ?_)
    · have e_2 : fX5_put n1 f1 x2 x3 = f1 := by exact Eq.trans (if_neg k1) (Eq.trans (if_pos k7) rfl)
      have hg : fX5_put n1 f1 x2 x3 = f1 := hg.trans (congrArg (fun z => z) e_2)
      exact eE_v hC (by show PW G (a1W G a1 n1 (fX5_put n1 f1 x2 x3)) s.heap; rw [hg]; exact hP) hS dX5_put_14
    · refine lv_aload_n hC.1 hC.2.1 dX5_put_10 rfl (lv_at hl 0 rfl) ?_
      refine lv_iload_n hC.1 hC.2.1 dX5_put_11 rfl (lv_at hl 1 rfl) ?_
      refine lv_iload_n hC.1 hC.2.1 dX5_put_12 rfl (lv_at hl 2 rfl) ?_
      refine iast_i hC hKN hP (a1W_D f1) hS 0 rfl (vp_path k1 k7) dX5_put_13 (fun H locs hq_3 hS => ?_)
      have hP : PW G (a1W G a1 n1 (upd f1 x2.toNatClampNeg x3)) H := hq_3
      have e_4 : fX5_put n1 f1 x2 x3 = upd f1 x2.toNatClampNeg x3 := by exact Eq.trans (if_neg k1) (Eq.trans (if_neg k7) rfl)
      have hg : fX5_put n1 f1 x2 x3 = upd f1 x2.toNatClampNeg x3 := hg.trans (congrArg (fun z => z) e_4)
      exact eE_v hC (by show PW G (a1W G a1 n1 (fX5_put n1 f1 x2 x3)) H; rw [hg]; exact hP) hS dX5_put_14

theorem dX3_pushFront_0 : decode cX3_pushFront 0 = .ok (.aload_n 0, 1) := by decide +kernel
theorem dX3_pushFront_1 : decode cX3_pushFront 1 = .ok (.arraylength, 1) := by decide +kernel
theorem dX3_pushFront_2 : decode cX3_pushFront 2 = .ok (.iconst 1, 1) := by decide +kernel
theorem dX3_pushFront_3 : decode cX3_pushFront 3 = .ok (.isub, 1) := by decide +kernel
theorem dX3_pushFront_4 : decode cX3_pushFront 4 = .ok (.istore_n 2, 1) := by decide +kernel
theorem dX3_pushFront_5 : decode cX3_pushFront 5 = .ok (.iload_n 2, 1) := by decide +kernel
theorem dX3_pushFront_6 : decode cX3_pushFront 6 = .ok (.ifCond .le 17, 3) := by decide +kernel
theorem dX3_pushFront_9 : decode cX3_pushFront 9 = .ok (.aload_n 0, 1) := by decide +kernel
theorem dX3_pushFront_10 : decode cX3_pushFront 10 = .ok (.iload_n 2, 1) := by decide +kernel
theorem dX3_pushFront_11 : decode cX3_pushFront 11 = .ok (.aload_n 0, 1) := by decide +kernel
theorem dX3_pushFront_12 : decode cX3_pushFront 12 = .ok (.iload_n 2, 1) := by decide +kernel
theorem dX3_pushFront_13 : decode cX3_pushFront 13 = .ok (.iconst 1, 1) := by decide +kernel
theorem dX3_pushFront_14 : decode cX3_pushFront 14 = .ok (.isub, 1) := by decide +kernel
theorem dX3_pushFront_15 : decode cX3_pushFront 15 = .ok (.iaload, 1) := by decide +kernel
theorem dX3_pushFront_16 : decode cX3_pushFront 16 = .ok (.iastore, 1) := by decide +kernel
theorem dX3_pushFront_17 : decode cX3_pushFront 17 = .ok (.iinc 2 (-1), 3) := by decide +kernel
theorem dX3_pushFront_20 : decode cX3_pushFront 20 = .ok (.goto (-15), 3) := by decide +kernel
theorem dX3_pushFront_23 : decode cX3_pushFront 23 = .ok (.aload_n 0, 1) := by decide +kernel
theorem dX3_pushFront_24 : decode cX3_pushFront 24 = .ok (.iconst 0, 1) := by decide +kernel
theorem dX3_pushFront_25 : decode cX3_pushFront 25 = .ok (.iload_n 1, 1) := by decide +kernel
theorem dX3_pushFront_26 : decode cX3_pushFront 26 = .ok (.invokestatic 39, 3) := by decide +kernel
theorem dX3_pushFront_29 : decode cX3_pushFront 29 = .ok (.return_, 1) := by decide +kernel
set_option maxHeartbeats 1000000 in
set_option maxRecDepth 100000 in
theorem c_X3_pushFront (l : Launch) (G : GT) (a1 : Nat) (f1 : Nat → Int32) (x2 : Int32) (hlow : gL G ≤ a1) : Met l yX3_pushFront (Cond.code yX3_pushFront cX3_pushFront 3 none :: bigW) ({ frames := 1, cells := 0, slots := 0, locals := 22 }) (BP G [.ref a1, .int x2] (fun U H => PW G (a1W G a1 12 f1) H)) (QE (none) (fun H => PW G (a1W G a1 12 (fX3_pushFront f1 x2)) H) (fun z => z = a1)) 0 0 (fun z => z = a1) := by
  refine met_of (by decide) (Nat.le_of_ble_eq_true rfl) ?_
  intro p e s m below meth c ls hC hKN hB0 hl
  have hP := hB0
  have hl : lv_has ls 3 [(0, .ref a1), (1, .int x2)] := hl
  have hS : va_S (fun z => z = a1) s.heap s.heap [] := va_S.rf
  have hAL : ∀ a, (fun z => z = a1) a → gL G ≤ a := fun a h => by rw [h]; exact hlow
  have hg : fX3_pushFront f1 x2 = fX3_pushFront f1 x2 := rfl
  refine lv_aload_n hC.1 hC.2.1 dX3_pushFront_0 rfl (lv_at hl 0 rfl) ?_
  refine alen_n hC hKN hP 0 rfl dX3_pushFront_1 ?_
  refine lv_iconst (v := 1) hC.1 hC.2.1 dX3_pushFront_2 (by decide) ?_
  refine lv_isub hC.1 hC.2.1 dX3_pushFront_3 ?_
  rw [show (nI 12) - 1 = nI 11 from (by decide)]
  refine lv_istore_n (lv' := [(2, .int (nI 11)), (0, .ref a1), (1, .int x2)]) hC.1 hC.2.1 dX3_pushFront_4 rfl hl (by decide) rfl (fun ls hl => ?_)
  have A5 : ∀ (f_5 : Nat → Int32), fX3_pushFront f1 x2 = (tX3_pushFront_5 f1 x2 f_5) → ∀ (H : Heap) (locs : List Loc), PW G (a1W G a1 12 f_5) H → va_S (fun z => z = a1) s.heap H locs → ∀ (ls : Array Slot), lv_has ls 3 [(0, .ref a1), (1, .int x2)] → W p l e ({ frames := 1, cells := 0, slots := 0, locals := 22 }) s m ([.ref a1, .int x2] : List Value).toArray below meth c H locs 0 0 (MQ below (QE (none) (fun H => PW G (a1W G a1 12 (fX3_pushFront f1 x2)) H) (fun z => z = a1)) ([.ref a1, .int x2] : List Value).toArray s 0 0 (fun z => z = a1)) (F0 m 23 ls []) := by
    intro  f_5 hg H locs hP hS ls hl
    refine lv_aload_n hC.1 hC.2.1 dX3_pushFront_23 rfl (lv_at hl 0 rfl) ?_
    refine lv_iconst (v := 0) hC.1 hC.2.1 dX3_pushFront_24 (by decide) ?_
    refine lv_iload_n hC.1 hC.2.1 dX3_pushFront_25 rfl (lv_at hl 1 rfl) ?_
    refine runE (rSN (B := fun U H => PW G (a1W G a1 12 f_5) H) (As := [.ref a1, .int 0, .int x2]) (rest := []) hC mwX5_put (c_X5_put l G a1 12 f_5 0 x2 hlow) wd_492 (nm_10 (hKN.go hAL hS)) ⟨rfl, rfl⟩ ⟨Nat.le_of_ble_eq_true rfl, Nat.le_of_ble_eq_true rfl⟩ (stb_h (fun H => PW G (a1W G a1 12 f_5) H)) (hKN.go hAL hS) hP rfl hl.1 rfl (Nat.le_of_ble_eq_true rfl) dX3_pushFront_26 ⟨Nat.zero_le _, Nat.zero_le _⟩) hS (fun _ h => h) (fun _ h => h) (fun H locs hq_1 _ hk_3 hS => ?_)
    have hP : PW G (a1W G a1 12 (fX5_put 12 f_5 0 x2)) H := hq_1
    have e_4 : tX3_pushFront_5 f1 x2 f_5 = fX5_put 12 f_5 0 x2 := by exact rfl
    have hg : fX3_pushFront f1 x2 = fX5_put 12 f_5 0 x2 := hg.trans (congrArg (fun z => z) e_4)
    exact eE_v hC (by show PW G (a1W G a1 12 (fX3_pushFront f1 x2)) H; rw [hg]; exact hP) hS dX3_pushFront_29
  have L5 : ∀ (n5 : Nat), ∀ (f_5 : Nat → Int32), n5 ≤ 11 → fX3_pushFront f1 x2 = (tX3_pushFront_5 f1 x2 (lpD n5 (bX3_pushFront_5 f1 x2) f_5)) → ∀ (H : Heap) (locs : List Loc), PW G (a1W G a1 12 f_5) H → va_S (fun z => z = a1) s.heap H locs → ∀ (ls : Array Slot), lv_has ls 3 [(0, .ref a1), (1, .int x2), (2, .int (nI n5))] → W p l e ({ frames := 1, cells := 0, slots := 0, locals := 22 }) s m ([.ref a1, .int x2] : List Value).toArray below meth c H locs 0 0 (MQ below (QE (none) (fun H => PW G (a1W G a1 12 (fX3_pushFront f1 x2)) H) (fun z => z = a1)) ([.ref a1, .int x2] : List Value).toArray s 0 0 (fun z => z = a1)) (F0 m 5 ls []) := by
    intro n5
    induction n5 with
    | zero =>
      intro f_5 hd hg H locs hP hS ls hl
      refine lv_iload_n hC.1 hC.2.1 dX3_pushFront_5 rfl (lv_at hl 2 rfl) ?_
      refine lv_if_le (tgt := 23) hC.1 hC.2.1 dX3_pushFront_6 (by decide) (fun k6 => ?_) (fun k6 => ?_)
      · exact A5  f_5 hg _ _ hP hS _ (lv_sub hl [0, 1] rfl)
      · exact absurd (by decide) k6
    | succ n5 ih =>
      intro f_5 hd hg H locs hP hS ls hl
      have hg : fX3_pushFront f1 x2 = (tX3_pushFront_5 f1 x2 (lpD n5 (bX3_pushFront_5 f1 x2) (bX3_pushFront_5 f1 x2 (n5 + 1) f_5))) := hg
      refine lv_iload_n hC.1 hC.2.1 dX3_pushFront_5 rfl (lv_at hl 2 rfl) ?_
      refine lv_if_le (tgt := 23) hC.1 hC.2.1 dX3_pushFront_6 (by decide) (fun k6 => ?_) (fun k6 => ?_)
      · exact absurd k6 (nI_nle (by omega) (by omega))
      · refine lv_aload_n hC.1 hC.2.1 dX3_pushFront_9 rfl (lv_at hl 0 rfl) ?_
        refine lv_iload_n hC.1 hC.2.1 dX3_pushFront_10 rfl (lv_at hl 2 rfl) ?_
        refine lv_aload_n hC.1 hC.2.1 dX3_pushFront_11 rfl (lv_at hl 0 rfl) ?_
        refine lv_iload_n hC.1 hC.2.1 dX3_pushFront_12 rfl (lv_at hl 2 rfl) ?_
        refine lv_iconst (v := 1) hC.1 hC.2.1 dX3_pushFront_13 (by decide) ?_
        refine lv_isub hC.1 hC.2.1 dX3_pushFront_14 ?_
        refine iald_k hC (hKN.go hAL hS) hP 0 rfl (n := 12) (f := f_5) ((n5 + 1) - 1) (nE_sub (rfl) (rfl) (by omega)) (by omega) (by decide) dX3_pushFront_15 ?_
        refine lv_topi (fun w_5 ew_5 => ?_)
        refine iast_k hC (hKN.go hAL hS) hP (a1W_D f_5) hS 0 rfl (n := 12) (f := f_5) (n5 + 1) (rfl) (by omega) (by decide) dX3_pushFront_16 (fun H locs hq_6 hS => ?_)
        have hP : PW G (a1W G a1 12 (upd f_5 (n5 + 1) w_5)) H := hq_6
        refine lv_iinc (v := nI n5) (lv' := [(2, .int (nI n5)), (0, .ref a1), (1, .int x2)]) hC.1 hC.2.1 dX3_pushFront_17 hl (k := 2) rfl (pk_m1 _) (by decide) rfl (fun ls hl => ?_)
        refine lv_goto (tgt := 5) hC.1 hC.2.1 dX3_pushFront_20 (by decide) ?_
        have e_7 : bX3_pushFront_5 f1 x2 (n5 + 1) f_5 = upd f_5 (n5 + 1) w_5 := by subst ew_5; exact rfl
        have hg : fX3_pushFront f1 x2 = (tX3_pushFront_5 f1 x2 (lpD n5 (bX3_pushFront_5 f1 x2) (upd f_5 (n5 + 1) w_5))) := hg.trans (congrArg (fun z => (tX3_pushFront_5 f1 x2 (lpD n5 (bX3_pushFront_5 f1 x2) z))) e_7)
        exact ih (upd f_5 (n5 + 1) w_5) (by omega) hg _ _ hP hS _ (lv_sub hl [1, 2, 0] rfl)
  have e_8 : fX3_pushFront f1 x2 = tX3_pushFront_5 f1 x2 (lpD 11 (bX3_pushFront_5 f1 x2) f1) := by exact rfl
  have hg : fX3_pushFront f1 x2 = (tX3_pushFront_5 f1 x2 (lpD 11 (bX3_pushFront_5 f1 x2) f1)) := hg.trans (congrArg (fun z => z) e_8)
  exact L5  11 f1 (Nat.le_refl _) hg _ _ hP hS _ (lv_sub hl [1, 2, 0] rfl)

theorem dX4_addDots_0 : decode cX4_addDots 0 = .ok (.iconst 0, 1) := by decide +kernel
theorem dX4_addDots_1 : decode cX4_addDots 1 = .ok (.istore_n 2, 1) := by decide +kernel
theorem dX4_addDots_2 : decode cX4_addDots 2 = .ok (.iload_n 2, 1) := by decide +kernel
theorem dX4_addDots_3 : decode cX4_addDots 3 = .ok (.aload_n 0, 1) := by decide +kernel
theorem dX4_addDots_4 : decode cX4_addDots 4 = .ok (.arraylength, 1) := by decide +kernel
theorem dX4_addDots_5 : decode cX4_addDots 5 = .ok (.if_icmp .ge 20, 3) := by decide +kernel
theorem dX4_addDots_8 : decode cX4_addDots 8 = .ok (.aload_n 0, 1) := by decide +kernel
theorem dX4_addDots_9 : decode cX4_addDots 9 = .ok (.iload_n 2, 1) := by decide +kernel
theorem dX4_addDots_10 : decode cX4_addDots 10 = .ok (.dup2, 1) := by decide +kernel
theorem dX4_addDots_11 : decode cX4_addDots 11 = .ok (.iaload, 1) := by decide +kernel
theorem dX4_addDots_12 : decode cX4_addDots 12 = .ok (.iload_n 1, 1) := by decide +kernel
theorem dX4_addDots_13 : decode cX4_addDots 13 = .ok (.iload_n 2, 1) := by decide +kernel
theorem dX4_addDots_14 : decode cX4_addDots 14 = .ok (.invokestatic 54, 3) := by decide +kernel
theorem dX4_addDots_17 : decode cX4_addDots 17 = .ok (.iadd, 1) := by decide +kernel
theorem dX4_addDots_18 : decode cX4_addDots 18 = .ok (.iastore, 1) := by decide +kernel
theorem dX4_addDots_19 : decode cX4_addDots 19 = .ok (.iinc 2 1, 3) := by decide +kernel
theorem dX4_addDots_22 : decode cX4_addDots 22 = .ok (.goto (-20), 3) := by decide +kernel
theorem dX4_addDots_25 : decode cX4_addDots 25 = .ok (.return_, 1) := by decide +kernel
set_option maxHeartbeats 1000000 in
set_option maxRecDepth 100000 in
theorem c_X4_addDots (l : Launch) (G : GT) (a1 : Nat) (f1 : Nat → Int32) (x2 : Int32) (hlow : gL G ≤ a1) : Met l yX4_addDots (Cond.code yX4_addDots cX4_addDots 3 none :: bigW) ({ frames := 1, cells := 0, slots := 0, locals := 21 }) (BP G [.ref a1, .int x2] (fun U H => PW G (a1W G a1 24 f1) H)) (QE (none) (fun H => PW G (a1W G a1 24 (fX4_addDots f1 x2)) H) (fun z => z = a1)) 0 0 (fun z => z = a1) := by
  refine met_of (by decide) (Nat.le_of_ble_eq_true rfl) ?_
  intro p e s m below meth c ls hC hKN hB0 hl
  have hP := hB0
  have hl : lv_has ls 3 [(0, .ref a1), (1, .int x2)] := hl
  have hS : va_S (fun z => z = a1) s.heap s.heap [] := va_S.rf
  have hAL : ∀ a, (fun z => z = a1) a → gL G ≤ a := fun a h => by rw [h]; exact hlow
  have hg : fX4_addDots f1 x2 = fX4_addDots f1 x2 := rfl
  refine lv_iconst (v := 0) hC.1 hC.2.1 dX4_addDots_0 (by decide) ?_
  refine lv_istore_n (lv' := [(2, .int 0), (0, .ref a1), (1, .int x2)]) hC.1 hC.2.1 dX4_addDots_1 rfl hl (by decide) rfl (fun ls hl => ?_)
  have A2 : ∀ (f_2 : Nat → Int32), fX4_addDots f1 x2 = (tX4_addDots_2 f1 x2 f_2) → ∀ (H : Heap) (locs : List Loc), PW G (a1W G a1 24 f_2) H → va_S (fun z => z = a1) s.heap H locs → ∀ (ls : Array Slot), lv_has ls 3 [] → W p l e ({ frames := 1, cells := 0, slots := 0, locals := 21 }) s m ([.ref a1, .int x2] : List Value).toArray below meth c H locs 0 0 (MQ below (QE (none) (fun H => PW G (a1W G a1 24 (fX4_addDots f1 x2)) H) (fun z => z = a1)) ([.ref a1, .int x2] : List Value).toArray s 0 0 (fun z => z = a1)) (F0 m 25 ls []) := by
    intro  f_2 hg H locs hP hS ls hl
    have e_1 : tX4_addDots_2 f1 x2 f_2 = f_2 := by exact rfl
    have hg : fX4_addDots f1 x2 = f_2 := hg.trans (congrArg (fun z => z) e_1)
    exact eE_v hC (by show PW G (a1W G a1 24 (fX4_addDots f1 x2)) H; rw [hg]; exact hP) hS dX4_addDots_25
  have L2 : ∀ (n2 d2 : Nat), ∀ (f_2 : Nat → Int32), d2 + n2 = 24 → fX4_addDots f1 x2 = (tX4_addDots_2 f1 x2 (lpF n2 d2 (bX4_addDots_2 f1 x2) f_2)) → ∀ (H : Heap) (locs : List Loc), PW G (a1W G a1 24 f_2) H → va_S (fun z => z = a1) s.heap H locs → ∀ (ls : Array Slot), lv_has ls 3 [(0, .ref a1), (1, .int x2), (2, .int (nI d2))] → W p l e ({ frames := 1, cells := 0, slots := 0, locals := 21 }) s m ([.ref a1, .int x2] : List Value).toArray below meth c H locs 0 0 (MQ below (QE (none) (fun H => PW G (a1W G a1 24 (fX4_addDots f1 x2)) H) (fun z => z = a1)) ([.ref a1, .int x2] : List Value).toArray s 0 0 (fun z => z = a1)) (F0 m 2 ls []) := by
    intro n2
    induction n2 with
    | zero =>
      intro d2 f_2 hd hg H locs hP hS ls hl
      refine lv_iload_n hC.1 hC.2.1 dX4_addDots_2 rfl (lv_at hl 2 rfl) ?_
      refine lv_aload_n hC.1 hC.2.1 dX4_addDots_3 rfl (lv_at hl 0 rfl) ?_
      refine alen_n hC (hKN.go hAL hS) hP 0 rfl dX4_addDots_4 ?_
      refine lv_icmp_ge (tgt := 25) hC.1 hC.2.1 dX4_addDots_5 (by decide) (fun k5 => ?_) (fun k5 => ?_)
      · exact A2  f_2 hg _ _ hP hS _ (lv_sub hl [] rfl)
      · exact absurd (nI_le (a := 24) (b := d2) (by omega) (by omega)) k5
    | succ n2 ih =>
      intro d2 f_2 hd hg H locs hP hS ls hl
      have hg : fX4_addDots f1 x2 = (tX4_addDots_2 f1 x2 (lpF n2 (d2 + 1) (bX4_addDots_2 f1 x2) (bX4_addDots_2 f1 x2 d2 f_2))) := hg
      refine lv_iload_n hC.1 hC.2.1 dX4_addDots_2 rfl (lv_at hl 2 rfl) ?_
      refine lv_aload_n hC.1 hC.2.1 dX4_addDots_3 rfl (lv_at hl 0 rfl) ?_
      refine alen_n hC (hKN.go hAL hS) hP 0 rfl dX4_addDots_4 ?_
      refine lv_icmp_ge (tgt := 25) hC.1 hC.2.1 dX4_addDots_5 (by decide) (fun k5 => ?_) (fun k5 => ?_)
      · exact absurd k5 (nI_ge (a := d2) (b := 24) (by omega) (by omega))
      · refine lv_aload_n hC.1 hC.2.1 dX4_addDots_8 rfl (lv_at hl 0 rfl) ?_
        refine lv_iload_n hC.1 hC.2.1 dX4_addDots_9 rfl (lv_at hl 2 rfl) ?_
        refine lv_dup2_11 hC.1 hC.2.1 dX4_addDots_10 rfl rfl ?_
        refine iald_k hC (hKN.go hAL hS) hP 0 rfl (n := 24) (f := f_2) d2 (rfl) (by omega) (by decide) dX4_addDots_11 ?_
        refine lv_iload_n hC.1 hC.2.1 dX4_addDots_12 rfl (lv_at hl 1 rfl) ?_
        refine lv_iload_n hC.1 hC.2.1 dX4_addDots_13 rfl (lv_at hl 2 rfl) ?_
        refine runP (rSN (B := fun U H => True) (As := [.int x2, .int (nI d2)]) (rest := [.int (f_2 d2), .int (nI d2), .ref a1]) hC mwX5_bitOf (c_X5_bitOf l G x2 (nI d2)) wd_433 (nm_11 (hKN.go hAL hS)) ⟨rfl, rfl⟩ ⟨Nat.le_of_ble_eq_true rfl, Nat.le_of_ble_eq_true rfl⟩ (fun _ _ _ _ h => h) (hKN.go hAL hS) trivial rfl hl.1 rfl (Nat.le_of_ble_eq_true rfl) dX4_addDots_14 ⟨Nat.zero_le _, Nat.zero_le _⟩) ?_
        refine lv_iadd hC.1 hC.2.1 dX4_addDots_17 ?_
        refine lv_topi (fun w_2 ew_2 => ?_)
        refine iast_k hC (hKN.go hAL hS) hP (a1W_D f_2) hS 0 rfl (n := 24) (f := f_2) d2 (rfl) (by omega) (by decide) dX4_addDots_18 (fun H locs hq_3 hS => ?_)
        have hP : PW G (a1W G a1 24 (upd f_2 d2 w_2)) H := hq_3
        refine lv_iinc (v := nI (d2 + 1)) (lv' := [(2, .int (nI (d2 + 1))), (0, .ref a1), (1, .int x2)]) hC.1 hC.2.1 dX4_addDots_19 hl (k := 2) rfl (nI_1 _) (by decide) rfl (fun ls hl => ?_)
        refine lv_goto (tgt := 2) hC.1 hC.2.1 dX4_addDots_22 (by decide) ?_
        have e_4 : bX4_addDots_2 f1 x2 d2 f_2 = upd f_2 d2 w_2 := by subst ew_2; exact rfl
        have hg : fX4_addDots f1 x2 = (tX4_addDots_2 f1 x2 (lpF n2 (d2 + 1) (bX4_addDots_2 f1 x2) (upd f_2 d2 w_2))) := hg.trans (congrArg (fun z => (tX4_addDots_2 f1 x2 (lpF n2 (d2 + 1) (bX4_addDots_2 f1 x2) z))) e_4)
        exact ih (d2 + 1) (upd f_2 d2 w_2) (by omega) hg _ _ hP hS _ (lv_sub hl [1, 2, 0] rfl)
  have e_5 : fX4_addDots f1 x2 = tX4_addDots_2 f1 x2 (lpF 24 0 (bX4_addDots_2 f1 x2) f1) := by exact rfl
  have hg : fX4_addDots f1 x2 = (tX4_addDots_2 f1 x2 (lpF 24 0 (bX4_addDots_2 f1 x2) f1)) := hg.trans (congrArg (fun z => z) e_5)
  exact L2  24 0 f1 (by omega) hg _ _ hP hS _ (lv_sub hl [1, 2, 0] rfl)
end
section
def tX2_preparePulses_11 (v : SV) (x1 : Int32) (y2_11 : Int32) (s : SV) : SV := let v_11 := s; v_11
def bX2_preparePulses_11 (v : SV) (x1 : Int32) (y2_11 : Int32) (d11 : Nat) (s : SV) : SV := let v_11 := s; let w_2 : Int32 := fX2_pulseIn v_11 x1 (nI d11) y2_11; mkS (v_11 0) (upd (v_11 1) d11 w_2) (v_11 2) (v_11 3) (v_11 4) (v_11 5) (v_11 6) (v_11 7) (v_11 8 0) (v_11 8 1) (v_11 8 2) (v_11 8 3) (v_11 8 4) (v_11 8 5) (v_11 8 6) (v_11 8 7) (v_11 8 8) (v_11 8 9) (v_11 8 10)
def fX2_preparePulses (v : SV) (x1 : Int32) : SV := tX2_preparePulses_11 v x1 (fX5_at 7 (v 2) 0) (lpF 24 0 (bX2_preparePulses_11 v x1 (fX5_at 7 (v 2) 0)) v)
def tX2_heatPart_4 (v : SV) (x1 : Int32) (s : Int32 × SV) : SV × Int32 := let y2_4 := s.1; let v_4 := s.2; (v_4, y2_4)
def bX2_heatPart_4 (v : SV) (x1 : Int32) (d4 : Nat) (s : Int32 × SV) : Int32 × SV := let y2_4 := s.1; let v_4 := s.2; if (fX5_bitOf x1 (nI d4)) = 1 then (let w_3 : Int32 := ((v_4 0) d4) + (fX5_at 24 (v_4 1) (nI d4)); let w_5 : Int32 := (if (v_4 8 7) < ((upd (v_4 0) d4 w_3) d4) then ((upd (v_4 0) d4 w_3) d4) else (v_4 8 7)); if (fX2_isDark (mkS (upd (v_4 0) d4 w_3) (v_4 1) (v_4 2) (v_4 3) (v_4 4) (v_4 5) (v_4 6) (v_4 7) (v_4 8 0) (v_4 8 1) (v_4 8 2) (v_4 8 3) (v_4 8 4) (v_4 8 5) (v_4 8 6) w_5 (v_4 8 8) (v_4 8 9) (v_4 8 10)) ((upd (v_4 0) d4 w_3) d4)) = 0 then ((y2_4 ||| 0, mkS (upd (v_4 0) d4 w_3) (v_4 1) (v_4 2) (v_4 3) (v_4 4) (v_4 5) (v_4 6) (v_4 7) (v_4 8 0) (v_4 8 1) (v_4 8 2) (v_4 8 3) (v_4 8 4) (v_4 8 5) (v_4 8 6) w_5 (v_4 8 8) (v_4 8 9) (v_4 8 10))) else ((y2_4 ||| (1 <<< ((nI d4) &&& 31)), mkS (upd (v_4 0) d4 w_3) (v_4 1) (v_4 2) (v_4 3) (v_4 4) (v_4 5) (v_4 6) (v_4 7) (v_4 8 0) (v_4 8 1) (v_4 8 2) (v_4 8 3) (v_4 8 4) (v_4 8 5) (v_4 8 6) w_5 (v_4 8 8) (v_4 8 9) (v_4 8 10)))) else ((y2_4, v_4))
def fX2_heatPart (v : SV) (x1 : Int32) : SV × Int32 := tX2_heatPart_4 v x1 (lpF 24 0 (bX2_heatPart_4 v x1) (0, v))
def tX2_passTime_2 (v : SV) (x1 : Int32) (s : SV) : SV := let v_2 := s; let w_1 : Int32 := (v_2 8 1) + x1; mkS (v_2 0) (v_2 1) (v_2 2) (v_2 3) (v_2 4) (v_2 5) (v_2 6) (v_2 7) (v_2 8 0) w_1 (v_2 8 2) (v_2 8 3) (v_2 8 4) (v_2 8 5) (v_2 8 6) (v_2 8 7) (v_2 8 8) (v_2 8 9) (v_2 8 10)
def bX2_passTime_2 (v : SV) (x1 : Int32) (d2 : Nat) (s : SV) : SV := let v_2 := s; let w_4 : Int32 := fX2_cooledFor v_2 ((v_2 0) d2) x1; mkS (upd (v_2 0) d2 w_4) (v_2 1) (v_2 2) (v_2 3) (v_2 4) (v_2 5) (v_2 6) (v_2 7) (v_2 8 0) (v_2 8 1) (v_2 8 2) (v_2 8 3) (v_2 8 4) (v_2 8 5) (v_2 8 6) (v_2 8 7) (v_2 8 8) (v_2 8 9) (v_2 8 10)
def fX2_passTime (v : SV) (x1 : Int32) : SV := tX2_passTime_2 v x1 (lpF 24 0 (bX2_passTime_2 v x1) v)
def fX2_changePaper (v : SV) (x1 : Int32) : SV := mkS (v 0) (v 1) (v 2) (v 3) (v 4) (v 5) (v 6) (v 7) 0 (v 8 1) (v 8 2) (v 8 3) (v 8 4) (v 8 5) (v 8 6) (v 8 7) (v 8 8) (v 8 9) x1
def fX2_changeSetting (v : SV) (x1 : Int32) (x2 : Int32) : SV := mkS (v 0) (v 1) (fX5_put 7 (v 2) x1 x2) (v 3) (v 4) (v 5) (v 6) (v 7) (v 8 0) (v 8 1) (v 8 2) (v 8 3) (v 8 4) (v 8 5) (v 8 6) (v 8 7) (v 8 8) (v 8 9) (v 8 10)
theorem dX2_preparePulses_0 : decode cX2_preparePulses 0 = .ok (.aload_n 0, 1) := by decide +kernel
theorem dX2_preparePulses_1 : decode cX2_preparePulses 1 = .ok (.getfield 21, 3) := by decide +kernel
theorem dX2_preparePulses_4 : decode cX2_preparePulses 4 = .ok (.iconst 0, 1) := by decide +kernel
theorem dX2_preparePulses_5 : decode cX2_preparePulses 5 = .ok (.invokestatic 59, 3) := by decide +kernel
theorem dX2_preparePulses_8 : decode cX2_preparePulses 8 = .ok (.istore_n 2, 1) := by decide +kernel
theorem dX2_preparePulses_9 : decode cX2_preparePulses 9 = .ok (.iconst 0, 1) := by decide +kernel
theorem dX2_preparePulses_10 : decode cX2_preparePulses 10 = .ok (.istore_n 3, 1) := by decide +kernel
theorem dX2_preparePulses_11 : decode cX2_preparePulses 11 = .ok (.iload_n 3, 1) := by decide +kernel
theorem dX2_preparePulses_12 : decode cX2_preparePulses 12 = .ok (.aload_n 0, 1) := by decide +kernel
theorem dX2_preparePulses_13 : decode cX2_preparePulses 13 = .ok (.getfield 15, 3) := by decide +kernel
theorem dX2_preparePulses_16 : decode cX2_preparePulses 16 = .ok (.arraylength, 1) := by decide +kernel
theorem dX2_preparePulses_17 : decode cX2_preparePulses 17 = .ok (.if_icmp .ge 22, 3) := by decide +kernel
theorem dX2_preparePulses_20 : decode cX2_preparePulses 20 = .ok (.aload_n 0, 1) := by decide +kernel
theorem dX2_preparePulses_21 : decode cX2_preparePulses 21 = .ok (.getfield 15, 3) := by decide +kernel
theorem dX2_preparePulses_24 : decode cX2_preparePulses 24 = .ok (.iload_n 3, 1) := by decide +kernel
theorem dX2_preparePulses_25 : decode cX2_preparePulses 25 = .ok (.aload_n 0, 1) := by decide +kernel
theorem dX2_preparePulses_26 : decode cX2_preparePulses 26 = .ok (.iload_n 1, 1) := by decide +kernel
theorem dX2_preparePulses_27 : decode cX2_preparePulses 27 = .ok (.iload_n 3, 1) := by decide +kernel
theorem dX2_preparePulses_28 : decode cX2_preparePulses 28 = .ok (.iload_n 2, 1) := by decide +kernel
theorem dX2_preparePulses_29 : decode cX2_preparePulses 29 = .ok (.invokevirtual 120, 3) := by decide +kernel
theorem dX2_preparePulses_32 : decode cX2_preparePulses 32 = .ok (.iastore, 1) := by decide +kernel
theorem dX2_preparePulses_33 : decode cX2_preparePulses 33 = .ok (.iinc 3 1, 3) := by decide +kernel
theorem dX2_preparePulses_36 : decode cX2_preparePulses 36 = .ok (.goto (-25), 3) := by decide +kernel
theorem dX2_preparePulses_39 : decode cX2_preparePulses 39 = .ok (.return_, 1) := by decide +kernel
set_option maxHeartbeats 1000000 in
set_option maxRecDepth 100000 in
theorem c_X2_preparePulses (l : Launch) (G : GT) (q : Nat → Nat) (v : SV) (x1 : Int32) (hq : stD G q) : Met l yX2_preparePulses (Cond.code yX2_preparePulses cX2_preparePulses 4 none :: bigW) ({ frames := 2, cells := 0, slots := 0, locals := 48 }) (BP G [.ref (q 0), .int x1] (fun U H => PW G (stW G q v) H)) (QE (none) (fun H => PW G (stW G q (fX2_preparePulses v x1)) H) (stA q)) 0 0 (stA q) := by
  refine met_of (by decide) (Nat.le_of_ble_eq_true rfl) ?_
  intro p e s m below meth c ls hC hKN hB0 hl
  have hP := hB0
  have hl : lv_has ls 4 [(0, .ref (q 0)), (1, .int x1)] := hl
  have hS : va_S (stA q) s.heap s.heap [] := va_S.rf
  have hAL : ∀ a, (stA q) a → gL G ≤ a := stD_low hq
  have hg : fX2_preparePulses v x1 = fX2_preparePulses v x1 := rfl
  refine lv_aload_n hC.1 hC.2.1 dX2_preparePulses_0 rfl (lv_at hl 0 rfl) ?_
  refine gf (v := .ref (q 3)) hC fwX2 hKN hP 0 rfl rfl 2 (by decide) rfl wd_118 rfl dX2_preparePulses_1 ?_
  refine lv_iconst (v := 0) hC.1 hC.2.1 dX2_preparePulses_4 (by decide) ?_
  refine runP (rSN (B := fun U H => RD (q 3) 7 (v 2) U H) (As := [.ref (q 3), .int 0]) (rest := []) hC mwX5_at (c_X5_at l G (q 3) 7 (v 2) 0) wd_249 (nm_5 hKN) ⟨rfl, rfl⟩ ⟨Nat.le_of_ble_eq_true rfl, Nat.le_of_ble_eq_true rfl⟩ (stb_RD _ _ _) hKN (RD.ofP hKN hP 3 rfl) rfl hl.1 rfl (Nat.le_of_ble_eq_true rfl) dX2_preparePulses_5 ⟨Nat.zero_le _, Nat.zero_le _⟩) ?_
  refine lv_istore_n (lv' := [(2, .int (fX5_at 7 (v 2) 0)), (0, .ref (q 0)), (1, .int x1)]) hC.1 hC.2.1 dX2_preparePulses_8 rfl hl (by decide) rfl (fun ls hl => ?_)
  refine lv_iconst (v := 0) hC.1 hC.2.1 dX2_preparePulses_9 (by decide) ?_
  refine lv_istore_n (lv' := [(3, .int 0), (2, .int (fX5_at 7 (v 2) 0)), (0, .ref (q 0)), (1, .int x1)]) hC.1 hC.2.1 dX2_preparePulses_10 rfl hl (by decide) rfl (fun ls hl => ?_)
  have A11 : ∀ (y2_11 : Int32), ∀ (v_11 : SV), fX2_preparePulses v x1 = (tX2_preparePulses_11 v x1 y2_11 v_11) → ∀ (H : Heap) (locs : List Loc), PW G (stW G q v_11) H → va_S (stA q) s.heap H locs → ∀ (ls : Array Slot), lv_has ls 4 [] → W p l e ({ frames := 2, cells := 0, slots := 0, locals := 48 }) s m ([.ref (q 0), .int x1] : List Value).toArray below meth c H locs 0 0 (MQ below (QE (none) (fun H => PW G (stW G q (fX2_preparePulses v x1)) H) (stA q)) ([.ref (q 0), .int x1] : List Value).toArray s 0 0 (stA q)) (F0 m 39 ls []) := by
    intro y2_11 v_11 hg H locs hP hS ls hl
    have e_1 : tX2_preparePulses_11 v x1 y2_11 v_11 = v_11 := by exact rfl
    have hg : fX2_preparePulses v x1 = v_11 := hg.trans (congrArg (fun z => z) e_1)
    exact eE_v hC (by show PW G (stW G q (fX2_preparePulses v x1)) H; rw [hg]; exact hP) hS dX2_preparePulses_39
  have L11 : ∀ (y2_11 : Int32), ∀ (n11 d11 : Nat), ∀ (v_11 : SV), d11 + n11 = 24 → fX2_preparePulses v x1 = (tX2_preparePulses_11 v x1 y2_11 (lpF n11 d11 (bX2_preparePulses_11 v x1 y2_11) v_11)) → ∀ (H : Heap) (locs : List Loc), PW G (stW G q v_11) H → va_S (stA q) s.heap H locs → ∀ (ls : Array Slot), lv_has ls 4 [(0, .ref (q 0)), (1, .int x1), (2, .int y2_11), (3, .int (nI d11))] → W p l e ({ frames := 2, cells := 0, slots := 0, locals := 48 }) s m ([.ref (q 0), .int x1] : List Value).toArray below meth c H locs 0 0 (MQ below (QE (none) (fun H => PW G (stW G q (fX2_preparePulses v x1)) H) (stA q)) ([.ref (q 0), .int x1] : List Value).toArray s 0 0 (stA q)) (F0 m 11 ls []) := by
    intro y2_11
    intro n11
    induction n11 with
    | zero =>
      intro d11 v_11 hd hg H locs hP hS ls hl
      refine lv_iload_n hC.1 hC.2.1 dX2_preparePulses_11 rfl (lv_at hl 3 rfl) ?_
      refine lv_aload_n hC.1 hC.2.1 dX2_preparePulses_12 rfl (lv_at hl 0 rfl) ?_
      refine gf (v := .ref (q 2)) hC fwX2 (hKN.go hAL hS) hP 0 rfl rfl 1 (by decide) rfl wd_117 rfl dX2_preparePulses_13 ?_
      refine alen_n hC (hKN.go hAL hS) hP 2 rfl dX2_preparePulses_16 ?_
      refine lv_icmp_ge (tgt := 39) hC.1 hC.2.1 dX2_preparePulses_17 (by decide) (fun k17 => ?_) (fun k17 => ?_)
      · exact A11 y2_11 v_11 hg _ _ hP hS _ (lv_sub hl [] rfl)
      · exact absurd (nI_le (a := 24) (b := d11) (by omega) (by omega)) k17
    | succ n11 ih =>
      intro d11 v_11 hd hg H locs hP hS ls hl
      have hg : fX2_preparePulses v x1 = (tX2_preparePulses_11 v x1 y2_11 (lpF n11 (d11 + 1) (bX2_preparePulses_11 v x1 y2_11) (bX2_preparePulses_11 v x1 y2_11 d11 v_11))) := hg
      refine lv_iload_n hC.1 hC.2.1 dX2_preparePulses_11 rfl (lv_at hl 3 rfl) ?_
      refine lv_aload_n hC.1 hC.2.1 dX2_preparePulses_12 rfl (lv_at hl 0 rfl) ?_
      refine gf (v := .ref (q 2)) hC fwX2 (hKN.go hAL hS) hP 0 rfl rfl 1 (by decide) rfl wd_117 rfl dX2_preparePulses_13 ?_
      refine alen_n hC (hKN.go hAL hS) hP 2 rfl dX2_preparePulses_16 ?_
      refine lv_icmp_ge (tgt := 39) hC.1 hC.2.1 dX2_preparePulses_17 (by decide) (fun k17 => ?_) (fun k17 => ?_)
      · exact absurd k17 (nI_ge (a := d11) (b := 24) (by omega) (by omega))
      · refine lv_aload_n hC.1 hC.2.1 dX2_preparePulses_20 rfl (lv_at hl 0 rfl) ?_
        refine gf (v := .ref (q 2)) hC fwX2 (hKN.go hAL hS) hP 0 rfl rfl 1 (by decide) rfl wd_117 rfl dX2_preparePulses_21 ?_
        refine lv_iload_n hC.1 hC.2.1 dX2_preparePulses_24 rfl (lv_at hl 3 rfl) ?_
        refine lv_aload_n hC.1 hC.2.1 dX2_preparePulses_25 rfl (lv_at hl 0 rfl) ?_
        refine lv_iload_n hC.1 hC.2.1 dX2_preparePulses_26 rfl (lv_at hl 1 rfl) ?_
        refine lv_iload_n hC.1 hC.2.1 dX2_preparePulses_27 rfl (lv_at hl 3 rfl) ?_
        refine lv_iload_n hC.1 hC.2.1 dX2_preparePulses_28 rfl (lv_at hl 2 rfl) ?_
        refine runP (rV (B := fun U H => PW G (stW G q v_11) H) (As := [.int x1, .int (nI d11), .int y2_11]) (rest := [.int (nI d11), .ref (q 2)]) hC mwX2_pulseIn (c_X2_pulseIn l G q v_11 x1 (nI d11) y2_11) iwX2_pulseIn wd_439 ⟨rfl, rfl⟩ ⟨Nat.le_of_ble_eq_true rfl, Nat.le_of_ble_eq_true rfl⟩ (stb_h (fun H => PW G (stW G q v_11) H)) (hKN.go hAL hS) hP (va_recv (hKN.go hAL hS).k hP (ci := 2) (q0 := 0) rfl rfl) rfl hl.1 rfl (Nat.le_of_ble_eq_true rfl) dX2_preparePulses_29 ⟨Nat.zero_le _, Nat.zero_le _⟩) ?_
        refine lv_topi (fun w_2 ew_2 => ?_)
        refine iast_k hC (hKN.go hAL hS) hP (stD_D hq v_11) hS 2 rfl (n := 24) (f := (v_11 1)) d11 (rfl) (by omega) (by decide) dX2_preparePulses_32 (fun H locs hq_3 hS => ?_)
        have hP : PW G (stW G q (mkS (v_11 0) (upd (v_11 1) d11 w_2) (v_11 2) (v_11 3) (v_11 4) (v_11 5) (v_11 6) (v_11 7) (v_11 8 0) (v_11 8 1) (v_11 8 2) (v_11 8 3) (v_11 8 4) (v_11 8 5) (v_11 8 6) (v_11 8 7) (v_11 8 8) (v_11 8 9) (v_11 8 10))) H := hq_3
        refine lv_iinc (v := nI (d11 + 1)) (lv' := [(3, .int (nI (d11 + 1))), (0, .ref (q 0)), (1, .int x1), (2, .int y2_11)]) hC.1 hC.2.1 dX2_preparePulses_33 hl (k := 3) rfl (nI_1 _) (by decide) rfl (fun ls hl => ?_)
        refine lv_goto (tgt := 11) hC.1 hC.2.1 dX2_preparePulses_36 (by decide) ?_
        have e_4 : bX2_preparePulses_11 v x1 y2_11 d11 v_11 = mkS (v_11 0) (upd (v_11 1) d11 w_2) (v_11 2) (v_11 3) (v_11 4) (v_11 5) (v_11 6) (v_11 7) (v_11 8 0) (v_11 8 1) (v_11 8 2) (v_11 8 3) (v_11 8 4) (v_11 8 5) (v_11 8 6) (v_11 8 7) (v_11 8 8) (v_11 8 9) (v_11 8 10) := by subst ew_2; exact rfl
        have hg : fX2_preparePulses v x1 = (tX2_preparePulses_11 v x1 y2_11 (lpF n11 (d11 + 1) (bX2_preparePulses_11 v x1 y2_11) (mkS (v_11 0) (upd (v_11 1) d11 w_2) (v_11 2) (v_11 3) (v_11 4) (v_11 5) (v_11 6) (v_11 7) (v_11 8 0) (v_11 8 1) (v_11 8 2) (v_11 8 3) (v_11 8 4) (v_11 8 5) (v_11 8 6) (v_11 8 7) (v_11 8 8) (v_11 8 9) (v_11 8 10)))) := hg.trans (congrArg (fun z => (tX2_preparePulses_11 v x1 y2_11 (lpF n11 (d11 + 1) (bX2_preparePulses_11 v x1 y2_11) z))) e_4)
        exact ih (d11 + 1) (mkS (v_11 0) (upd (v_11 1) d11 w_2) (v_11 2) (v_11 3) (v_11 4) (v_11 5) (v_11 6) (v_11 7) (v_11 8 0) (v_11 8 1) (v_11 8 2) (v_11 8 3) (v_11 8 4) (v_11 8 5) (v_11 8 6) (v_11 8 7) (v_11 8 8) (v_11 8 9) (v_11 8 10)) (by omega) hg _ _ hP hS _ (lv_sub hl [1, 2, 3, 0] rfl)
  have e_5 : fX2_preparePulses v x1 = tX2_preparePulses_11 v x1 (fX5_at 7 (v 2) 0) (lpF 24 0 (bX2_preparePulses_11 v x1 (fX5_at 7 (v 2) 0)) v) := by exact rfl
  have hg : fX2_preparePulses v x1 = (tX2_preparePulses_11 v x1 (fX5_at 7 (v 2) 0) (lpF 24 0 (bX2_preparePulses_11 v x1 (fX5_at 7 (v 2) 0)) v)) := hg.trans (congrArg (fun z => z) e_5)
  exact L11 (fX5_at 7 (v 2) 0) 24 0 v (by omega) hg _ _ hP hS _ (lv_sub hl [2, 3, 1, 0] rfl)

theorem dX2_heatPart_0 : decode cX2_heatPart 0 = .ok (.iconst 0, 1) := by decide +kernel
theorem dX2_heatPart_1 : decode cX2_heatPart 1 = .ok (.istore_n 2, 1) := by decide +kernel
theorem dX2_heatPart_2 : decode cX2_heatPart 2 = .ok (.iconst 0, 1) := by decide +kernel
theorem dX2_heatPart_3 : decode cX2_heatPart 3 = .ok (.istore_n 3, 1) := by decide +kernel
theorem dX2_heatPart_4 : decode cX2_heatPart 4 = .ok (.iload_n 3, 1) := by decide +kernel
theorem dX2_heatPart_5 : decode cX2_heatPart 5 = .ok (.aload_n 0, 1) := by decide +kernel
theorem dX2_heatPart_6 : decode cX2_heatPart 6 = .ok (.getfield 9, 3) := by decide +kernel
theorem dX2_heatPart_9 : decode cX2_heatPart 9 = .ok (.arraylength, 1) := by decide +kernel
theorem dX2_heatPart_10 : decode cX2_heatPart 10 = .ok (.if_icmp .ge 81, 3) := by decide +kernel
theorem dX2_heatPart_13 : decode cX2_heatPart 13 = .ok (.iload_n 1, 1) := by decide +kernel
theorem dX2_heatPart_14 : decode cX2_heatPart 14 = .ok (.iload_n 3, 1) := by decide +kernel
theorem dX2_heatPart_15 : decode cX2_heatPart 15 = .ok (.invokestatic 124, 3) := by decide +kernel
theorem dX2_heatPart_18 : decode cX2_heatPart 18 = .ok (.iconst 1, 1) := by decide +kernel
theorem dX2_heatPart_19 : decode cX2_heatPart 19 = .ok (.if_icmp .ne 66, 3) := by decide +kernel
theorem dX2_heatPart_22 : decode cX2_heatPart 22 = .ok (.aload_n 0, 1) := by decide +kernel
theorem dX2_heatPart_23 : decode cX2_heatPart 23 = .ok (.getfield 9, 3) := by decide +kernel
theorem dX2_heatPart_26 : decode cX2_heatPart 26 = .ok (.iload_n 3, 1) := by decide +kernel
theorem dX2_heatPart_27 : decode cX2_heatPart 27 = .ok (.dup2, 1) := by decide +kernel
theorem dX2_heatPart_28 : decode cX2_heatPart 28 = .ok (.iaload, 1) := by decide +kernel
theorem dX2_heatPart_29 : decode cX2_heatPart 29 = .ok (.aload_n 0, 1) := by decide +kernel
theorem dX2_heatPart_30 : decode cX2_heatPart 30 = .ok (.getfield 15, 3) := by decide +kernel
theorem dX2_heatPart_33 : decode cX2_heatPart 33 = .ok (.iload_n 3, 1) := by decide +kernel
theorem dX2_heatPart_34 : decode cX2_heatPart 34 = .ok (.invokestatic 59, 3) := by decide +kernel
theorem dX2_heatPart_37 : decode cX2_heatPart 37 = .ok (.iadd, 1) := by decide +kernel
theorem dX2_heatPart_38 : decode cX2_heatPart 38 = .ok (.iastore, 1) := by decide +kernel
theorem dX2_heatPart_39 : decode cX2_heatPart 39 = .ok (.aload_n 0, 1) := by decide +kernel
theorem dX2_heatPart_40 : decode cX2_heatPart 40 = .ok (.getfield 38, 3) := by decide +kernel
theorem dX2_heatPart_43 : decode cX2_heatPart 43 = .ok (.aload_n 0, 1) := by decide +kernel
theorem dX2_heatPart_44 : decode cX2_heatPart 44 = .ok (.getfield 38, 3) := by decide +kernel
theorem dX2_heatPart_47 : decode cX2_heatPart 47 = .ok (.getfield 130, 3) := by decide +kernel
theorem dX2_heatPart_50 : decode cX2_heatPart 50 = .ok (.aload_n 0, 1) := by decide +kernel
theorem dX2_heatPart_51 : decode cX2_heatPart 51 = .ok (.getfield 9, 3) := by decide +kernel
theorem dX2_heatPart_54 : decode cX2_heatPart 54 = .ok (.iload_n 3, 1) := by decide +kernel
theorem dX2_heatPart_55 : decode cX2_heatPart 55 = .ok (.iaload, 1) := by decide +kernel
theorem dX2_heatPart_56 : decode cX2_heatPart 56 = .ok (.invokestatic 114, 3) := by decide +kernel
theorem dX2_heatPart_59 : decode cX2_heatPart 59 = .ok (.putfield 130, 3) := by decide +kernel
theorem dX2_heatPart_62 : decode cX2_heatPart 62 = .ok (.iload_n 2, 1) := by decide +kernel
theorem dX2_heatPart_63 : decode cX2_heatPart 63 = .ok (.aload_n 0, 1) := by decide +kernel
theorem dX2_heatPart_64 : decode cX2_heatPart 64 = .ok (.aload_n 0, 1) := by decide +kernel
theorem dX2_heatPart_65 : decode cX2_heatPart 65 = .ok (.getfield 9, 3) := by decide +kernel
theorem dX2_heatPart_68 : decode cX2_heatPart 68 = .ok (.iload_n 3, 1) := by decide +kernel
theorem dX2_heatPart_69 : decode cX2_heatPart 69 = .ok (.iaload, 1) := by decide +kernel
theorem dX2_heatPart_70 : decode cX2_heatPart 70 = .ok (.invokevirtual 133, 3) := by decide +kernel
theorem dX2_heatPart_73 : decode cX2_heatPart 73 = .ok (.ifCond .eq 9, 3) := by decide +kernel
theorem dX2_heatPart_76 : decode cX2_heatPart 76 = .ok (.iconst 1, 1) := by decide +kernel
theorem dX2_heatPart_77 : decode cX2_heatPart 77 = .ok (.iload_n 3, 1) := by decide +kernel
theorem dX2_heatPart_78 : decode cX2_heatPart 78 = .ok (.ishl, 1) := by decide +kernel
theorem dX2_heatPart_79 : decode cX2_heatPart 79 = .ok (.goto 4, 3) := by decide +kernel
theorem dX2_heatPart_82 : decode cX2_heatPart 82 = .ok (.iconst 0, 1) := by decide +kernel
theorem dX2_heatPart_83 : decode cX2_heatPart 83 = .ok (.ior, 1) := by decide +kernel
theorem dX2_heatPart_84 : decode cX2_heatPart 84 = .ok (.istore_n 2, 1) := by decide +kernel
theorem dX2_heatPart_85 : decode cX2_heatPart 85 = .ok (.iinc 3 1, 3) := by decide +kernel
theorem dX2_heatPart_88 : decode cX2_heatPart 88 = .ok (.goto (-84), 3) := by decide +kernel
theorem dX2_heatPart_91 : decode cX2_heatPart 91 = .ok (.iload_n 2, 1) := by decide +kernel
theorem dX2_heatPart_92 : decode cX2_heatPart 92 = .ok (.ireturn, 1) := by decide +kernel
set_option maxHeartbeats 1000000 in
set_option maxRecDepth 100000 in
theorem c_X2_heatPart (l : Launch) (G : GT) (q : Nat → Nat) (v : SV) (x1 : Int32) (hq : stD G q) : Met l yX2_heatPart (Cond.code yX2_heatPart cX2_heatPart 4 (some .int) :: bigW) ({ frames := 2, cells := 0, slots := 0, locals := 42 }) (BP G [.ref (q 0), .int x1] (fun U H => PW G (stW G q v) H)) (QE (some (.int (fX2_heatPart v x1).2)) (fun H => PW G (stW G q (fX2_heatPart v x1).1) H) (stA q)) 0 0 (stA q) := by
  refine met_of (by decide) (Nat.le_of_ble_eq_true rfl) ?_
  intro p e s m below meth c ls hC hKN hB0 hl
  have hP := hB0
  have hl : lv_has ls 4 [(0, .ref (q 0)), (1, .int x1)] := hl
  have hS : va_S (stA q) s.heap s.heap [] := va_S.rf
  have hAL : ∀ a, (stA q) a → gL G ≤ a := stD_low hq
  have hg : fX2_heatPart v x1 = fX2_heatPart v x1 := rfl
  refine lv_iconst (v := 0) hC.1 hC.2.1 dX2_heatPart_0 (by decide) ?_
  refine lv_istore_n (lv' := [(2, .int 0), (0, .ref (q 0)), (1, .int x1)]) hC.1 hC.2.1 dX2_heatPart_1 rfl hl (by decide) rfl (fun ls hl => ?_)
  refine lv_iconst (v := 0) hC.1 hC.2.1 dX2_heatPart_2 (by decide) ?_
  refine lv_istore_n (lv' := [(3, .int 0), (2, .int 0), (0, .ref (q 0)), (1, .int x1)]) hC.1 hC.2.1 dX2_heatPart_3 rfl hl (by decide) rfl (fun ls hl => ?_)
  have A4 : ∀ (y2_4 : Int32) (v_4 : SV), fX2_heatPart v x1 = (tX2_heatPart_4 v x1 (y2_4, v_4)) → ∀ (H : Heap) (locs : List Loc), PW G (stW G q v_4) H → va_S (stA q) s.heap H locs → ∀ (ls : Array Slot), lv_has ls 4 [(2, .int y2_4)] → W p l e ({ frames := 2, cells := 0, slots := 0, locals := 42 }) s m ([.ref (q 0), .int x1] : List Value).toArray below meth c H locs 0 0 (MQ below (QE (some (.int (fX2_heatPart v x1).2)) (fun H => PW G (stW G q (fX2_heatPart v x1).1) H) (stA q)) ([.ref (q 0), .int x1] : List Value).toArray s 0 0 (stA q)) (F0 m 91 ls []) := by
    intro  y2_4 v_4 hg H locs hP hS ls hl
    refine lv_iload_n hC.1 hC.2.1 dX2_heatPart_91 rfl (lv_at hl 0 rfl) ?_
    have e_1 : tX2_heatPart_4 v x1 (y2_4, v_4) = (v_4, y2_4) := by exact rfl
    have hg : fX2_heatPart v x1 = (v_4, y2_4) := hg.trans (congrArg (fun z => z) e_1)
    exact eE_i hC (by rw [hg]) (by show PW G (stW G q (fX2_heatPart v x1).1) H; rw [hg]; exact hP) hS dX2_heatPart_92
  have L4 : ∀ (n4 d4 : Nat), ∀ (y2_4 : Int32) (v_4 : SV), d4 + n4 = 24 → fX2_heatPart v x1 = (tX2_heatPart_4 v x1 (lpF n4 d4 (bX2_heatPart_4 v x1) (y2_4, v_4))) → ∀ (H : Heap) (locs : List Loc), PW G (stW G q v_4) H → va_S (stA q) s.heap H locs → ∀ (ls : Array Slot), lv_has ls 4 [(0, .ref (q 0)), (1, .int x1), (2, .int y2_4), (3, .int (nI d4))] → W p l e ({ frames := 2, cells := 0, slots := 0, locals := 42 }) s m ([.ref (q 0), .int x1] : List Value).toArray below meth c H locs 0 0 (MQ below (QE (some (.int (fX2_heatPart v x1).2)) (fun H => PW G (stW G q (fX2_heatPart v x1).1) H) (stA q)) ([.ref (q 0), .int x1] : List Value).toArray s 0 0 (stA q)) (F0 m 4 ls []) := by
    intro n4
    induction n4 with
    | zero =>
      intro d4 y2_4 v_4 hd hg H locs hP hS ls hl
      refine lv_iload_n hC.1 hC.2.1 dX2_heatPart_4 rfl (lv_at hl 3 rfl) ?_
      refine lv_aload_n hC.1 hC.2.1 dX2_heatPart_5 rfl (lv_at hl 0 rfl) ?_
      refine gf (v := .ref (q 1)) hC fwX2 (hKN.go hAL hS) hP 0 rfl rfl 0 (by decide) rfl wd_116 rfl dX2_heatPart_6 ?_
      refine alen_n hC (hKN.go hAL hS) hP 1 rfl dX2_heatPart_9 ?_
      refine lv_icmp_ge (tgt := 91) hC.1 hC.2.1 dX2_heatPart_10 (by decide) (fun k10 => ?_) (fun k10 => ?_)
      · exact A4  y2_4 v_4 hg _ _ hP hS _ (lv_sub hl [2] rfl)
      · exact absurd (nI_le (a := 24) (b := d4) (by omega) (by omega)) k10
    | succ n4 ih =>
      intro d4 y2_4 v_4 hd hg H locs hP hS ls hl
      have hg : fX2_heatPart v x1 = (tX2_heatPart_4 v x1 (lpF n4 (d4 + 1) (bX2_heatPart_4 v x1) (bX2_heatPart_4 v x1 d4 (y2_4, v_4)))) := hg
      refine lv_iload_n hC.1 hC.2.1 dX2_heatPart_4 rfl (lv_at hl 3 rfl) ?_
      refine lv_aload_n hC.1 hC.2.1 dX2_heatPart_5 rfl (lv_at hl 0 rfl) ?_
      refine gf (v := .ref (q 1)) hC fwX2 (hKN.go hAL hS) hP 0 rfl rfl 0 (by decide) rfl wd_116 rfl dX2_heatPart_6 ?_
      refine alen_n hC (hKN.go hAL hS) hP 1 rfl dX2_heatPart_9 ?_
      refine lv_icmp_ge (tgt := 91) hC.1 hC.2.1 dX2_heatPart_10 (by decide) (fun k10 => ?_) (fun k10 => ?_)
      · exact absurd k10 (nI_ge (a := d4) (b := 24) (by omega) (by omega))
      · refine lv_iload_n hC.1 hC.2.1 dX2_heatPart_13 rfl (lv_at hl 1 rfl) ?_
        refine lv_iload_n hC.1 hC.2.1 dX2_heatPart_14 rfl (lv_at hl 3 rfl) ?_
        refine runP (rSN (B := fun U H => True) (As := [.int x1, .int (nI d4)]) (rest := []) hC mwX5_bitOf (c_X5_bitOf l G x1 (nI d4)) wd_433 (nm_6 (hKN.go hAL hS)) ⟨rfl, rfl⟩ ⟨Nat.le_of_ble_eq_true rfl, Nat.le_of_ble_eq_true rfl⟩ (fun _ _ _ _ h => h) (hKN.go hAL hS) trivial rfl hl.1 rfl (Nat.le_of_ble_eq_true rfl) dX2_heatPart_15 ⟨Nat.zero_le _, Nat.zero_le _⟩) ?_
        refine lv_iconst (v := 1) hC.1 hC.2.1 dX2_heatPart_18 (by decide) ?_
        refine lv_icmp_ne (tgt := 85) hC.1 hC.2.1 dX2_heatPart_19 (by decide) (fun k19 => ?_) (fun k19 => ?_)
        · refine lv_iinc (v := nI (d4 + 1)) (lv' := [(3, .int (nI (d4 + 1))), (0, .ref (q 0)), (1, .int x1), (2, .int y2_4)]) hC.1 hC.2.1 dX2_heatPart_85 hl (k := 3) rfl (nI_1 _) (by decide) rfl (fun ls hl => ?_)
          refine lv_goto (tgt := 4) hC.1 hC.2.1 dX2_heatPart_88 (by decide) ?_
          have e_2 : bX2_heatPart_4 v x1 d4 (y2_4, v_4) = (y2_4, v_4) := by exact Eq.trans (if_neg k19) rfl
          have hg : fX2_heatPart v x1 = (tX2_heatPart_4 v x1 (lpF n4 (d4 + 1) (bX2_heatPart_4 v x1) (y2_4, v_4))) := hg.trans (congrArg (fun z => (tX2_heatPart_4 v x1 (lpF n4 (d4 + 1) (bX2_heatPart_4 v x1) z))) e_2)
          exact ih (d4 + 1) y2_4 v_4 (by omega) hg _ _ hP hS _ (lv_sub hl [1, 2, 3, 0] rfl)
        · refine lv_aload_n hC.1 hC.2.1 dX2_heatPart_22 rfl (lv_at hl 0 rfl) ?_
          refine gf (v := .ref (q 1)) hC fwX2 (hKN.go hAL hS) hP 0 rfl rfl 0 (by decide) rfl wd_116 rfl dX2_heatPart_23 ?_
          refine lv_iload_n hC.1 hC.2.1 dX2_heatPart_26 rfl (lv_at hl 3 rfl) ?_
          refine lv_dup2_11 hC.1 hC.2.1 dX2_heatPart_27 rfl rfl ?_
          refine iald_k hC (hKN.go hAL hS) hP 1 rfl (n := 24) (f := (v_4 0)) d4 (rfl) (by omega) (by decide) dX2_heatPart_28 ?_
          refine lv_aload_n hC.1 hC.2.1 dX2_heatPart_29 rfl (lv_at hl 0 rfl) ?_
          refine gf (v := .ref (q 2)) hC fwX2 (hKN.go hAL hS) hP 0 rfl rfl 1 (by decide) rfl wd_117 rfl dX2_heatPart_30 ?_
          refine lv_iload_n hC.1 hC.2.1 dX2_heatPart_33 rfl (lv_at hl 3 rfl) ?_
          refine runP (rSN (B := fun U H => RD (q 2) 24 (v_4 1) U H) (As := [.ref (q 2), .int (nI d4)]) (rest := [.int ((v_4 0) d4), .int (nI d4), .ref (q 1)]) hC mwX5_at (c_X5_at l G (q 2) 24 (v_4 1) (nI d4)) wd_249 (nm_5 (hKN.go hAL hS)) ⟨rfl, rfl⟩ ⟨Nat.le_of_ble_eq_true rfl, Nat.le_of_ble_eq_true rfl⟩ (stb_RD _ _ _) (hKN.go hAL hS) (RD.ofP (hKN.go hAL hS) hP 2 rfl) rfl hl.1 rfl (Nat.le_of_ble_eq_true rfl) dX2_heatPart_34 ⟨Nat.zero_le _, Nat.zero_le _⟩) ?_
          refine lv_iadd hC.1 hC.2.1 dX2_heatPart_37 ?_
          refine lv_topi (fun w_3 ew_3 => ?_)
          refine iast_k hC (hKN.go hAL hS) hP (stD_D hq v_4) hS 1 rfl (n := 24) (f := (v_4 0)) d4 (rfl) (by omega) (by decide) dX2_heatPart_38 (fun H locs hq_4 hS => ?_)
          have hP : PW G (stW G q (mkS (upd (v_4 0) d4 w_3) (v_4 1) (v_4 2) (v_4 3) (v_4 4) (v_4 5) (v_4 6) (v_4 7) (v_4 8 0) (v_4 8 1) (v_4 8 2) (v_4 8 3) (v_4 8 4) (v_4 8 5) (v_4 8 6) (v_4 8 7) (v_4 8 8) (v_4 8 9) (v_4 8 10))) H := hq_4
          refine lv_aload_n hC.1 hC.2.1 dX2_heatPart_39 rfl (lv_at hl 0 rfl) ?_
          refine gf (v := .ref (q 8)) hC fwX2 (hKN.go hAL hS) hP 0 rfl rfl 4 (by decide) rfl wd_121 rfl dX2_heatPart_40 ?_
          refine lv_aload_n hC.1 hC.2.1 dX2_heatPart_43 rfl (lv_at hl 0 rfl) ?_
          refine gf (v := .ref (q 8)) hC fwX2 (hKN.go hAL hS) hP 0 rfl rfl 4 (by decide) rfl wd_121 rfl dX2_heatPart_44 ?_
          refine gfN (v := .int (v_4 8 7)) hC fwX4 (hKN.go hAL hS) hP 8 rfl rfl 8 (by decide) rfl (nf_13 (hKN.go hAL hS)) rfl dX2_heatPart_47 ?_
          refine lv_aload_n hC.1 hC.2.1 dX2_heatPart_50 rfl (lv_at hl 0 rfl) ?_
          refine gf (v := .ref (q 1)) hC fwX2 (hKN.go hAL hS) hP 0 rfl rfl 0 (by decide) rfl wd_116 rfl dX2_heatPart_51 ?_
          refine lv_iload_n hC.1 hC.2.1 dX2_heatPart_54 rfl (lv_at hl 3 rfl) ?_
          refine iald_k hC (hKN.go hAL hS) hP 1 rfl (n := 24) (f := (upd (v_4 0) d4 w_3)) d4 (rfl) (by omega) (by decide) dX2_heatPart_55 ?_
          refine va_mmax hC.1 hC.2.1 (hC.2.2.2.1.trans hl.1.symm) hC.2.2.2.2.1 (hC.2.2.2.2.2.2.1 _ wd_412) (hC.2.2.2.2.2.2.1 _ wd_413) (hC.2.2.2.2.2.2.1 _ wd_3) (hC.2.2.2.2.2.2.1 _ wd_414) (Nat.le_of_ble_eq_true rfl) (Nat.le_of_ble_eq_true rfl) (Nat.zero_le _) (Nat.zero_le _) dX2_heatPart_56 ?_
          refine lv_topi (fun w_5 ew_5 => ?_)
          refine pfN (v := .int w_5) (tv := .int) hC fwX4 (hKN.go hAL hS) hP (stD_D hq (mkS (upd (v_4 0) d4 w_3) (v_4 1) (v_4 2) (v_4 3) (v_4 4) (v_4 5) (v_4 6) (v_4 7) (v_4 8 0) (v_4 8 1) (v_4 8 2) (v_4 8 3) (v_4 8 4) (v_4 8 5) (v_4 8 6) (v_4 8 7) (v_4 8 8) (v_4 8 9) (v_4 8 10))) hS 8 rfl rfl 8 (by decide) rfl (nf_13 (hKN.go hAL hS)) rfl rfl rfl (Nat.le_of_ble_eq_true rfl) dX2_heatPart_59 (fun H locs hq_6 hS => ?_)
          have hP : PW G (stW G q (mkS (upd (v_4 0) d4 w_3) (v_4 1) (v_4 2) (v_4 3) (v_4 4) (v_4 5) (v_4 6) (v_4 7) (v_4 8 0) (v_4 8 1) (v_4 8 2) (v_4 8 3) (v_4 8 4) (v_4 8 5) (v_4 8 6) w_5 (v_4 8 8) (v_4 8 9) (v_4 8 10))) H := hq_6
          refine lv_iload_n hC.1 hC.2.1 dX2_heatPart_62 rfl (lv_at hl 2 rfl) ?_
          refine lv_aload_n hC.1 hC.2.1 dX2_heatPart_63 rfl (lv_at hl 0 rfl) ?_
          refine lv_aload_n hC.1 hC.2.1 dX2_heatPart_64 rfl (lv_at hl 0 rfl) ?_
          refine gf (v := .ref (q 1)) hC fwX2 (hKN.go hAL hS) hP 0 rfl rfl 0 (by decide) rfl wd_116 rfl dX2_heatPart_65 ?_
          refine lv_iload_n hC.1 hC.2.1 dX2_heatPart_68 rfl (lv_at hl 3 rfl) ?_
          refine iald_k hC (hKN.go hAL hS) hP 1 rfl (n := 24) (f := (upd (v_4 0) d4 w_3)) d4 (rfl) (by omega) (by decide) dX2_heatPart_69 ?_
          refine runP (rV (B := fun U H => PW G (stW G q (mkS (upd (v_4 0) d4 w_3) (v_4 1) (v_4 2) (v_4 3) (v_4 4) (v_4 5) (v_4 6) (v_4 7) (v_4 8 0) (v_4 8 1) (v_4 8 2) (v_4 8 3) (v_4 8 4) (v_4 8 5) (v_4 8 6) w_5 (v_4 8 8) (v_4 8 9) (v_4 8 10))) H) (As := [.int ((upd (v_4 0) d4 w_3) d4)]) (rest := [.int y2_4]) hC mwX2_isDark (c_X2_isDark l G q (mkS (upd (v_4 0) d4 w_3) (v_4 1) (v_4 2) (v_4 3) (v_4 4) (v_4 5) (v_4 6) (v_4 7) (v_4 8 0) (v_4 8 1) (v_4 8 2) (v_4 8 3) (v_4 8 4) (v_4 8 5) (v_4 8 6) w_5 (v_4 8 8) (v_4 8 9) (v_4 8 10)) ((upd (v_4 0) d4 w_3) d4)) iwX2_isDark wd_532 ⟨rfl, rfl⟩ ⟨Nat.le_of_ble_eq_true rfl, Nat.le_of_ble_eq_true rfl⟩ (stb_h (fun H => PW G (stW G q (mkS (upd (v_4 0) d4 w_3) (v_4 1) (v_4 2) (v_4 3) (v_4 4) (v_4 5) (v_4 6) (v_4 7) (v_4 8 0) (v_4 8 1) (v_4 8 2) (v_4 8 3) (v_4 8 4) (v_4 8 5) (v_4 8 6) w_5 (v_4 8 8) (v_4 8 9) (v_4 8 10))) H)) (hKN.go hAL hS) hP (va_recv (hKN.go hAL hS).k hP (ci := 2) (q0 := 0) rfl rfl) rfl hl.1 rfl (Nat.le_of_ble_eq_true rfl) dX2_heatPart_70 ⟨Nat.zero_le _, Nat.zero_le _⟩) ?_
          refine lv_if_eq (tgt := 82) hC.1 hC.2.1 dX2_heatPart_73 (by decide) (fun k73 => ?_) (fun k73 => ?_)
          · refine lv_iconst (v := 0) hC.1 hC.2.1 dX2_heatPart_82 (by decide) ?_
            refine lv_ior hC.1 hC.2.1 dX2_heatPart_83 ?_
            refine lv_istore_n (lv' := [(2, .int (y2_4 ||| 0)), (0, .ref (q 0)), (1, .int x1), (3, .int (nI d4))]) hC.1 hC.2.1 dX2_heatPart_84 rfl hl (by decide) rfl (fun ls hl => ?_)
            refine lv_iinc (v := nI (d4 + 1)) (lv' := [(3, .int (nI (d4 + 1))), (2, .int (y2_4 ||| 0)), (0, .ref (q 0)), (1, .int x1)]) hC.1 hC.2.1 dX2_heatPart_85 hl (k := 3) rfl (nI_1 _) (by decide) rfl (fun ls hl => ?_)
            refine lv_goto (tgt := 4) hC.1 hC.2.1 dX2_heatPart_88 (by decide) ?_
            have e_7 : bX2_heatPart_4 v x1 d4 (y2_4, v_4) = (y2_4 ||| 0, mkS (upd (v_4 0) d4 w_3) (v_4 1) (v_4 2) (v_4 3) (v_4 4) (v_4 5) (v_4 6) (v_4 7) (v_4 8 0) (v_4 8 1) (v_4 8 2) (v_4 8 3) (v_4 8 4) (v_4 8 5) (v_4 8 6) w_5 (v_4 8 8) (v_4 8 9) (v_4 8 10)) := by subst ew_5; subst ew_3; exact Eq.trans (if_pos k19) (Eq.trans (if_pos k73) rfl)
            have hg : fX2_heatPart v x1 = (tX2_heatPart_4 v x1 (lpF n4 (d4 + 1) (bX2_heatPart_4 v x1) (y2_4 ||| 0, mkS (upd (v_4 0) d4 w_3) (v_4 1) (v_4 2) (v_4 3) (v_4 4) (v_4 5) (v_4 6) (v_4 7) (v_4 8 0) (v_4 8 1) (v_4 8 2) (v_4 8 3) (v_4 8 4) (v_4 8 5) (v_4 8 6) w_5 (v_4 8 8) (v_4 8 9) (v_4 8 10)))) := hg.trans (congrArg (fun z => (tX2_heatPart_4 v x1 (lpF n4 (d4 + 1) (bX2_heatPart_4 v x1) z))) e_7)
            exact ih (d4 + 1) (y2_4 ||| 0) (mkS (upd (v_4 0) d4 w_3) (v_4 1) (v_4 2) (v_4 3) (v_4 4) (v_4 5) (v_4 6) (v_4 7) (v_4 8 0) (v_4 8 1) (v_4 8 2) (v_4 8 3) (v_4 8 4) (v_4 8 5) (v_4 8 6) w_5 (v_4 8 8) (v_4 8 9) (v_4 8 10)) (by omega) hg _ _ hP hS _ (lv_sub hl [2, 3, 1, 0] rfl)
          · refine lv_iconst (v := 1) hC.1 hC.2.1 dX2_heatPart_76 (by decide) ?_
            refine lv_iload_n hC.1 hC.2.1 dX2_heatPart_77 rfl (lv_at hl 3 rfl) ?_
            refine lv_ishl hC.1 hC.2.1 dX2_heatPart_78 ?_
            refine lv_goto (tgt := 83) hC.1 hC.2.1 dX2_heatPart_79 (by decide) ?_
            refine lv_ior hC.1 hC.2.1 dX2_heatPart_83 ?_
            refine lv_istore_n (lv' := [(2, .int (y2_4 ||| (1 <<< ((nI d4) &&& 31)))), (0, .ref (q 0)), (1, .int x1), (3, .int (nI d4))]) hC.1 hC.2.1 dX2_heatPart_84 rfl hl (by decide) rfl (fun ls hl => ?_)
            refine lv_iinc (v := nI (d4 + 1)) (lv' := [(3, .int (nI (d4 + 1))), (2, .int (y2_4 ||| (1 <<< ((nI d4) &&& 31)))), (0, .ref (q 0)), (1, .int x1)]) hC.1 hC.2.1 dX2_heatPart_85 hl (k := 3) rfl (nI_1 _) (by decide) rfl (fun ls hl => ?_)
            refine lv_goto (tgt := 4) hC.1 hC.2.1 dX2_heatPart_88 (by decide) ?_
            have e_8 : bX2_heatPart_4 v x1 d4 (y2_4, v_4) = (y2_4 ||| (1 <<< ((nI d4) &&& 31)), mkS (upd (v_4 0) d4 w_3) (v_4 1) (v_4 2) (v_4 3) (v_4 4) (v_4 5) (v_4 6) (v_4 7) (v_4 8 0) (v_4 8 1) (v_4 8 2) (v_4 8 3) (v_4 8 4) (v_4 8 5) (v_4 8 6) w_5 (v_4 8 8) (v_4 8 9) (v_4 8 10)) := by subst ew_5; subst ew_3; exact Eq.trans (if_pos k19) (Eq.trans (if_neg k73) rfl)
            have hg : fX2_heatPart v x1 = (tX2_heatPart_4 v x1 (lpF n4 (d4 + 1) (bX2_heatPart_4 v x1) (y2_4 ||| (1 <<< ((nI d4) &&& 31)), mkS (upd (v_4 0) d4 w_3) (v_4 1) (v_4 2) (v_4 3) (v_4 4) (v_4 5) (v_4 6) (v_4 7) (v_4 8 0) (v_4 8 1) (v_4 8 2) (v_4 8 3) (v_4 8 4) (v_4 8 5) (v_4 8 6) w_5 (v_4 8 8) (v_4 8 9) (v_4 8 10)))) := hg.trans (congrArg (fun z => (tX2_heatPart_4 v x1 (lpF n4 (d4 + 1) (bX2_heatPart_4 v x1) z))) e_8)
            exact ih (d4 + 1) (y2_4 ||| (1 <<< ((nI d4) &&& 31))) (mkS (upd (v_4 0) d4 w_3) (v_4 1) (v_4 2) (v_4 3) (v_4 4) (v_4 5) (v_4 6) (v_4 7) (v_4 8 0) (v_4 8 1) (v_4 8 2) (v_4 8 3) (v_4 8 4) (v_4 8 5) (v_4 8 6) w_5 (v_4 8 8) (v_4 8 9) (v_4 8 10)) (by omega) hg _ _ hP hS _ (lv_sub hl [2, 3, 1, 0] rfl)
  have e_9 : fX2_heatPart v x1 = tX2_heatPart_4 v x1 (lpF 24 0 (bX2_heatPart_4 v x1) (0, v)) := by exact rfl
  have hg : fX2_heatPart v x1 = (tX2_heatPart_4 v x1 (lpF 24 0 (bX2_heatPart_4 v x1) (0, v))) := hg.trans (congrArg (fun z => z) e_9)
  exact L4  24 0 0 v (by omega) hg _ _ hP hS _ (lv_sub hl [2, 3, 1, 0] rfl)

theorem dX2_passTime_0 : decode cX2_passTime 0 = .ok (.iconst 0, 1) := by decide +kernel
theorem dX2_passTime_1 : decode cX2_passTime 1 = .ok (.istore_n 2, 1) := by decide +kernel
theorem dX2_passTime_2 : decode cX2_passTime 2 = .ok (.iload_n 2, 1) := by decide +kernel
theorem dX2_passTime_3 : decode cX2_passTime 3 = .ok (.aload_n 0, 1) := by decide +kernel
theorem dX2_passTime_4 : decode cX2_passTime 4 = .ok (.getfield 9, 3) := by decide +kernel
theorem dX2_passTime_7 : decode cX2_passTime 7 = .ok (.arraylength, 1) := by decide +kernel
theorem dX2_passTime_8 : decode cX2_passTime 8 = .ok (.if_icmp .ge 26, 3) := by decide +kernel
theorem dX2_passTime_11 : decode cX2_passTime 11 = .ok (.aload_n 0, 1) := by decide +kernel
theorem dX2_passTime_12 : decode cX2_passTime 12 = .ok (.getfield 9, 3) := by decide +kernel
theorem dX2_passTime_15 : decode cX2_passTime 15 = .ok (.iload_n 2, 1) := by decide +kernel
theorem dX2_passTime_16 : decode cX2_passTime 16 = .ok (.aload_n 0, 1) := by decide +kernel
theorem dX2_passTime_17 : decode cX2_passTime 17 = .ok (.aload_n 0, 1) := by decide +kernel
theorem dX2_passTime_18 : decode cX2_passTime 18 = .ok (.getfield 9, 3) := by decide +kernel
theorem dX2_passTime_21 : decode cX2_passTime 21 = .ok (.iload_n 2, 1) := by decide +kernel
theorem dX2_passTime_22 : decode cX2_passTime 22 = .ok (.iaload, 1) := by decide +kernel
theorem dX2_passTime_23 : decode cX2_passTime 23 = .ok (.iload_n 1, 1) := by decide +kernel
theorem dX2_passTime_24 : decode cX2_passTime 24 = .ok (.invokevirtual 143, 3) := by decide +kernel
theorem dX2_passTime_27 : decode cX2_passTime 27 = .ok (.iastore, 1) := by decide +kernel
theorem dX2_passTime_28 : decode cX2_passTime 28 = .ok (.iinc 2 1, 3) := by decide +kernel
theorem dX2_passTime_31 : decode cX2_passTime 31 = .ok (.goto (-29), 3) := by decide +kernel
theorem dX2_passTime_34 : decode cX2_passTime 34 = .ok (.aload_n 0, 1) := by decide +kernel
theorem dX2_passTime_35 : decode cX2_passTime 35 = .ok (.getfield 38, 3) := by decide +kernel
theorem dX2_passTime_38 : decode cX2_passTime 38 = .ok (.dup, 1) := by decide +kernel
theorem dX2_passTime_39 : decode cX2_passTime 39 = .ok (.getfield 74, 3) := by decide +kernel
theorem dX2_passTime_42 : decode cX2_passTime 42 = .ok (.iload_n 1, 1) := by decide +kernel
theorem dX2_passTime_43 : decode cX2_passTime 43 = .ok (.iadd, 1) := by decide +kernel
theorem dX2_passTime_44 : decode cX2_passTime 44 = .ok (.putfield 74, 3) := by decide +kernel
theorem dX2_passTime_47 : decode cX2_passTime 47 = .ok (.return_, 1) := by decide +kernel
set_option maxHeartbeats 1000000 in
set_option maxRecDepth 100000 in
theorem c_X2_passTime (l : Launch) (G : GT) (q : Nat → Nat) (v : SV) (x1 : Int32) (hq : stD G q) : Met l yX2_passTime (Cond.code yX2_passTime cX2_passTime 3 none :: bigW) ({ frames := 2, cells := 0, slots := 0, locals := 47 }) (BP G [.ref (q 0), .int x1] (fun U H => PW G (stW G q v) H)) (QE (none) (fun H => PW G (stW G q (fX2_passTime v x1)) H) (stA q)) 0 0 (stA q) := by
  refine met_of (by decide) (Nat.le_of_ble_eq_true rfl) ?_
  intro p e s m below meth c ls hC hKN hB0 hl
  have hP := hB0
  have hl : lv_has ls 3 [(0, .ref (q 0)), (1, .int x1)] := hl
  have hS : va_S (stA q) s.heap s.heap [] := va_S.rf
  have hAL : ∀ a, (stA q) a → gL G ≤ a := stD_low hq
  have hg : fX2_passTime v x1 = fX2_passTime v x1 := rfl
  refine lv_iconst (v := 0) hC.1 hC.2.1 dX2_passTime_0 (by decide) ?_
  refine lv_istore_n (lv' := [(2, .int 0), (0, .ref (q 0)), (1, .int x1)]) hC.1 hC.2.1 dX2_passTime_1 rfl hl (by decide) rfl (fun ls hl => ?_)
  have A2 : ∀ (v_2 : SV), fX2_passTime v x1 = (tX2_passTime_2 v x1 v_2) → ∀ (H : Heap) (locs : List Loc), PW G (stW G q v_2) H → va_S (stA q) s.heap H locs → ∀ (ls : Array Slot), lv_has ls 3 [(0, .ref (q 0)), (1, .int x1)] → W p l e ({ frames := 2, cells := 0, slots := 0, locals := 47 }) s m ([.ref (q 0), .int x1] : List Value).toArray below meth c H locs 0 0 (MQ below (QE (none) (fun H => PW G (stW G q (fX2_passTime v x1)) H) (stA q)) ([.ref (q 0), .int x1] : List Value).toArray s 0 0 (stA q)) (F0 m 34 ls []) := by
    intro  v_2 hg H locs hP hS ls hl
    refine lv_aload_n hC.1 hC.2.1 dX2_passTime_34 rfl (lv_at hl 0 rfl) ?_
    refine gf (v := .ref (q 8)) hC fwX2 (hKN.go hAL hS) hP 0 rfl rfl 4 (by decide) rfl wd_121 rfl dX2_passTime_35 ?_
    refine lv_dup hC.1 hC.2.1 dX2_passTime_38 rfl ?_
    refine gfN (v := .int (v_2 8 1)) hC fwX4 (hKN.go hAL hS) hP 8 rfl rfl 2 (by decide) rfl (nf_5 (hKN.go hAL hS)) rfl dX2_passTime_39 ?_
    refine lv_iload_n hC.1 hC.2.1 dX2_passTime_42 rfl (lv_at hl 1 rfl) ?_
    refine lv_iadd hC.1 hC.2.1 dX2_passTime_43 ?_
    refine lv_topi (fun w_1 ew_1 => ?_)
    refine pfN (v := .int w_1) (tv := .int) hC fwX4 (hKN.go hAL hS) hP (stD_D hq v_2) hS 8 rfl rfl 2 (by decide) rfl (nf_5 (hKN.go hAL hS)) rfl rfl rfl (Nat.le_of_ble_eq_true rfl) dX2_passTime_44 (fun H locs hq_2 hS => ?_)
    have hP : PW G (stW G q (mkS (v_2 0) (v_2 1) (v_2 2) (v_2 3) (v_2 4) (v_2 5) (v_2 6) (v_2 7) (v_2 8 0) w_1 (v_2 8 2) (v_2 8 3) (v_2 8 4) (v_2 8 5) (v_2 8 6) (v_2 8 7) (v_2 8 8) (v_2 8 9) (v_2 8 10))) H := hq_2
    have e_3 : tX2_passTime_2 v x1 v_2 = mkS (v_2 0) (v_2 1) (v_2 2) (v_2 3) (v_2 4) (v_2 5) (v_2 6) (v_2 7) (v_2 8 0) w_1 (v_2 8 2) (v_2 8 3) (v_2 8 4) (v_2 8 5) (v_2 8 6) (v_2 8 7) (v_2 8 8) (v_2 8 9) (v_2 8 10) := by subst ew_1; exact rfl
    have hg : fX2_passTime v x1 = mkS (v_2 0) (v_2 1) (v_2 2) (v_2 3) (v_2 4) (v_2 5) (v_2 6) (v_2 7) (v_2 8 0) w_1 (v_2 8 2) (v_2 8 3) (v_2 8 4) (v_2 8 5) (v_2 8 6) (v_2 8 7) (v_2 8 8) (v_2 8 9) (v_2 8 10) := hg.trans (congrArg (fun z => z) e_3)
    exact eE_v hC (by show PW G (stW G q (fX2_passTime v x1)) H; rw [hg]; exact hP) hS dX2_passTime_47
  have L2 : ∀ (n2 d2 : Nat), ∀ (v_2 : SV), d2 + n2 = 24 → fX2_passTime v x1 = (tX2_passTime_2 v x1 (lpF n2 d2 (bX2_passTime_2 v x1) v_2)) → ∀ (H : Heap) (locs : List Loc), PW G (stW G q v_2) H → va_S (stA q) s.heap H locs → ∀ (ls : Array Slot), lv_has ls 3 [(0, .ref (q 0)), (1, .int x1), (2, .int (nI d2))] → W p l e ({ frames := 2, cells := 0, slots := 0, locals := 47 }) s m ([.ref (q 0), .int x1] : List Value).toArray below meth c H locs 0 0 (MQ below (QE (none) (fun H => PW G (stW G q (fX2_passTime v x1)) H) (stA q)) ([.ref (q 0), .int x1] : List Value).toArray s 0 0 (stA q)) (F0 m 2 ls []) := by
    intro n2
    induction n2 with
    | zero =>
      intro d2 v_2 hd hg H locs hP hS ls hl
      refine lv_iload_n hC.1 hC.2.1 dX2_passTime_2 rfl (lv_at hl 2 rfl) ?_
      refine lv_aload_n hC.1 hC.2.1 dX2_passTime_3 rfl (lv_at hl 0 rfl) ?_
      refine gf (v := .ref (q 1)) hC fwX2 (hKN.go hAL hS) hP 0 rfl rfl 0 (by decide) rfl wd_116 rfl dX2_passTime_4 ?_
      refine alen_n hC (hKN.go hAL hS) hP 1 rfl dX2_passTime_7 ?_
      refine lv_icmp_ge (tgt := 34) hC.1 hC.2.1 dX2_passTime_8 (by decide) (fun k8 => ?_) (fun k8 => ?_)
      · exact A2  v_2 hg _ _ hP hS _ (lv_sub hl [0, 1] rfl)
      · exact absurd (nI_le (a := 24) (b := d2) (by omega) (by omega)) k8
    | succ n2 ih =>
      intro d2 v_2 hd hg H locs hP hS ls hl
      have hg : fX2_passTime v x1 = (tX2_passTime_2 v x1 (lpF n2 (d2 + 1) (bX2_passTime_2 v x1) (bX2_passTime_2 v x1 d2 v_2))) := hg
      refine lv_iload_n hC.1 hC.2.1 dX2_passTime_2 rfl (lv_at hl 2 rfl) ?_
      refine lv_aload_n hC.1 hC.2.1 dX2_passTime_3 rfl (lv_at hl 0 rfl) ?_
      refine gf (v := .ref (q 1)) hC fwX2 (hKN.go hAL hS) hP 0 rfl rfl 0 (by decide) rfl wd_116 rfl dX2_passTime_4 ?_
      refine alen_n hC (hKN.go hAL hS) hP 1 rfl dX2_passTime_7 ?_
      refine lv_icmp_ge (tgt := 34) hC.1 hC.2.1 dX2_passTime_8 (by decide) (fun k8 => ?_) (fun k8 => ?_)
      · exact absurd k8 (nI_ge (a := d2) (b := 24) (by omega) (by omega))
      · refine lv_aload_n hC.1 hC.2.1 dX2_passTime_11 rfl (lv_at hl 0 rfl) ?_
        refine gf (v := .ref (q 1)) hC fwX2 (hKN.go hAL hS) hP 0 rfl rfl 0 (by decide) rfl wd_116 rfl dX2_passTime_12 ?_
        refine lv_iload_n hC.1 hC.2.1 dX2_passTime_15 rfl (lv_at hl 2 rfl) ?_
        refine lv_aload_n hC.1 hC.2.1 dX2_passTime_16 rfl (lv_at hl 0 rfl) ?_
        refine lv_aload_n hC.1 hC.2.1 dX2_passTime_17 rfl (lv_at hl 0 rfl) ?_
        refine gf (v := .ref (q 1)) hC fwX2 (hKN.go hAL hS) hP 0 rfl rfl 0 (by decide) rfl wd_116 rfl dX2_passTime_18 ?_
        refine lv_iload_n hC.1 hC.2.1 dX2_passTime_21 rfl (lv_at hl 2 rfl) ?_
        refine iald_k hC (hKN.go hAL hS) hP 1 rfl (n := 24) (f := (v_2 0)) d2 (rfl) (by omega) (by decide) dX2_passTime_22 ?_
        refine lv_iload_n hC.1 hC.2.1 dX2_passTime_23 rfl (lv_at hl 1 rfl) ?_
        refine runP (rV (B := fun U H => PW G (stW G q v_2) H) (As := [.int ((v_2 0) d2), .int x1]) (rest := [.int (nI d2), .ref (q 1)]) hC mwX2_cooledFor (c_X2_cooledFor l G q v_2 ((v_2 0) d2) x1) iwX2_cooledFor wd_524 ⟨rfl, rfl⟩ ⟨Nat.le_of_ble_eq_true rfl, Nat.le_of_ble_eq_true rfl⟩ (stb_h (fun H => PW G (stW G q v_2) H)) (hKN.go hAL hS) hP (va_recv (hKN.go hAL hS).k hP (ci := 2) (q0 := 0) rfl rfl) rfl hl.1 rfl (Nat.le_of_ble_eq_true rfl) dX2_passTime_24 ⟨Nat.zero_le _, Nat.zero_le _⟩) ?_
        refine lv_topi (fun w_4 ew_4 => ?_)
        refine iast_k hC (hKN.go hAL hS) hP (stD_D hq v_2) hS 1 rfl (n := 24) (f := (v_2 0)) d2 (rfl) (by omega) (by decide) dX2_passTime_27 (fun H locs hq_5 hS => ?_)
        have hP : PW G (stW G q (mkS (upd (v_2 0) d2 w_4) (v_2 1) (v_2 2) (v_2 3) (v_2 4) (v_2 5) (v_2 6) (v_2 7) (v_2 8 0) (v_2 8 1) (v_2 8 2) (v_2 8 3) (v_2 8 4) (v_2 8 5) (v_2 8 6) (v_2 8 7) (v_2 8 8) (v_2 8 9) (v_2 8 10))) H := hq_5
        refine lv_iinc (v := nI (d2 + 1)) (lv' := [(2, .int (nI (d2 + 1))), (0, .ref (q 0)), (1, .int x1)]) hC.1 hC.2.1 dX2_passTime_28 hl (k := 2) rfl (nI_1 _) (by decide) rfl (fun ls hl => ?_)
        refine lv_goto (tgt := 2) hC.1 hC.2.1 dX2_passTime_31 (by decide) ?_
        have e_6 : bX2_passTime_2 v x1 d2 v_2 = mkS (upd (v_2 0) d2 w_4) (v_2 1) (v_2 2) (v_2 3) (v_2 4) (v_2 5) (v_2 6) (v_2 7) (v_2 8 0) (v_2 8 1) (v_2 8 2) (v_2 8 3) (v_2 8 4) (v_2 8 5) (v_2 8 6) (v_2 8 7) (v_2 8 8) (v_2 8 9) (v_2 8 10) := by subst ew_4; exact rfl
        have hg : fX2_passTime v x1 = (tX2_passTime_2 v x1 (lpF n2 (d2 + 1) (bX2_passTime_2 v x1) (mkS (upd (v_2 0) d2 w_4) (v_2 1) (v_2 2) (v_2 3) (v_2 4) (v_2 5) (v_2 6) (v_2 7) (v_2 8 0) (v_2 8 1) (v_2 8 2) (v_2 8 3) (v_2 8 4) (v_2 8 5) (v_2 8 6) (v_2 8 7) (v_2 8 8) (v_2 8 9) (v_2 8 10)))) := hg.trans (congrArg (fun z => (tX2_passTime_2 v x1 (lpF n2 (d2 + 1) (bX2_passTime_2 v x1) z))) e_6)
        exact ih (d2 + 1) (mkS (upd (v_2 0) d2 w_4) (v_2 1) (v_2 2) (v_2 3) (v_2 4) (v_2 5) (v_2 6) (v_2 7) (v_2 8 0) (v_2 8 1) (v_2 8 2) (v_2 8 3) (v_2 8 4) (v_2 8 5) (v_2 8 6) (v_2 8 7) (v_2 8 8) (v_2 8 9) (v_2 8 10)) (by omega) hg _ _ hP hS _ (lv_sub hl [1, 2, 0] rfl)
  have e_7 : fX2_passTime v x1 = tX2_passTime_2 v x1 (lpF 24 0 (bX2_passTime_2 v x1) v) := by exact rfl
  have hg : fX2_passTime v x1 = (tX2_passTime_2 v x1 (lpF 24 0 (bX2_passTime_2 v x1) v)) := hg.trans (congrArg (fun z => z) e_7)
  exact L2  24 0 v (by omega) hg _ _ hP hS _ (lv_sub hl [1, 2, 0] rfl)

theorem dX2_changePaper_0 : decode cX2_changePaper 0 = .ok (.aload_n 0, 1) := by decide +kernel
theorem dX2_changePaper_1 : decode cX2_changePaper 1 = .ok (.iload_n 1, 1) := by decide +kernel
theorem dX2_changePaper_2 : decode cX2_changePaper 2 = .ok (.putfield 49, 3) := by decide +kernel
theorem dX2_changePaper_5 : decode cX2_changePaper 5 = .ok (.aload_n 0, 1) := by decide +kernel
theorem dX2_changePaper_6 : decode cX2_changePaper 6 = .ok (.getfield 31, 3) := by decide +kernel
theorem dX2_changePaper_9 : decode cX2_changePaper 9 = .ok (.iconst 0, 1) := by decide +kernel
theorem dX2_changePaper_10 : decode cX2_changePaper 10 = .ok (.putfield 67, 3) := by decide +kernel
theorem dX2_changePaper_13 : decode cX2_changePaper 13 = .ok (.return_, 1) := by decide +kernel
set_option maxHeartbeats 1000000 in
set_option maxRecDepth 100000 in
theorem c_X2_changePaper (l : Launch) (G : GT) (q : Nat → Nat) (v : SV) (x1 : Int32) (hq : stD G q) : Met l yX2_changePaper (Cond.code yX2_changePaper cX2_changePaper 2 none :: bigW) ({ frames := 0, cells := 0, slots := 0, locals := 0 }) (BP G [.ref (q 0), .int x1] (fun U H => PW G (stW G q v) H)) (QE (none) (fun H => PW G (stW G q (fX2_changePaper v x1)) H) (stA q)) 0 0 (stA q) := by
  refine met_of (by decide) (Nat.le_of_ble_eq_true rfl) ?_
  intro p e s m below meth c ls hC hKN hB0 hl
  have hP := hB0
  have hl : lv_has ls 2 [(0, .ref (q 0)), (1, .int x1)] := hl
  have hS : va_S (stA q) s.heap s.heap [] := va_S.rf
  have hAL : ∀ a, (stA q) a → gL G ≤ a := stD_low hq
  have hg : fX2_changePaper v x1 = fX2_changePaper v x1 := rfl
  refine lv_aload_n hC.1 hC.2.1 dX2_changePaper_0 rfl (lv_at hl 0 rfl) ?_
  refine lv_iload_n hC.1 hC.2.1 dX2_changePaper_1 rfl (lv_at hl 1 rfl) ?_
  refine pf (v := .int x1) (tv := .int) hC fwX2 hKN hP (stD_D hq v) hS 0 rfl rfl 7 (by decide) rfl wd_125 rfl rfl rfl (Nat.le_of_ble_eq_true rfl) dX2_changePaper_2 (fun H locs hq_1 hS => ?_)
  have hP : PW G (stW G q (mkS (v 0) (v 1) (v 2) (v 3) (v 4) (v 5) (v 6) (v 7) (v 8 0) (v 8 1) (v 8 2) (v 8 3) (v 8 4) (v 8 5) (v 8 6) (v 8 7) (v 8 8) (v 8 9) x1)) H := hq_1
  refine lv_aload_n hC.1 hC.2.1 dX2_changePaper_5 rfl (lv_at hl 0 rfl) ?_
  refine gf (v := .ref (q 4)) hC fwX2 (hKN.go hAL hS) hP 0 rfl rfl 3 (by decide) rfl wd_119 rfl dX2_changePaper_6 ?_
  refine lv_iconst (v := 0) hC.1 hC.2.1 dX2_changePaper_9 (by decide) ?_
  refine pfN (v := .int 0) (tv := .int) hC fwX3 (hKN.go hAL hS) hP (stD_D hq (mkS (v 0) (v 1) (v 2) (v 3) (v 4) (v 5) (v 6) (v 7) (v 8 0) (v 8 1) (v 8 2) (v 8 3) (v 8 4) (v 8 5) (v 8 6) (v 8 7) (v 8 8) (v 8 9) x1)) hS 4 rfl rfl 3 (by decide) rfl (nf_1 (hKN.go hAL hS)) rfl rfl rfl (Nat.le_of_ble_eq_true rfl) dX2_changePaper_10 (fun H locs hq_2 hS => ?_)
  have hP : PW G (stW G q (mkS (v 0) (v 1) (v 2) (v 3) (v 4) (v 5) (v 6) (v 7) 0 (v 8 1) (v 8 2) (v 8 3) (v 8 4) (v 8 5) (v 8 6) (v 8 7) (v 8 8) (v 8 9) x1)) H := hq_2
  have e_3 : fX2_changePaper v x1 = mkS (v 0) (v 1) (v 2) (v 3) (v 4) (v 5) (v 6) (v 7) 0 (v 8 1) (v 8 2) (v 8 3) (v 8 4) (v 8 5) (v 8 6) (v 8 7) (v 8 8) (v 8 9) x1 := by exact rfl
  have hg : fX2_changePaper v x1 = mkS (v 0) (v 1) (v 2) (v 3) (v 4) (v 5) (v 6) (v 7) 0 (v 8 1) (v 8 2) (v 8 3) (v 8 4) (v 8 5) (v 8 6) (v 8 7) (v 8 8) (v 8 9) x1 := hg.trans (congrArg (fun z => z) e_3)
  exact eE_v hC (by show PW G (stW G q (fX2_changePaper v x1)) H; rw [hg]; exact hP) hS dX2_changePaper_13

theorem dX2_changeSetting_0 : decode cX2_changeSetting 0 = .ok (.aload_n 0, 1) := by decide +kernel
theorem dX2_changeSetting_1 : decode cX2_changeSetting 1 = .ok (.getfield 21, 3) := by decide +kernel
theorem dX2_changeSetting_4 : decode cX2_changeSetting 4 = .ok (.iload_n 1, 1) := by decide +kernel
theorem dX2_changeSetting_5 : decode cX2_changeSetting 5 = .ok (.iload_n 2, 1) := by decide +kernel
theorem dX2_changeSetting_6 : decode cX2_changeSetting 6 = .ok (.invokestatic 63, 3) := by decide +kernel
theorem dX2_changeSetting_9 : decode cX2_changeSetting 9 = .ok (.return_, 1) := by decide +kernel
set_option maxHeartbeats 1000000 in
set_option maxRecDepth 100000 in
theorem c_X2_changeSetting (l : Launch) (G : GT) (q : Nat → Nat) (v : SV) (x1 : Int32) (x2 : Int32) (hq : stD G q) : Met l yX2_changeSetting (Cond.code yX2_changeSetting cX2_changeSetting 3 none :: bigW) ({ frames := 1, cells := 0, slots := 0, locals := 22 }) (BP G [.ref (q 0), .int x1, .int x2] (fun U H => PW G (stW G q v) H)) (QE (none) (fun H => PW G (stW G q (fX2_changeSetting v x1 x2)) H) (stA q)) 0 0 (stA q) := by
  refine met_of (by decide) (Nat.le_of_ble_eq_true rfl) ?_
  intro p e s m below meth c ls hC hKN hB0 hl
  have hP := hB0
  have hl : lv_has ls 3 [(0, .ref (q 0)), (1, .int x1), (2, .int x2)] := hl
  have hS : va_S (stA q) s.heap s.heap [] := va_S.rf
  have hAL : ∀ a, (stA q) a → gL G ≤ a := stD_low hq
  have hg : fX2_changeSetting v x1 x2 = fX2_changeSetting v x1 x2 := rfl
  refine lv_aload_n hC.1 hC.2.1 dX2_changeSetting_0 rfl (lv_at hl 0 rfl) ?_
  refine gf (v := .ref (q 3)) hC fwX2 hKN hP 0 rfl rfl 2 (by decide) rfl wd_118 rfl dX2_changeSetting_1 ?_
  refine lv_iload_n hC.1 hC.2.1 dX2_changeSetting_4 rfl (lv_at hl 1 rfl) ?_
  refine lv_iload_n hC.1 hC.2.1 dX2_changeSetting_5 rfl (lv_at hl 2 rfl) ?_
  refine runE (rSN (B := fun U H => PW G (a1W G (q 3) 7 (v 2)) H) (As := [.ref (q 3), .int x1, .int x2]) (rest := []) hC mwX5_put (c_X5_put l G (q 3) 7 (v 2) x1 x2 (stD_low hq _ ⟨3, by decide, rfl⟩)) wd_492 (nm_9 hKN) ⟨rfl, rfl⟩ ⟨Nat.le_of_ble_eq_true rfl, Nat.le_of_ble_eq_true rfl⟩ (stb_h (fun H => PW G (a1W G (q 3) 7 (v 2)) H)) hKN (one_of hP 3 rfl) rfl hl.1 rfl (Nat.le_of_ble_eq_true rfl) dX2_changeSetting_6 ⟨Nat.zero_le _, Nat.zero_le _⟩) hS (fun _ h => ⟨3, by decide, h⟩) (fun _ h => ⟨3, by decide, h⟩) (fun H locs hq_1 _ hk_3 hS => ?_)
  have hP : PW G (stW G q (mkS (v 0) (v 1) (fX5_put 7 (v 2) x1 x2) (v 3) (v 4) (v 5) (v 6) (v 7) (v 8 0) (v 8 1) (v 8 2) (v 8 3) (v 8 4) (v 8 5) (v 8 6) (v 8 7) (v 8 8) (v 8 9) (v 8 10))) H := one_set hP (stD_D hq v) 3 rfl hq_1 hk_3
  have e_4 : fX2_changeSetting v x1 x2 = mkS (v 0) (v 1) (fX5_put 7 (v 2) x1 x2) (v 3) (v 4) (v 5) (v 6) (v 7) (v 8 0) (v 8 1) (v 8 2) (v 8 3) (v 8 4) (v 8 5) (v 8 6) (v 8 7) (v 8 8) (v 8 9) (v 8 10) := by exact rfl
  have hg : fX2_changeSetting v x1 x2 = mkS (v 0) (v 1) (fX5_put 7 (v 2) x1 x2) (v 3) (v 4) (v 5) (v 6) (v 7) (v 8 0) (v 8 1) (v 8 2) (v 8 3) (v 8 4) (v 8 5) (v 8 6) (v 8 7) (v 8 8) (v 8 9) (v 8 10) := hg.trans (congrArg (fun z => z) e_4)
  exact eE_v hC (by show PW G (stW G q (fX2_changeSetting v x1 x2)) H; rw [hg]; exact hP) hS dX2_changeSetting_9
end
section
def fX5_copyRow (n1 : Nat) (f1 : Nat → Int32) (n2 : Nat) (f2 : Nat → Int32) : Nat → Int32 := va_cpy f1 f2 0 0 n2
section CPR
variable {p : Program} {l : Launch} {e : Env} {R : Room} {s : State} {m : MethodId} {args : Array Value} {below : List Frame} {meth : Method} {c : Code} {H : Heap} {locs : List Loc} {cells slots : Nat} {Q : State → Prop}
variable {y0 : MethodName} {cc : ByteArray} {nL : Nat} {ret0 : Option FieldType} {rest : List Value} {pc : Nat} {ls : Array Slot} {G : GT} {ws : va_W} {A : Nat → Prop} {H0 : Heap} {a : Nat}
/-- System.arraycopy out of an int array that is only read: from 0 to 0 -/
theorem cp_rd (hC : CX p s m meth c y0 cc nL ret0 args) (hls : ls.size = nL) {index : Nat} (hlink : Cond.methodLink y0.cls index arraycopyName ∈ bigW) (hnat : Cond.native arraycopyName ∈ bigW) (hstat : Cond.static arraycopyName ∈ bigW) (hini : Cond.initialized "java/lang/System" ∈ bigW)
    (hKN : KN G s H) (hP : PW G ws H) (hD : va_D A ws) (hS : va_S A H0 H locs) {b0 n : Nat} {f : Nat → Int32} (hR : RD b0 n f s H) (q1 : Nat) {g : Nat → Int32} (ha1 : ws[q1]? = some (a, .inl (gI G, n, .inl g))) (hn : n < 2 ^ 31)
    (hframes : 1 ≤ R.frames) (hlocals : (rest.map fun v => v.category).sum + (nativeFrameWords "java/lang/System" "arraycopy" 5 + 11) ≤ R.locals) (hdg : decode cc pc = .ok (.invokestatic index, 3))
    (kk : ∀ (H1 : Heap) (locs1 : List Loc), PW G (ws.set q1 (a, .inl (gI G, n, .inl (va_cpy f g 0 0 n)))) H1 → va_S A H0 H1 locs1 → W p l e R s m args below meth c H1 locs1 cells slots Q (F0 m (pc + 3) ls rest)) : W p l e R s m args below meth c H locs cells slots Q (F0 m pc ls (.int (nI n) :: .int 0 :: .ref a :: .int 0 :: .ref b0 :: rest)) := by
  have hB := hC.2.2.2.2.2.2.1
  intro T hT X
  obtain ⟨cs, r1, r2, r3, r4, r5, r6, -⟩ := hR
  have hc1 : H[a]? = some (vp_cell (gI G) (n, .inl g)) := hP q1 _ ha1
  obtain ⟨w0, k0, hk0, cm0, hkk0⟩ := r2
  obtain ⟨-, k1, hk1, cm1, hkk1⟩ := (hKN.k.2 0 _ rfl).1 n (fun j => .int (g j))
  have hcl : (nI n).toNatClampNeg = n := nI_clamp hn
  have hti : (nI n).toInt = (n : Int) := nI_toInt hn
  have h0 : (0 : Int32).toNatClampNeg = 0 := rfl
  have h0i : (0 : Int32).toInt = 0 := rfl
  obtain ⟨vm', X', step⟩ := X.arraycopy hC.1 hC.2.2.2.2.1 (hB _ hlink) (hB _ hnat) (hB _ hstat) (hB _ hini) (src := b0) (dst := a) (cs := cs) (cd := vp_cell (gI G) (n, .inl g)) (srcPos := 0) (destPos := 0) (n := nI n) (by rw [hT]; exact r1) (by rw [hT]; exact hc1)
    w0 (fun _ h => by cases h) r3 (fun h => by cases h) hk0 hk1 hkk0 hkk1 (by rfl) (by decide) (by decide) (nI_pos hn)
    (by rw [h0i, hti]; omega)
    (by rw [h0i, hti]; show ¬ _ > ((arrV (gI G) n (fun j => .int (g j))).slots.size : Int); rw [arrV_size]; omega)
    (fun vm₁ _ i hi => by
      have e : cs.slots.getD ((0 : Int32).toNatClampNeg + i) .null = .int (f i) := by
        rw [h0, Nat.zero_add, Array.getD_eq_getD_getElem?, r6 i (by rw [hcl] at hi; exact hi)]
        rfl
      refine ⟨?_, ?_⟩
      · rw [e]; rfl
      · rw [e]; exact trivial)
    (g := F0 m pc ls (.int (nI n) :: .int 0 :: .ref a :: .int 0 :: .ref b0 :: rest)) rfl (hls.trans hC.2.2.2.1.symm) (rest := rest) rfl (by rw [hC.2.1]; exact hdg) hframes (by show 2 * 0 + _ + _ ≤ _; omega)
  have e1 : copied cs (vp_cell (gI G) (n, .inl g)) 0 0 (nI n) = vp_cell (gI G) (n, .inl (va_cpy f g 0 0 n)) := by
    have := va_copiedX (fun z : Int32 => Value.int z) cs (gI G) (n0 := n) (n1 := n) (sp := 0) (dp := 0) (n := n) f g r6 (by omega)
    show (arrV (gI G) n (fun j => .int (g j))).storeRun (0 : Int32).toNatClampNeg (cs.stretch (0 : Int32).toNatClampNeg (nI n).toNatClampNeg) = _
    rw [hcl, h0]
    exact this
  rw [e1] at X' step
  have hl : a < H.size := (Array.getElem?_eq_some_iff.mp hc1).1
  have hheap : ((T.setVm vm').setCell a (vp_cell (gI G) (n, .inl (va_cpy f g 0 0 n)))).heap = H.setIfInBounds a (vp_cell (gI G) (n, .inl (va_cpy f g 0 0 n))) := by rw [← hT]; rfl
  have oq : ∀ q : Nat, q ≠ a → (H.setIfInBounds a (vp_cell (gI G) (n, .inl (va_cpy f g 0 0 n))))[q]? = H[q]? := fun q hq => by simp [Array.getElem?_setIfInBounds, Ne.symm hq]
  obtain ⟨t, a1, b1⟩ := kk _ _ (hP.set hD ha1 (show (H.setIfInBounds a _)[a]? = some _ by simp [Array.getElem?_setIfInBounds, hl]) oq) ⟨by simp; exact hS.1, fun q g1 g2 => by
      rw [oq q (fun e => g2 (by rw [e]; exact hD.2 q1 _ ha1))]
      exact hS.2.1 q g1 g2, fun q hq => by
      rcases List.mem_append.mp hq with h | h
      · exact hS.2.2 q h
      · obtain ⟨z, -, hz⟩ := List.mem_map.mp h
        rw [← hz]
        exact hD.2 q1 _ ha1⟩ _ hheap X'
  exact ⟨t, step t a1, b1⟩
end CPR
theorem dX5_copyRow_0 : decode cX5_copyRow 0 = .ok (.aload_n 0, 1) := by decide +kernel
theorem dX5_copyRow_1 : decode cX5_copyRow 1 = .ok (.iconst 0, 1) := by decide +kernel
theorem dX5_copyRow_2 : decode cX5_copyRow 2 = .ok (.aload_n 1, 1) := by decide +kernel
theorem dX5_copyRow_3 : decode cX5_copyRow 3 = .ok (.iconst 0, 1) := by decide +kernel
theorem dX5_copyRow_4 : decode cX5_copyRow 4 = .ok (.aload_n 0, 1) := by decide +kernel
theorem dX5_copyRow_5 : decode cX5_copyRow 5 = .ok (.arraylength, 1) := by decide +kernel
theorem dX5_copyRow_6 : decode cX5_copyRow 6 = .ok (.aload_n 1, 1) := by decide +kernel
theorem dX5_copyRow_7 : decode cX5_copyRow 7 = .ok (.arraylength, 1) := by decide +kernel
theorem dX5_copyRow_8 : decode cX5_copyRow 8 = .ok (.invokestatic 313, 3) := by decide +kernel
theorem dX5_copyRow_11 : decode cX5_copyRow 11 = .ok (.invokestatic 316, 3) := by decide +kernel
theorem dX5_copyRow_14 : decode cX5_copyRow 14 = .ok (.return_, 1) := by decide +kernel
theorem c_X5_copyRow (l : Launch) (G : GT) (a1 n1 : Nat) (f1 : Nat → Int32) (a2 n2 : Nat) (f2 : Nat → Int32) (hlow : gL G ≤ a2) (hn : n1 = n2 ∧ n2 < 2 ^ 31) : Met l yX5_copyRow (Cond.code yX5_copyRow cX5_copyRow 2 none :: bigW) ({ frames := 1, cells := 0, slots := 0, locals := 30 }) (BP G [.ref a1, .ref a2] (fun U H => RD a1 n1 f1 U H ∧ PW G (a1W G a2 n2 f2) H)) (QE none (fun H => PW G (a1W G a2 n2 (fX5_copyRow n1 f1 n2 f2)) H) (fun z => z = a2)) 0 0 (fun z => z = a2) := by
  obtain ⟨rfl, hn⟩ := hn
  refine met_of (by decide) (Nat.le_of_ble_eq_true rfl) ?_
  intro p e s m below meth c ls hC hKN hB0 hl
  obtain ⟨hR1, hP⟩ := hB0
  have hl : lv_has ls 2 [(0, .ref a1), (1, .ref a2)] := hl
  have hS : va_S (fun z => z = a2) s.heap s.heap [] := va_S.rf
  refine lv_aload_n hC.1 hC.2.1 dX5_copyRow_0 rfl (lv_at hl 0 rfl) ?_
  refine lv_iconst (v := 0) hC.1 hC.2.1 dX5_copyRow_1 (by decide) ?_
  refine lv_aload_n hC.1 hC.2.1 dX5_copyRow_2 rfl (lv_at hl 1 rfl) ?_
  refine lv_iconst (v := 0) hC.1 hC.2.1 dX5_copyRow_3 (by decide) ?_
  refine lv_aload_n hC.1 hC.2.1 dX5_copyRow_4 rfl (lv_at hl 0 rfl) ?_
  refine rd_len hC hR1 dX5_copyRow_5 ?_
  refine lv_aload_n hC.1 hC.2.1 dX5_copyRow_6 rfl (lv_at hl 1 rfl) ?_
  refine alen_n hC hKN hP 0 rfl dX5_copyRow_7 ?_
  refine va_mmin hC.1 hC.2.1 (hC.2.2.2.1.trans hl.1.symm) hC.2.2.2.2.1 (hC.2.2.2.2.2.2.1 _ wd_42) (hC.2.2.2.2.2.2.1 _ wd_43) (hC.2.2.2.2.2.2.1 _ wd_3) (hC.2.2.2.2.2.2.1 _ wd_44) (Nat.le_of_ble_eq_true rfl) (Nat.le_of_ble_eq_true rfl) (Nat.zero_le _) (Nat.zero_le _) dX5_copyRow_8 ?_
  rw [ite_self]
  refine cp_rd hC hl.1 wd_45 wd_47 wd_46 wd_4 hKN hP (a1W_D f2) hS hR1 0 rfl hn (Nat.le_of_ble_eq_true rfl) (Nat.le_of_ble_eq_true rfl) dX5_copyRow_11 (fun H locs hP hS => ?_)
  exact eE_v hC hP hS dX5_copyRow_14
end
section
def fJ6_bitCount_0f7a4 (x1 : Int32) : Int32 := (((((((x1 - (((x1.toUInt32 >>> ((1 : Int32).toUInt32 &&& Int32.toUInt32 31)).toInt32) &&& 1431655765)) &&& 858993459) + ((((x1 - (((x1.toUInt32 >>> ((1 : Int32).toUInt32 &&& Int32.toUInt32 31)).toInt32) &&& 1431655765)).toUInt32 >>> ((2 : Int32).toUInt32 &&& Int32.toUInt32 31)).toInt32) &&& 858993459)) + (((((x1 - (((x1.toUInt32 >>> ((1 : Int32).toUInt32 &&& Int32.toUInt32 31)).toInt32) &&& 1431655765)) &&& 858993459) + ((((x1 - (((x1.toUInt32 >>> ((1 : Int32).toUInt32 &&& Int32.toUInt32 31)).toInt32) &&& 1431655765)).toUInt32 >>> ((2 : Int32).toUInt32 &&& Int32.toUInt32 31)).toInt32) &&& 858993459)).toUInt32 >>> ((4 : Int32).toUInt32 &&& Int32.toUInt32 31)).toInt32)) &&& 252645135) + (((((((x1 - (((x1.toUInt32 >>> ((1 : Int32).toUInt32 &&& Int32.toUInt32 31)).toInt32) &&& 1431655765)) &&& 858993459) + ((((x1 - (((x1.toUInt32 >>> ((1 : Int32).toUInt32 &&& Int32.toUInt32 31)).toInt32) &&& 1431655765)).toUInt32 >>> ((2 : Int32).toUInt32 &&& Int32.toUInt32 31)).toInt32) &&& 858993459)) + (((((x1 - (((x1.toUInt32 >>> ((1 : Int32).toUInt32 &&& Int32.toUInt32 31)).toInt32) &&& 1431655765)) &&& 858993459) + ((((x1 - (((x1.toUInt32 >>> ((1 : Int32).toUInt32 &&& Int32.toUInt32 31)).toInt32) &&& 1431655765)).toUInt32 >>> ((2 : Int32).toUInt32 &&& Int32.toUInt32 31)).toInt32) &&& 858993459)).toUInt32 >>> ((4 : Int32).toUInt32 &&& Int32.toUInt32 31)).toInt32)) &&& 252645135).toUInt32 >>> ((8 : Int32).toUInt32 &&& Int32.toUInt32 31)).toInt32)) + ((((((((x1 - (((x1.toUInt32 >>> ((1 : Int32).toUInt32 &&& Int32.toUInt32 31)).toInt32) &&& 1431655765)) &&& 858993459) + ((((x1 - (((x1.toUInt32 >>> ((1 : Int32).toUInt32 &&& Int32.toUInt32 31)).toInt32) &&& 1431655765)).toUInt32 >>> ((2 : Int32).toUInt32 &&& Int32.toUInt32 31)).toInt32) &&& 858993459)) + (((((x1 - (((x1.toUInt32 >>> ((1 : Int32).toUInt32 &&& Int32.toUInt32 31)).toInt32) &&& 1431655765)) &&& 858993459) + ((((x1 - (((x1.toUInt32 >>> ((1 : Int32).toUInt32 &&& Int32.toUInt32 31)).toInt32) &&& 1431655765)).toUInt32 >>> ((2 : Int32).toUInt32 &&& Int32.toUInt32 31)).toInt32) &&& 858993459)).toUInt32 >>> ((4 : Int32).toUInt32 &&& Int32.toUInt32 31)).toInt32)) &&& 252645135) + (((((((x1 - (((x1.toUInt32 >>> ((1 : Int32).toUInt32 &&& Int32.toUInt32 31)).toInt32) &&& 1431655765)) &&& 858993459) + ((((x1 - (((x1.toUInt32 >>> ((1 : Int32).toUInt32 &&& Int32.toUInt32 31)).toInt32) &&& 1431655765)).toUInt32 >>> ((2 : Int32).toUInt32 &&& Int32.toUInt32 31)).toInt32) &&& 858993459)) + (((((x1 - (((x1.toUInt32 >>> ((1 : Int32).toUInt32 &&& Int32.toUInt32 31)).toInt32) &&& 1431655765)) &&& 858993459) + ((((x1 - (((x1.toUInt32 >>> ((1 : Int32).toUInt32 &&& Int32.toUInt32 31)).toInt32) &&& 1431655765)).toUInt32 >>> ((2 : Int32).toUInt32 &&& Int32.toUInt32 31)).toInt32) &&& 858993459)).toUInt32 >>> ((4 : Int32).toUInt32 &&& Int32.toUInt32 31)).toInt32)) &&& 252645135).toUInt32 >>> ((8 : Int32).toUInt32 &&& Int32.toUInt32 31)).toInt32)).toUInt32 >>> ((16 : Int32).toUInt32 &&& Int32.toUInt32 31)).toInt32)) &&& 63
theorem dJ6_bitCount_0f7a4_0 : decode cJ6_bitCount_0f7a4 0 = .ok (.iload_n 0, 1) := by decide +kernel
theorem dJ6_bitCount_0f7a4_1 : decode cJ6_bitCount_0f7a4 1 = .ok (.iload_n 0, 1) := by decide +kernel
theorem dJ6_bitCount_0f7a4_2 : decode cJ6_bitCount_0f7a4 2 = .ok (.iconst 1, 1) := by decide +kernel
theorem dJ6_bitCount_0f7a4_3 : decode cJ6_bitCount_0f7a4 3 = .ok (.iushr, 1) := by decide +kernel
theorem dJ6_bitCount_0f7a4_4 : decode cJ6_bitCount_0f7a4 4 = .ok (.ldc_w 265, 3) := by decide +kernel
theorem dJ6_bitCount_0f7a4_7 : decode cJ6_bitCount_0f7a4 7 = .ok (.iand, 1) := by decide +kernel
theorem dJ6_bitCount_0f7a4_8 : decode cJ6_bitCount_0f7a4 8 = .ok (.isub, 1) := by decide +kernel
theorem dJ6_bitCount_0f7a4_9 : decode cJ6_bitCount_0f7a4 9 = .ok (.istore_n 0, 1) := by decide +kernel
theorem dJ6_bitCount_0f7a4_10 : decode cJ6_bitCount_0f7a4 10 = .ok (.iload_n 0, 1) := by decide +kernel
theorem dJ6_bitCount_0f7a4_11 : decode cJ6_bitCount_0f7a4 11 = .ok (.ldc_w 266, 3) := by decide +kernel
theorem dJ6_bitCount_0f7a4_14 : decode cJ6_bitCount_0f7a4 14 = .ok (.iand, 1) := by decide +kernel
theorem dJ6_bitCount_0f7a4_15 : decode cJ6_bitCount_0f7a4 15 = .ok (.iload_n 0, 1) := by decide +kernel
theorem dJ6_bitCount_0f7a4_16 : decode cJ6_bitCount_0f7a4 16 = .ok (.iconst 2, 1) := by decide +kernel
theorem dJ6_bitCount_0f7a4_17 : decode cJ6_bitCount_0f7a4 17 = .ok (.iushr, 1) := by decide +kernel
theorem dJ6_bitCount_0f7a4_18 : decode cJ6_bitCount_0f7a4 18 = .ok (.ldc_w 266, 3) := by decide +kernel
theorem dJ6_bitCount_0f7a4_21 : decode cJ6_bitCount_0f7a4 21 = .ok (.iand, 1) := by decide +kernel
theorem dJ6_bitCount_0f7a4_22 : decode cJ6_bitCount_0f7a4 22 = .ok (.iadd, 1) := by decide +kernel
theorem dJ6_bitCount_0f7a4_23 : decode cJ6_bitCount_0f7a4 23 = .ok (.istore_n 0, 1) := by decide +kernel
theorem dJ6_bitCount_0f7a4_24 : decode cJ6_bitCount_0f7a4 24 = .ok (.iload_n 0, 1) := by decide +kernel
theorem dJ6_bitCount_0f7a4_25 : decode cJ6_bitCount_0f7a4 25 = .ok (.iload_n 0, 1) := by decide +kernel
theorem dJ6_bitCount_0f7a4_26 : decode cJ6_bitCount_0f7a4 26 = .ok (.iconst 4, 1) := by decide +kernel
theorem dJ6_bitCount_0f7a4_27 : decode cJ6_bitCount_0f7a4 27 = .ok (.iushr, 1) := by decide +kernel
theorem dJ6_bitCount_0f7a4_28 : decode cJ6_bitCount_0f7a4 28 = .ok (.iadd, 1) := by decide +kernel
theorem dJ6_bitCount_0f7a4_29 : decode cJ6_bitCount_0f7a4 29 = .ok (.ldc_w 267, 3) := by decide +kernel
theorem dJ6_bitCount_0f7a4_32 : decode cJ6_bitCount_0f7a4 32 = .ok (.iand, 1) := by decide +kernel
theorem dJ6_bitCount_0f7a4_33 : decode cJ6_bitCount_0f7a4 33 = .ok (.istore_n 0, 1) := by decide +kernel
theorem dJ6_bitCount_0f7a4_34 : decode cJ6_bitCount_0f7a4 34 = .ok (.iload_n 0, 1) := by decide +kernel
theorem dJ6_bitCount_0f7a4_35 : decode cJ6_bitCount_0f7a4 35 = .ok (.iload_n 0, 1) := by decide +kernel
theorem dJ6_bitCount_0f7a4_36 : decode cJ6_bitCount_0f7a4 36 = .ok (.bipush 8, 2) := by decide +kernel
theorem dJ6_bitCount_0f7a4_38 : decode cJ6_bitCount_0f7a4 38 = .ok (.iushr, 1) := by decide +kernel
theorem dJ6_bitCount_0f7a4_39 : decode cJ6_bitCount_0f7a4 39 = .ok (.iadd, 1) := by decide +kernel
theorem dJ6_bitCount_0f7a4_40 : decode cJ6_bitCount_0f7a4 40 = .ok (.istore_n 0, 1) := by decide +kernel
theorem dJ6_bitCount_0f7a4_41 : decode cJ6_bitCount_0f7a4 41 = .ok (.iload_n 0, 1) := by decide +kernel
theorem dJ6_bitCount_0f7a4_42 : decode cJ6_bitCount_0f7a4 42 = .ok (.iload_n 0, 1) := by decide +kernel
theorem dJ6_bitCount_0f7a4_43 : decode cJ6_bitCount_0f7a4 43 = .ok (.bipush 16, 2) := by decide +kernel
theorem dJ6_bitCount_0f7a4_45 : decode cJ6_bitCount_0f7a4 45 = .ok (.iushr, 1) := by decide +kernel
theorem dJ6_bitCount_0f7a4_46 : decode cJ6_bitCount_0f7a4 46 = .ok (.iadd, 1) := by decide +kernel
theorem dJ6_bitCount_0f7a4_47 : decode cJ6_bitCount_0f7a4 47 = .ok (.istore_n 0, 1) := by decide +kernel
theorem dJ6_bitCount_0f7a4_48 : decode cJ6_bitCount_0f7a4 48 = .ok (.iload_n 0, 1) := by decide +kernel
theorem dJ6_bitCount_0f7a4_49 : decode cJ6_bitCount_0f7a4 49 = .ok (.bipush 63, 2) := by decide +kernel
theorem dJ6_bitCount_0f7a4_51 : decode cJ6_bitCount_0f7a4 51 = .ok (.iand, 1) := by decide +kernel
theorem dJ6_bitCount_0f7a4_52 : decode cJ6_bitCount_0f7a4 52 = .ok (.ireturn, 1) := by decide +kernel
set_option maxHeartbeats 1000000 in
set_option maxRecDepth 100000 in
theorem c_J6_bitCount_0f7a4 (l : Launch) (G : GT) (x1 : Int32) : Met l yJ6_bitCount_0f7a4 (Cond.code yJ6_bitCount_0f7a4 cJ6_bitCount_0f7a4 1 (some .int) :: bigW) ({ frames := 0, cells := 0, slots := 0, locals := 0 }) (BP G [.int x1] (fun U H => True)) (QP (.int (fJ6_bitCount_0f7a4 x1))) 0 0 (fun _ => False) := by
  refine met_of (by decide) (Nat.le_of_ble_eq_true rfl) ?_
  intro p e s m below meth c ls hC hKN hB0 hl
  have hl : lv_has ls 1 [(0, .int x1)] := hl
  have hg : fJ6_bitCount_0f7a4 x1 = fJ6_bitCount_0f7a4 x1 := rfl
  refine lv_iload_n hC.1 hC.2.1 dJ6_bitCount_0f7a4_0 rfl (lv_at hl 0 rfl) ?_
  refine lv_iload_n hC.1 hC.2.1 dJ6_bitCount_0f7a4_1 rfl (lv_at hl 0 rfl) ?_
  refine lv_iconst (v := 1) hC.1 hC.2.1 dJ6_bitCount_0f7a4_2 (by decide) ?_
  refine lv_iushr (v := (x1.toUInt32 >>> ((1 : Int32).toUInt32 &&& Int32.toUInt32 31)).toInt32) hC.1 hC.2.1 dJ6_bitCount_0f7a4_3 rfl ?_
  refine lv_ldcw (v := 1431655765) hC.1 hC.2.1 hC.2.2.2.2.1 (hC.2.2.2.2.2.2.1 _ wd_505) dJ6_bitCount_0f7a4_4 ?_
  refine lv_iand hC.1 hC.2.1 dJ6_bitCount_0f7a4_7 ?_
  refine lv_isub hC.1 hC.2.1 dJ6_bitCount_0f7a4_8 ?_
  refine lv_istore_n (lv' := [(0, .int (x1 - (((x1.toUInt32 >>> ((1 : Int32).toUInt32 &&& Int32.toUInt32 31)).toInt32) &&& 1431655765)))]) hC.1 hC.2.1 dJ6_bitCount_0f7a4_9 rfl hl (by decide) rfl (fun ls hl => ?_)
  refine lv_iload_n hC.1 hC.2.1 dJ6_bitCount_0f7a4_10 rfl (lv_at hl 0 rfl) ?_
  refine lv_ldcw (v := 858993459) hC.1 hC.2.1 hC.2.2.2.2.1 (hC.2.2.2.2.2.2.1 _ wd_506) dJ6_bitCount_0f7a4_11 ?_
  refine lv_iand hC.1 hC.2.1 dJ6_bitCount_0f7a4_14 ?_
  refine lv_iload_n hC.1 hC.2.1 dJ6_bitCount_0f7a4_15 rfl (lv_at hl 0 rfl) ?_
  refine lv_iconst (v := 2) hC.1 hC.2.1 dJ6_bitCount_0f7a4_16 (by decide) ?_
  refine lv_iushr (v := ((x1 - (((x1.toUInt32 >>> ((1 : Int32).toUInt32 &&& Int32.toUInt32 31)).toInt32) &&& 1431655765)).toUInt32 >>> ((2 : Int32).toUInt32 &&& Int32.toUInt32 31)).toInt32) hC.1 hC.2.1 dJ6_bitCount_0f7a4_17 rfl ?_
  refine lv_ldcw (v := 858993459) hC.1 hC.2.1 hC.2.2.2.2.1 (hC.2.2.2.2.2.2.1 _ wd_506) dJ6_bitCount_0f7a4_18 ?_
  refine lv_iand hC.1 hC.2.1 dJ6_bitCount_0f7a4_21 ?_
  refine lv_iadd hC.1 hC.2.1 dJ6_bitCount_0f7a4_22 ?_
  refine lv_istore_n (lv' := [(0, .int (((x1 - (((x1.toUInt32 >>> ((1 : Int32).toUInt32 &&& Int32.toUInt32 31)).toInt32) &&& 1431655765)) &&& 858993459) + ((((x1 - (((x1.toUInt32 >>> ((1 : Int32).toUInt32 &&& Int32.toUInt32 31)).toInt32) &&& 1431655765)).toUInt32 >>> ((2 : Int32).toUInt32 &&& Int32.toUInt32 31)).toInt32) &&& 858993459)))]) hC.1 hC.2.1 dJ6_bitCount_0f7a4_23 rfl hl (by decide) rfl (fun ls hl => ?_)
  refine lv_iload_n hC.1 hC.2.1 dJ6_bitCount_0f7a4_24 rfl (lv_at hl 0 rfl) ?_
  refine lv_iload_n hC.1 hC.2.1 dJ6_bitCount_0f7a4_25 rfl (lv_at hl 0 rfl) ?_
  refine lv_iconst (v := 4) hC.1 hC.2.1 dJ6_bitCount_0f7a4_26 (by decide) ?_
  refine lv_iushr (v := ((((x1 - (((x1.toUInt32 >>> ((1 : Int32).toUInt32 &&& Int32.toUInt32 31)).toInt32) &&& 1431655765)) &&& 858993459) + ((((x1 - (((x1.toUInt32 >>> ((1 : Int32).toUInt32 &&& Int32.toUInt32 31)).toInt32) &&& 1431655765)).toUInt32 >>> ((2 : Int32).toUInt32 &&& Int32.toUInt32 31)).toInt32) &&& 858993459)).toUInt32 >>> ((4 : Int32).toUInt32 &&& Int32.toUInt32 31)).toInt32) hC.1 hC.2.1 dJ6_bitCount_0f7a4_27 rfl ?_
  refine lv_iadd hC.1 hC.2.1 dJ6_bitCount_0f7a4_28 ?_
  refine lv_ldcw (v := 252645135) hC.1 hC.2.1 hC.2.2.2.2.1 (hC.2.2.2.2.2.2.1 _ wd_507) dJ6_bitCount_0f7a4_29 ?_
  refine lv_iand hC.1 hC.2.1 dJ6_bitCount_0f7a4_32 ?_
  refine lv_istore_n (lv' := [(0, .int (((((x1 - (((x1.toUInt32 >>> ((1 : Int32).toUInt32 &&& Int32.toUInt32 31)).toInt32) &&& 1431655765)) &&& 858993459) + ((((x1 - (((x1.toUInt32 >>> ((1 : Int32).toUInt32 &&& Int32.toUInt32 31)).toInt32) &&& 1431655765)).toUInt32 >>> ((2 : Int32).toUInt32 &&& Int32.toUInt32 31)).toInt32) &&& 858993459)) + (((((x1 - (((x1.toUInt32 >>> ((1 : Int32).toUInt32 &&& Int32.toUInt32 31)).toInt32) &&& 1431655765)) &&& 858993459) + ((((x1 - (((x1.toUInt32 >>> ((1 : Int32).toUInt32 &&& Int32.toUInt32 31)).toInt32) &&& 1431655765)).toUInt32 >>> ((2 : Int32).toUInt32 &&& Int32.toUInt32 31)).toInt32) &&& 858993459)).toUInt32 >>> ((4 : Int32).toUInt32 &&& Int32.toUInt32 31)).toInt32)) &&& 252645135))]) hC.1 hC.2.1 dJ6_bitCount_0f7a4_33 rfl hl (by decide) rfl (fun ls hl => ?_)
  refine lv_iload_n hC.1 hC.2.1 dJ6_bitCount_0f7a4_34 rfl (lv_at hl 0 rfl) ?_
  refine lv_iload_n hC.1 hC.2.1 dJ6_bitCount_0f7a4_35 rfl (lv_at hl 0 rfl) ?_
  refine lv_bipush (v := 8) hC.1 hC.2.1 dJ6_bitCount_0f7a4_36 (by decide +kernel) ?_
  refine lv_iushr (v := ((((((x1 - (((x1.toUInt32 >>> ((1 : Int32).toUInt32 &&& Int32.toUInt32 31)).toInt32) &&& 1431655765)) &&& 858993459) + ((((x1 - (((x1.toUInt32 >>> ((1 : Int32).toUInt32 &&& Int32.toUInt32 31)).toInt32) &&& 1431655765)).toUInt32 >>> ((2 : Int32).toUInt32 &&& Int32.toUInt32 31)).toInt32) &&& 858993459)) + (((((x1 - (((x1.toUInt32 >>> ((1 : Int32).toUInt32 &&& Int32.toUInt32 31)).toInt32) &&& 1431655765)) &&& 858993459) + ((((x1 - (((x1.toUInt32 >>> ((1 : Int32).toUInt32 &&& Int32.toUInt32 31)).toInt32) &&& 1431655765)).toUInt32 >>> ((2 : Int32).toUInt32 &&& Int32.toUInt32 31)).toInt32) &&& 858993459)).toUInt32 >>> ((4 : Int32).toUInt32 &&& Int32.toUInt32 31)).toInt32)) &&& 252645135).toUInt32 >>> ((8 : Int32).toUInt32 &&& Int32.toUInt32 31)).toInt32) hC.1 hC.2.1 dJ6_bitCount_0f7a4_38 rfl ?_
  refine lv_iadd hC.1 hC.2.1 dJ6_bitCount_0f7a4_39 ?_
  refine lv_istore_n (lv' := [(0, .int ((((((x1 - (((x1.toUInt32 >>> ((1 : Int32).toUInt32 &&& Int32.toUInt32 31)).toInt32) &&& 1431655765)) &&& 858993459) + ((((x1 - (((x1.toUInt32 >>> ((1 : Int32).toUInt32 &&& Int32.toUInt32 31)).toInt32) &&& 1431655765)).toUInt32 >>> ((2 : Int32).toUInt32 &&& Int32.toUInt32 31)).toInt32) &&& 858993459)) + (((((x1 - (((x1.toUInt32 >>> ((1 : Int32).toUInt32 &&& Int32.toUInt32 31)).toInt32) &&& 1431655765)) &&& 858993459) + ((((x1 - (((x1.toUInt32 >>> ((1 : Int32).toUInt32 &&& Int32.toUInt32 31)).toInt32) &&& 1431655765)).toUInt32 >>> ((2 : Int32).toUInt32 &&& Int32.toUInt32 31)).toInt32) &&& 858993459)).toUInt32 >>> ((4 : Int32).toUInt32 &&& Int32.toUInt32 31)).toInt32)) &&& 252645135) + (((((((x1 - (((x1.toUInt32 >>> ((1 : Int32).toUInt32 &&& Int32.toUInt32 31)).toInt32) &&& 1431655765)) &&& 858993459) + ((((x1 - (((x1.toUInt32 >>> ((1 : Int32).toUInt32 &&& Int32.toUInt32 31)).toInt32) &&& 1431655765)).toUInt32 >>> ((2 : Int32).toUInt32 &&& Int32.toUInt32 31)).toInt32) &&& 858993459)) + (((((x1 - (((x1.toUInt32 >>> ((1 : Int32).toUInt32 &&& Int32.toUInt32 31)).toInt32) &&& 1431655765)) &&& 858993459) + ((((x1 - (((x1.toUInt32 >>> ((1 : Int32).toUInt32 &&& Int32.toUInt32 31)).toInt32) &&& 1431655765)).toUInt32 >>> ((2 : Int32).toUInt32 &&& Int32.toUInt32 31)).toInt32) &&& 858993459)).toUInt32 >>> ((4 : Int32).toUInt32 &&& Int32.toUInt32 31)).toInt32)) &&& 252645135).toUInt32 >>> ((8 : Int32).toUInt32 &&& Int32.toUInt32 31)).toInt32)))]) hC.1 hC.2.1 dJ6_bitCount_0f7a4_40 rfl hl (by decide) rfl (fun ls hl => ?_)
  refine lv_iload_n hC.1 hC.2.1 dJ6_bitCount_0f7a4_41 rfl (lv_at hl 0 rfl) ?_
  refine lv_iload_n hC.1 hC.2.1 dJ6_bitCount_0f7a4_42 rfl (lv_at hl 0 rfl) ?_
  refine lv_bipush (v := 16) hC.1 hC.2.1 dJ6_bitCount_0f7a4_43 (by decide +kernel) ?_
  refine lv_iushr (v := (((((((x1 - (((x1.toUInt32 >>> ((1 : Int32).toUInt32 &&& Int32.toUInt32 31)).toInt32) &&& 1431655765)) &&& 858993459) + ((((x1 - (((x1.toUInt32 >>> ((1 : Int32).toUInt32 &&& Int32.toUInt32 31)).toInt32) &&& 1431655765)).toUInt32 >>> ((2 : Int32).toUInt32 &&& Int32.toUInt32 31)).toInt32) &&& 858993459)) + (((((x1 - (((x1.toUInt32 >>> ((1 : Int32).toUInt32 &&& Int32.toUInt32 31)).toInt32) &&& 1431655765)) &&& 858993459) + ((((x1 - (((x1.toUInt32 >>> ((1 : Int32).toUInt32 &&& Int32.toUInt32 31)).toInt32) &&& 1431655765)).toUInt32 >>> ((2 : Int32).toUInt32 &&& Int32.toUInt32 31)).toInt32) &&& 858993459)).toUInt32 >>> ((4 : Int32).toUInt32 &&& Int32.toUInt32 31)).toInt32)) &&& 252645135) + (((((((x1 - (((x1.toUInt32 >>> ((1 : Int32).toUInt32 &&& Int32.toUInt32 31)).toInt32) &&& 1431655765)) &&& 858993459) + ((((x1 - (((x1.toUInt32 >>> ((1 : Int32).toUInt32 &&& Int32.toUInt32 31)).toInt32) &&& 1431655765)).toUInt32 >>> ((2 : Int32).toUInt32 &&& Int32.toUInt32 31)).toInt32) &&& 858993459)) + (((((x1 - (((x1.toUInt32 >>> ((1 : Int32).toUInt32 &&& Int32.toUInt32 31)).toInt32) &&& 1431655765)) &&& 858993459) + ((((x1 - (((x1.toUInt32 >>> ((1 : Int32).toUInt32 &&& Int32.toUInt32 31)).toInt32) &&& 1431655765)).toUInt32 >>> ((2 : Int32).toUInt32 &&& Int32.toUInt32 31)).toInt32) &&& 858993459)).toUInt32 >>> ((4 : Int32).toUInt32 &&& Int32.toUInt32 31)).toInt32)) &&& 252645135).toUInt32 >>> ((8 : Int32).toUInt32 &&& Int32.toUInt32 31)).toInt32)).toUInt32 >>> ((16 : Int32).toUInt32 &&& Int32.toUInt32 31)).toInt32) hC.1 hC.2.1 dJ6_bitCount_0f7a4_45 rfl ?_
  refine lv_iadd hC.1 hC.2.1 dJ6_bitCount_0f7a4_46 ?_
  refine lv_istore_n (lv' := [(0, .int (((((((x1 - (((x1.toUInt32 >>> ((1 : Int32).toUInt32 &&& Int32.toUInt32 31)).toInt32) &&& 1431655765)) &&& 858993459) + ((((x1 - (((x1.toUInt32 >>> ((1 : Int32).toUInt32 &&& Int32.toUInt32 31)).toInt32) &&& 1431655765)).toUInt32 >>> ((2 : Int32).toUInt32 &&& Int32.toUInt32 31)).toInt32) &&& 858993459)) + (((((x1 - (((x1.toUInt32 >>> ((1 : Int32).toUInt32 &&& Int32.toUInt32 31)).toInt32) &&& 1431655765)) &&& 858993459) + ((((x1 - (((x1.toUInt32 >>> ((1 : Int32).toUInt32 &&& Int32.toUInt32 31)).toInt32) &&& 1431655765)).toUInt32 >>> ((2 : Int32).toUInt32 &&& Int32.toUInt32 31)).toInt32) &&& 858993459)).toUInt32 >>> ((4 : Int32).toUInt32 &&& Int32.toUInt32 31)).toInt32)) &&& 252645135) + (((((((x1 - (((x1.toUInt32 >>> ((1 : Int32).toUInt32 &&& Int32.toUInt32 31)).toInt32) &&& 1431655765)) &&& 858993459) + ((((x1 - (((x1.toUInt32 >>> ((1 : Int32).toUInt32 &&& Int32.toUInt32 31)).toInt32) &&& 1431655765)).toUInt32 >>> ((2 : Int32).toUInt32 &&& Int32.toUInt32 31)).toInt32) &&& 858993459)) + (((((x1 - (((x1.toUInt32 >>> ((1 : Int32).toUInt32 &&& Int32.toUInt32 31)).toInt32) &&& 1431655765)) &&& 858993459) + ((((x1 - (((x1.toUInt32 >>> ((1 : Int32).toUInt32 &&& Int32.toUInt32 31)).toInt32) &&& 1431655765)).toUInt32 >>> ((2 : Int32).toUInt32 &&& Int32.toUInt32 31)).toInt32) &&& 858993459)).toUInt32 >>> ((4 : Int32).toUInt32 &&& Int32.toUInt32 31)).toInt32)) &&& 252645135).toUInt32 >>> ((8 : Int32).toUInt32 &&& Int32.toUInt32 31)).toInt32)) + ((((((((x1 - (((x1.toUInt32 >>> ((1 : Int32).toUInt32 &&& Int32.toUInt32 31)).toInt32) &&& 1431655765)) &&& 858993459) + ((((x1 - (((x1.toUInt32 >>> ((1 : Int32).toUInt32 &&& Int32.toUInt32 31)).toInt32) &&& 1431655765)).toUInt32 >>> ((2 : Int32).toUInt32 &&& Int32.toUInt32 31)).toInt32) &&& 858993459)) + (((((x1 - (((x1.toUInt32 >>> ((1 : Int32).toUInt32 &&& Int32.toUInt32 31)).toInt32) &&& 1431655765)) &&& 858993459) + ((((x1 - (((x1.toUInt32 >>> ((1 : Int32).toUInt32 &&& Int32.toUInt32 31)).toInt32) &&& 1431655765)).toUInt32 >>> ((2 : Int32).toUInt32 &&& Int32.toUInt32 31)).toInt32) &&& 858993459)).toUInt32 >>> ((4 : Int32).toUInt32 &&& Int32.toUInt32 31)).toInt32)) &&& 252645135) + (((((((x1 - (((x1.toUInt32 >>> ((1 : Int32).toUInt32 &&& Int32.toUInt32 31)).toInt32) &&& 1431655765)) &&& 858993459) + ((((x1 - (((x1.toUInt32 >>> ((1 : Int32).toUInt32 &&& Int32.toUInt32 31)).toInt32) &&& 1431655765)).toUInt32 >>> ((2 : Int32).toUInt32 &&& Int32.toUInt32 31)).toInt32) &&& 858993459)) + (((((x1 - (((x1.toUInt32 >>> ((1 : Int32).toUInt32 &&& Int32.toUInt32 31)).toInt32) &&& 1431655765)) &&& 858993459) + ((((x1 - (((x1.toUInt32 >>> ((1 : Int32).toUInt32 &&& Int32.toUInt32 31)).toInt32) &&& 1431655765)).toUInt32 >>> ((2 : Int32).toUInt32 &&& Int32.toUInt32 31)).toInt32) &&& 858993459)).toUInt32 >>> ((4 : Int32).toUInt32 &&& Int32.toUInt32 31)).toInt32)) &&& 252645135).toUInt32 >>> ((8 : Int32).toUInt32 &&& Int32.toUInt32 31)).toInt32)).toUInt32 >>> ((16 : Int32).toUInt32 &&& Int32.toUInt32 31)).toInt32)))]) hC.1 hC.2.1 dJ6_bitCount_0f7a4_47 rfl hl (by decide) rfl (fun ls hl => ?_)
  refine lv_iload_n hC.1 hC.2.1 dJ6_bitCount_0f7a4_48 rfl (lv_at hl 0 rfl) ?_
  refine lv_bipush (v := 63) hC.1 hC.2.1 dJ6_bitCount_0f7a4_49 (by decide +kernel) ?_
  refine lv_iand hC.1 hC.2.1 dJ6_bitCount_0f7a4_51 ?_
  have e_1 : fJ6_bitCount_0f7a4 x1 = (((((((x1 - (((x1.toUInt32 >>> ((1 : Int32).toUInt32 &&& Int32.toUInt32 31)).toInt32) &&& 1431655765)) &&& 858993459) + ((((x1 - (((x1.toUInt32 >>> ((1 : Int32).toUInt32 &&& Int32.toUInt32 31)).toInt32) &&& 1431655765)).toUInt32 >>> ((2 : Int32).toUInt32 &&& Int32.toUInt32 31)).toInt32) &&& 858993459)) + (((((x1 - (((x1.toUInt32 >>> ((1 : Int32).toUInt32 &&& Int32.toUInt32 31)).toInt32) &&& 1431655765)) &&& 858993459) + ((((x1 - (((x1.toUInt32 >>> ((1 : Int32).toUInt32 &&& Int32.toUInt32 31)).toInt32) &&& 1431655765)).toUInt32 >>> ((2 : Int32).toUInt32 &&& Int32.toUInt32 31)).toInt32) &&& 858993459)).toUInt32 >>> ((4 : Int32).toUInt32 &&& Int32.toUInt32 31)).toInt32)) &&& 252645135) + (((((((x1 - (((x1.toUInt32 >>> ((1 : Int32).toUInt32 &&& Int32.toUInt32 31)).toInt32) &&& 1431655765)) &&& 858993459) + ((((x1 - (((x1.toUInt32 >>> ((1 : Int32).toUInt32 &&& Int32.toUInt32 31)).toInt32) &&& 1431655765)).toUInt32 >>> ((2 : Int32).toUInt32 &&& Int32.toUInt32 31)).toInt32) &&& 858993459)) + (((((x1 - (((x1.toUInt32 >>> ((1 : Int32).toUInt32 &&& Int32.toUInt32 31)).toInt32) &&& 1431655765)) &&& 858993459) + ((((x1 - (((x1.toUInt32 >>> ((1 : Int32).toUInt32 &&& Int32.toUInt32 31)).toInt32) &&& 1431655765)).toUInt32 >>> ((2 : Int32).toUInt32 &&& Int32.toUInt32 31)).toInt32) &&& 858993459)).toUInt32 >>> ((4 : Int32).toUInt32 &&& Int32.toUInt32 31)).toInt32)) &&& 252645135).toUInt32 >>> ((8 : Int32).toUInt32 &&& Int32.toUInt32 31)).toInt32)) + ((((((((x1 - (((x1.toUInt32 >>> ((1 : Int32).toUInt32 &&& Int32.toUInt32 31)).toInt32) &&& 1431655765)) &&& 858993459) + ((((x1 - (((x1.toUInt32 >>> ((1 : Int32).toUInt32 &&& Int32.toUInt32 31)).toInt32) &&& 1431655765)).toUInt32 >>> ((2 : Int32).toUInt32 &&& Int32.toUInt32 31)).toInt32) &&& 858993459)) + (((((x1 - (((x1.toUInt32 >>> ((1 : Int32).toUInt32 &&& Int32.toUInt32 31)).toInt32) &&& 1431655765)) &&& 858993459) + ((((x1 - (((x1.toUInt32 >>> ((1 : Int32).toUInt32 &&& Int32.toUInt32 31)).toInt32) &&& 1431655765)).toUInt32 >>> ((2 : Int32).toUInt32 &&& Int32.toUInt32 31)).toInt32) &&& 858993459)).toUInt32 >>> ((4 : Int32).toUInt32 &&& Int32.toUInt32 31)).toInt32)) &&& 252645135) + (((((((x1 - (((x1.toUInt32 >>> ((1 : Int32).toUInt32 &&& Int32.toUInt32 31)).toInt32) &&& 1431655765)) &&& 858993459) + ((((x1 - (((x1.toUInt32 >>> ((1 : Int32).toUInt32 &&& Int32.toUInt32 31)).toInt32) &&& 1431655765)).toUInt32 >>> ((2 : Int32).toUInt32 &&& Int32.toUInt32 31)).toInt32) &&& 858993459)) + (((((x1 - (((x1.toUInt32 >>> ((1 : Int32).toUInt32 &&& Int32.toUInt32 31)).toInt32) &&& 1431655765)) &&& 858993459) + ((((x1 - (((x1.toUInt32 >>> ((1 : Int32).toUInt32 &&& Int32.toUInt32 31)).toInt32) &&& 1431655765)).toUInt32 >>> ((2 : Int32).toUInt32 &&& Int32.toUInt32 31)).toInt32) &&& 858993459)).toUInt32 >>> ((4 : Int32).toUInt32 &&& Int32.toUInt32 31)).toInt32)) &&& 252645135).toUInt32 >>> ((8 : Int32).toUInt32 &&& Int32.toUInt32 31)).toInt32)).toUInt32 >>> ((16 : Int32).toUInt32 &&& Int32.toUInt32 31)).toInt32)) &&& 63 := by exact rfl
  have hg : fJ6_bitCount_0f7a4 x1 = (((((((x1 - (((x1.toUInt32 >>> ((1 : Int32).toUInt32 &&& Int32.toUInt32 31)).toInt32) &&& 1431655765)) &&& 858993459) + ((((x1 - (((x1.toUInt32 >>> ((1 : Int32).toUInt32 &&& Int32.toUInt32 31)).toInt32) &&& 1431655765)).toUInt32 >>> ((2 : Int32).toUInt32 &&& Int32.toUInt32 31)).toInt32) &&& 858993459)) + (((((x1 - (((x1.toUInt32 >>> ((1 : Int32).toUInt32 &&& Int32.toUInt32 31)).toInt32) &&& 1431655765)) &&& 858993459) + ((((x1 - (((x1.toUInt32 >>> ((1 : Int32).toUInt32 &&& Int32.toUInt32 31)).toInt32) &&& 1431655765)).toUInt32 >>> ((2 : Int32).toUInt32 &&& Int32.toUInt32 31)).toInt32) &&& 858993459)).toUInt32 >>> ((4 : Int32).toUInt32 &&& Int32.toUInt32 31)).toInt32)) &&& 252645135) + (((((((x1 - (((x1.toUInt32 >>> ((1 : Int32).toUInt32 &&& Int32.toUInt32 31)).toInt32) &&& 1431655765)) &&& 858993459) + ((((x1 - (((x1.toUInt32 >>> ((1 : Int32).toUInt32 &&& Int32.toUInt32 31)).toInt32) &&& 1431655765)).toUInt32 >>> ((2 : Int32).toUInt32 &&& Int32.toUInt32 31)).toInt32) &&& 858993459)) + (((((x1 - (((x1.toUInt32 >>> ((1 : Int32).toUInt32 &&& Int32.toUInt32 31)).toInt32) &&& 1431655765)) &&& 858993459) + ((((x1 - (((x1.toUInt32 >>> ((1 : Int32).toUInt32 &&& Int32.toUInt32 31)).toInt32) &&& 1431655765)).toUInt32 >>> ((2 : Int32).toUInt32 &&& Int32.toUInt32 31)).toInt32) &&& 858993459)).toUInt32 >>> ((4 : Int32).toUInt32 &&& Int32.toUInt32 31)).toInt32)) &&& 252645135).toUInt32 >>> ((8 : Int32).toUInt32 &&& Int32.toUInt32 31)).toInt32)) + ((((((((x1 - (((x1.toUInt32 >>> ((1 : Int32).toUInt32 &&& Int32.toUInt32 31)).toInt32) &&& 1431655765)) &&& 858993459) + ((((x1 - (((x1.toUInt32 >>> ((1 : Int32).toUInt32 &&& Int32.toUInt32 31)).toInt32) &&& 1431655765)).toUInt32 >>> ((2 : Int32).toUInt32 &&& Int32.toUInt32 31)).toInt32) &&& 858993459)) + (((((x1 - (((x1.toUInt32 >>> ((1 : Int32).toUInt32 &&& Int32.toUInt32 31)).toInt32) &&& 1431655765)) &&& 858993459) + ((((x1 - (((x1.toUInt32 >>> ((1 : Int32).toUInt32 &&& Int32.toUInt32 31)).toInt32) &&& 1431655765)).toUInt32 >>> ((2 : Int32).toUInt32 &&& Int32.toUInt32 31)).toInt32) &&& 858993459)).toUInt32 >>> ((4 : Int32).toUInt32 &&& Int32.toUInt32 31)).toInt32)) &&& 252645135) + (((((((x1 - (((x1.toUInt32 >>> ((1 : Int32).toUInt32 &&& Int32.toUInt32 31)).toInt32) &&& 1431655765)) &&& 858993459) + ((((x1 - (((x1.toUInt32 >>> ((1 : Int32).toUInt32 &&& Int32.toUInt32 31)).toInt32) &&& 1431655765)).toUInt32 >>> ((2 : Int32).toUInt32 &&& Int32.toUInt32 31)).toInt32) &&& 858993459)) + (((((x1 - (((x1.toUInt32 >>> ((1 : Int32).toUInt32 &&& Int32.toUInt32 31)).toInt32) &&& 1431655765)) &&& 858993459) + ((((x1 - (((x1.toUInt32 >>> ((1 : Int32).toUInt32 &&& Int32.toUInt32 31)).toInt32) &&& 1431655765)).toUInt32 >>> ((2 : Int32).toUInt32 &&& Int32.toUInt32 31)).toInt32) &&& 858993459)).toUInt32 >>> ((4 : Int32).toUInt32 &&& Int32.toUInt32 31)).toInt32)) &&& 252645135).toUInt32 >>> ((8 : Int32).toUInt32 &&& Int32.toUInt32 31)).toInt32)).toUInt32 >>> ((16 : Int32).toUInt32 &&& Int32.toUInt32 31)).toInt32)) &&& 63 := hg.trans (congrArg (fun z => z) e_1)
  exact eP_i hC (congrArg Value.int hg) dJ6_bitCount_0f7a4_52
end
section
def fX3_copyFrom (v : SV) (v2 : SV) : SV := let w_10 : Int32 := v2 8 0; mkS (v 0) (v 1) (v 2) (fX5_copyRow 12 (v2 3) 12 (v 3)) (fX5_copyRow 12 (v2 4) 12 (v 4)) (fX5_copyRow 12 (v2 5) 12 (v 5)) (v 6) (v 7) w_10 (v 8 1) (v 8 2) (v 8 3) (v 8 4) (v 8 5) (v 8 6) (v 8 7) (v 8 8) (v 8 9) (v 8 10)
def fX4_copyFrom (v : SV) (v2 : SV) : SV := let w_7 : Int32 := v2 8 1; let w_9 : Int32 := v2 8 2; let w_11 : Int32 := v2 8 3; let w_13 : Int32 := v2 8 4; let w_15 : Int32 := v2 8 5; let w_17 : Int32 := v2 8 6; let w_19 : Int32 := v2 8 7; mkS (v 0) (v 1) (v 2) (v 3) (v 4) (v 5) (fX5_copyRow 24 (v2 6) 24 (v 6)) (fX5_copyRow 24 (v2 7) 24 (v 7)) (v 8 0) w_7 w_9 w_11 w_13 w_15 w_17 w_19 (v 8 8) (v 8 9) (v 8 10)
def fX2_copyFrom (v : SV) (v2 : SV) : SV := let r_8 := fX3_copyFrom (mkS (fX5_copyRow 24 (v2 0) 24 (v 0)) (v 1) (fX5_copyRow 7 (v2 2) 7 (v 2)) (v 3) (v 4) (v 5) (v 6) (v 7) (v 8 0) (v 8 1) (v 8 2) (v 8 3) (v 8 4) (v 8 5) (v 8 6) (v 8 7) (v 8 8) (v 8 9) (v 8 10)) v2
  let r_10 := fX4_copyFrom r_8 v2
  let w_11 : Int32 := v2 8 8; let w_13 : Int32 := v2 8 9; let w_15 : Int32 := v2 8 10; mkS (r_10 0) (r_10 1) (r_10 2) (r_10 3) (r_10 4) (r_10 5) (r_10 6) (r_10 7) (r_10 8 0) (r_10 8 1) (r_10 8 2) (r_10 8 3) (r_10 8 4) (r_10 8 5) (r_10 8 6) (r_10 8 7) w_11 w_13 w_15
def fX3_addLine (v : SV) (x1 : Int32) (x2 : Int32) (x3 : Int32) : SV := let w_10 : Int32 := (if ((v 8 0) + 1) < 12 then ((v 8 0) + 1) else 12); mkS (v 0) (v 1) (v 2) (fX3_pushFront (v 3) x1) (fX3_pushFront (v 4) x2) (fX3_pushFront (v 5) x3) (v 6) (v 7) w_10 (v 8 1) (v 8 2) (v 8 3) (v 8 4) (v 8 5) (v 8 6) (v 8 7) (v 8 8) (v 8 9) (v 8 10)
theorem dX3_copyFrom_0 : decode cX3_copyFrom 0 = .ok (.aload_n 1, 1) := by decide +kernel
theorem dX3_copyFrom_1 : decode cX3_copyFrom 1 = .ok (.getfield 11, 3) := by decide +kernel
theorem dX3_copyFrom_4 : decode cX3_copyFrom 4 = .ok (.aload_n 0, 1) := by decide +kernel
theorem dX3_copyFrom_5 : decode cX3_copyFrom 5 = .ok (.getfield 11, 3) := by decide +kernel
theorem dX3_copyFrom_8 : decode cX3_copyFrom 8 = .ok (.invokestatic 25, 3) := by decide +kernel
theorem dX3_copyFrom_11 : decode cX3_copyFrom 11 = .ok (.aload_n 1, 1) := by decide +kernel
theorem dX3_copyFrom_12 : decode cX3_copyFrom 12 = .ok (.getfield 15, 3) := by decide +kernel
theorem dX3_copyFrom_15 : decode cX3_copyFrom 15 = .ok (.aload_n 0, 1) := by decide +kernel
theorem dX3_copyFrom_16 : decode cX3_copyFrom 16 = .ok (.getfield 15, 3) := by decide +kernel
theorem dX3_copyFrom_19 : decode cX3_copyFrom 19 = .ok (.invokestatic 25, 3) := by decide +kernel
theorem dX3_copyFrom_22 : decode cX3_copyFrom 22 = .ok (.aload_n 1, 1) := by decide +kernel
theorem dX3_copyFrom_23 : decode cX3_copyFrom 23 = .ok (.getfield 18, 3) := by decide +kernel
theorem dX3_copyFrom_26 : decode cX3_copyFrom 26 = .ok (.aload_n 0, 1) := by decide +kernel
theorem dX3_copyFrom_27 : decode cX3_copyFrom 27 = .ok (.getfield 18, 3) := by decide +kernel
theorem dX3_copyFrom_30 : decode cX3_copyFrom 30 = .ok (.invokestatic 25, 3) := by decide +kernel
theorem dX3_copyFrom_33 : decode cX3_copyFrom 33 = .ok (.aload_n 0, 1) := by decide +kernel
theorem dX3_copyFrom_34 : decode cX3_copyFrom 34 = .ok (.aload_n 1, 1) := by decide +kernel
theorem dX3_copyFrom_35 : decode cX3_copyFrom 35 = .ok (.getfield 21, 3) := by decide +kernel
theorem dX3_copyFrom_38 : decode cX3_copyFrom 38 = .ok (.putfield 21, 3) := by decide +kernel
theorem dX3_copyFrom_41 : decode cX3_copyFrom 41 = .ok (.return_, 1) := by decide +kernel
set_option maxHeartbeats 1000000 in
set_option maxRecDepth 100000 in
theorem c_X3_copyFrom (l : Launch) (G : GT) (q : Nat → Nat) (v : SV) (q2 : Nat → Nat) (v2 : SV) (hq : stD G q) (hd : stN q q2) : Met l yX3_copyFrom (Cond.code yX3_copyFrom cX3_copyFrom 2 none :: bigW) ({ frames := 2, cells := 0, slots := 0, locals := 51 }) (BP G [.ref (q 4), .ref (q2 4)] (fun U H => PW G (stW G q v) H ∧ PW G (stW G q2 v2) H)) (QE (none) (fun H => PW G (stW G q (fX3_copyFrom v v2)) H) (stA q)) 0 0 (stA q) := by
  refine met_of (by decide) (Nat.le_of_ble_eq_true rfl) ?_
  intro p e s m below meth c ls hC hKN hB0 hl
  obtain ⟨hP, hP2⟩ := hB0
  have hl : lv_has ls 2 [(0, .ref (q 4)), (1, .ref (q2 4))] := hl
  have hS : va_S (stA q) s.heap s.heap [] := va_S.rf
  have hAL : ∀ a, (stA q) a → gL G ≤ a := stD_low hq
  have hg : fX3_copyFrom v v2 = fX3_copyFrom v v2 := rfl
  refine lv_aload_n hC.1 hC.2.1 dX3_copyFrom_0 rfl (lv_at hl 1 rfl) ?_
  refine gf (v := .ref (q2 5)) hC fwX3 hKN hP2 4 rfl rfl 0 (by decide) rfl wd_54 rfl dX3_copyFrom_1 ?_
  refine lv_aload_n hC.1 hC.2.1 dX3_copyFrom_4 rfl (lv_at hl 0 rfl) ?_
  refine gf (v := .ref (q 5)) hC fwX3 hKN hP 4 rfl rfl 0 (by decide) rfl wd_54 rfl dX3_copyFrom_5 ?_
  refine runE (rSN (B := fun U H => RD (q2 5) 12 (v2 3) U H ∧ PW G (a1W G (q 5) 12 (v 3)) H) (As := [.ref (q2 5), .ref (q 5)]) (rest := []) hC mwX5_copyRow (c_X5_copyRow l G (q2 5) 12 (v2 3) (q 5) 12 (v 3) (stD_low hq _ ⟨5, by decide, rfl⟩) ⟨rfl, by decide⟩) wd_40 (nm_3 hKN) ⟨rfl, rfl⟩ ⟨Nat.le_of_ble_eq_true rfl, Nat.le_of_ble_eq_true rfl⟩ (stb_and (stb_RD _ _ _) (stb_h (fun H => PW G (a1W G (q 5) 12 (v 3)) H))) hKN ⟨(RD.ofP hKN hP2 5 rfl), (one_of hP 5 rfl)⟩ rfl hl.1 rfl (Nat.le_of_ble_eq_true rfl) dX3_copyFrom_8 ⟨Nat.zero_le _, Nat.zero_le _⟩) hS (fun _ h => ⟨5, by decide, h⟩) (fun _ h => ⟨5, by decide, h⟩) (fun H locs hq_1 _ hk_3 hS => ?_)
  have hP : PW G (stW G q (mkS (v 0) (v 1) (v 2) (fX5_copyRow 12 (v2 3) 12 (v 3)) (v 4) (v 5) (v 6) (v 7) (v 8 0) (v 8 1) (v 8 2) (v 8 3) (v 8 4) (v 8 5) (v 8 6) (v 8 7) (v 8 8) (v 8 9) (v 8 10))) H := one_set hP (stD_D hq v) 5 rfl hq_1 hk_3
  refine lv_aload_n hC.1 hC.2.1 dX3_copyFrom_11 rfl (lv_at hl 1 rfl) ?_
  refine gf (v := .ref (q2 6)) hC fwX3 (hKN.go hAL hS) (keepS hP2 hS (stN_na hd v2)) 4 rfl rfl 1 (by decide) rfl wd_55 rfl dX3_copyFrom_12 ?_
  refine lv_aload_n hC.1 hC.2.1 dX3_copyFrom_15 rfl (lv_at hl 0 rfl) ?_
  refine gf (v := .ref (q 6)) hC fwX3 (hKN.go hAL hS) hP 4 rfl rfl 1 (by decide) rfl wd_55 rfl dX3_copyFrom_16 ?_
  refine runE (rSN (B := fun U H => RD (q2 6) 12 (v2 4) U H ∧ PW G (a1W G (q 6) 12 (v 4)) H) (As := [.ref (q2 6), .ref (q 6)]) (rest := []) hC mwX5_copyRow (c_X5_copyRow l G (q2 6) 12 (v2 4) (q 6) 12 (v 4) (stD_low hq _ ⟨6, by decide, rfl⟩) ⟨rfl, by decide⟩) wd_40 (nm_3 (hKN.go hAL hS)) ⟨rfl, rfl⟩ ⟨Nat.le_of_ble_eq_true rfl, Nat.le_of_ble_eq_true rfl⟩ (stb_and (stb_RD _ _ _) (stb_h (fun H => PW G (a1W G (q 6) 12 (v 4)) H))) (hKN.go hAL hS) ⟨(RD.ofP (hKN.go hAL hS) (keepS hP2 hS (stN_na hd v2)) 6 rfl), (one_of hP 6 rfl)⟩ rfl hl.1 rfl (Nat.le_of_ble_eq_true rfl) dX3_copyFrom_19 ⟨Nat.zero_le _, Nat.zero_le _⟩) hS (fun _ h => ⟨6, by decide, h⟩) (fun _ h => ⟨6, by decide, h⟩) (fun H locs hq_4 _ hk_6 hS => ?_)
  have hP : PW G (stW G q (mkS (v 0) (v 1) (v 2) (fX5_copyRow 12 (v2 3) 12 (v 3)) (fX5_copyRow 12 (v2 4) 12 (v 4)) (v 5) (v 6) (v 7) (v 8 0) (v 8 1) (v 8 2) (v 8 3) (v 8 4) (v 8 5) (v 8 6) (v 8 7) (v 8 8) (v 8 9) (v 8 10))) H := one_set hP (stD_D hq (mkS (v 0) (v 1) (v 2) (fX5_copyRow 12 (v2 3) 12 (v 3)) (v 4) (v 5) (v 6) (v 7) (v 8 0) (v 8 1) (v 8 2) (v 8 3) (v 8 4) (v 8 5) (v 8 6) (v 8 7) (v 8 8) (v 8 9) (v 8 10))) 6 rfl hq_4 hk_6
  refine lv_aload_n hC.1 hC.2.1 dX3_copyFrom_22 rfl (lv_at hl 1 rfl) ?_
  refine gf (v := .ref (q2 7)) hC fwX3 (hKN.go hAL hS) (keepS hP2 hS (stN_na hd v2)) 4 rfl rfl 2 (by decide) rfl wd_56 rfl dX3_copyFrom_23 ?_
  refine lv_aload_n hC.1 hC.2.1 dX3_copyFrom_26 rfl (lv_at hl 0 rfl) ?_
  refine gf (v := .ref (q 7)) hC fwX3 (hKN.go hAL hS) hP 4 rfl rfl 2 (by decide) rfl wd_56 rfl dX3_copyFrom_27 ?_
  refine runE (rSN (B := fun U H => RD (q2 7) 12 (v2 5) U H ∧ PW G (a1W G (q 7) 12 (v 5)) H) (As := [.ref (q2 7), .ref (q 7)]) (rest := []) hC mwX5_copyRow (c_X5_copyRow l G (q2 7) 12 (v2 5) (q 7) 12 (v 5) (stD_low hq _ ⟨7, by decide, rfl⟩) ⟨rfl, by decide⟩) wd_40 (nm_3 (hKN.go hAL hS)) ⟨rfl, rfl⟩ ⟨Nat.le_of_ble_eq_true rfl, Nat.le_of_ble_eq_true rfl⟩ (stb_and (stb_RD _ _ _) (stb_h (fun H => PW G (a1W G (q 7) 12 (v 5)) H))) (hKN.go hAL hS) ⟨(RD.ofP (hKN.go hAL hS) (keepS hP2 hS (stN_na hd v2)) 7 rfl), (one_of hP 7 rfl)⟩ rfl hl.1 rfl (Nat.le_of_ble_eq_true rfl) dX3_copyFrom_30 ⟨Nat.zero_le _, Nat.zero_le _⟩) hS (fun _ h => ⟨7, by decide, h⟩) (fun _ h => ⟨7, by decide, h⟩) (fun H locs hq_7 _ hk_9 hS => ?_)
  have hP : PW G (stW G q (mkS (v 0) (v 1) (v 2) (fX5_copyRow 12 (v2 3) 12 (v 3)) (fX5_copyRow 12 (v2 4) 12 (v 4)) (fX5_copyRow 12 (v2 5) 12 (v 5)) (v 6) (v 7) (v 8 0) (v 8 1) (v 8 2) (v 8 3) (v 8 4) (v 8 5) (v 8 6) (v 8 7) (v 8 8) (v 8 9) (v 8 10))) H := one_set hP (stD_D hq (mkS (v 0) (v 1) (v 2) (fX5_copyRow 12 (v2 3) 12 (v 3)) (fX5_copyRow 12 (v2 4) 12 (v 4)) (v 5) (v 6) (v 7) (v 8 0) (v 8 1) (v 8 2) (v 8 3) (v 8 4) (v 8 5) (v 8 6) (v 8 7) (v 8 8) (v 8 9) (v 8 10))) 7 rfl hq_7 hk_9
  refine lv_aload_n hC.1 hC.2.1 dX3_copyFrom_33 rfl (lv_at hl 0 rfl) ?_
  refine lv_aload_n hC.1 hC.2.1 dX3_copyFrom_34 rfl (lv_at hl 1 rfl) ?_
  refine gf (v := .int (v2 8 0)) hC fwX3 (hKN.go hAL hS) (keepS hP2 hS (stN_na hd v2)) 4 rfl rfl 3 (by decide) rfl wd_57 rfl dX3_copyFrom_35 ?_
  refine lv_topi (fun w_10 ew_10 => ?_)
  refine pf (v := .int w_10) (tv := .int) hC fwX3 (hKN.go hAL hS) hP (stD_D hq (mkS (v 0) (v 1) (v 2) (fX5_copyRow 12 (v2 3) 12 (v 3)) (fX5_copyRow 12 (v2 4) 12 (v 4)) (fX5_copyRow 12 (v2 5) 12 (v 5)) (v 6) (v 7) (v 8 0) (v 8 1) (v 8 2) (v 8 3) (v 8 4) (v 8 5) (v 8 6) (v 8 7) (v 8 8) (v 8 9) (v 8 10))) hS 4 rfl rfl 3 (by decide) rfl wd_57 rfl rfl rfl (Nat.le_of_ble_eq_true rfl) dX3_copyFrom_38 (fun H locs hq_11 hS => ?_)
  have hP : PW G (stW G q (mkS (v 0) (v 1) (v 2) (fX5_copyRow 12 (v2 3) 12 (v 3)) (fX5_copyRow 12 (v2 4) 12 (v 4)) (fX5_copyRow 12 (v2 5) 12 (v 5)) (v 6) (v 7) w_10 (v 8 1) (v 8 2) (v 8 3) (v 8 4) (v 8 5) (v 8 6) (v 8 7) (v 8 8) (v 8 9) (v 8 10))) H := hq_11
  have e_12 : fX3_copyFrom v v2 = mkS (v 0) (v 1) (v 2) (fX5_copyRow 12 (v2 3) 12 (v 3)) (fX5_copyRow 12 (v2 4) 12 (v 4)) (fX5_copyRow 12 (v2 5) 12 (v 5)) (v 6) (v 7) w_10 (v 8 1) (v 8 2) (v 8 3) (v 8 4) (v 8 5) (v 8 6) (v 8 7) (v 8 8) (v 8 9) (v 8 10) := by subst ew_10; exact rfl
  have hg : fX3_copyFrom v v2 = mkS (v 0) (v 1) (v 2) (fX5_copyRow 12 (v2 3) 12 (v 3)) (fX5_copyRow 12 (v2 4) 12 (v 4)) (fX5_copyRow 12 (v2 5) 12 (v 5)) (v 6) (v 7) w_10 (v 8 1) (v 8 2) (v 8 3) (v 8 4) (v 8 5) (v 8 6) (v 8 7) (v 8 8) (v 8 9) (v 8 10) := hg.trans (congrArg (fun z => z) e_12)
  exact eE_v hC (by show PW G (stW G q (fX3_copyFrom v v2)) H; rw [hg]; exact hP) hS dX3_copyFrom_41

theorem dX4_copyFrom_0 : decode cX4_copyFrom 0 = .ok (.aload_n 1, 1) := by decide +kernel
theorem dX4_copyFrom_1 : decode cX4_copyFrom 1 = .ok (.getfield 9, 3) := by decide +kernel
theorem dX4_copyFrom_4 : decode cX4_copyFrom 4 = .ok (.aload_n 0, 1) := by decide +kernel
theorem dX4_copyFrom_5 : decode cX4_copyFrom 5 = .ok (.getfield 9, 3) := by decide +kernel
theorem dX4_copyFrom_8 : decode cX4_copyFrom 8 = .ok (.invokestatic 40, 3) := by decide +kernel
theorem dX4_copyFrom_11 : decode cX4_copyFrom 11 = .ok (.aload_n 1, 1) := by decide +kernel
theorem dX4_copyFrom_12 : decode cX4_copyFrom 12 = .ok (.getfield 15, 3) := by decide +kernel
theorem dX4_copyFrom_15 : decode cX4_copyFrom 15 = .ok (.aload_n 0, 1) := by decide +kernel
theorem dX4_copyFrom_16 : decode cX4_copyFrom 16 = .ok (.getfield 15, 3) := by decide +kernel
theorem dX4_copyFrom_19 : decode cX4_copyFrom 19 = .ok (.invokestatic 40, 3) := by decide +kernel
theorem dX4_copyFrom_22 : decode cX4_copyFrom 22 = .ok (.aload_n 0, 1) := by decide +kernel
theorem dX4_copyFrom_23 : decode cX4_copyFrom 23 = .ok (.aload_n 1, 1) := by decide +kernel
theorem dX4_copyFrom_24 : decode cX4_copyFrom 24 = .ok (.getfield 18, 3) := by decide +kernel
theorem dX4_copyFrom_27 : decode cX4_copyFrom 27 = .ok (.putfield 18, 3) := by decide +kernel
theorem dX4_copyFrom_30 : decode cX4_copyFrom 30 = .ok (.aload_n 0, 1) := by decide +kernel
theorem dX4_copyFrom_31 : decode cX4_copyFrom 31 = .ok (.aload_n 1, 1) := by decide +kernel
theorem dX4_copyFrom_32 : decode cX4_copyFrom 32 = .ok (.getfield 22, 3) := by decide +kernel
theorem dX4_copyFrom_35 : decode cX4_copyFrom 35 = .ok (.putfield 22, 3) := by decide +kernel
theorem dX4_copyFrom_38 : decode cX4_copyFrom 38 = .ok (.aload_n 0, 1) := by decide +kernel
theorem dX4_copyFrom_39 : decode cX4_copyFrom 39 = .ok (.aload_n 1, 1) := by decide +kernel
theorem dX4_copyFrom_40 : decode cX4_copyFrom 40 = .ok (.getfield 25, 3) := by decide +kernel
theorem dX4_copyFrom_43 : decode cX4_copyFrom 43 = .ok (.putfield 25, 3) := by decide +kernel
theorem dX4_copyFrom_46 : decode cX4_copyFrom 46 = .ok (.aload_n 0, 1) := by decide +kernel
theorem dX4_copyFrom_47 : decode cX4_copyFrom 47 = .ok (.aload_n 1, 1) := by decide +kernel
theorem dX4_copyFrom_48 : decode cX4_copyFrom 48 = .ok (.getfield 28, 3) := by decide +kernel
theorem dX4_copyFrom_51 : decode cX4_copyFrom 51 = .ok (.putfield 28, 3) := by decide +kernel
theorem dX4_copyFrom_54 : decode cX4_copyFrom 54 = .ok (.aload_n 0, 1) := by decide +kernel
theorem dX4_copyFrom_55 : decode cX4_copyFrom 55 = .ok (.aload_n 1, 1) := by decide +kernel
theorem dX4_copyFrom_56 : decode cX4_copyFrom 56 = .ok (.getfield 31, 3) := by decide +kernel
theorem dX4_copyFrom_59 : decode cX4_copyFrom 59 = .ok (.putfield 31, 3) := by decide +kernel
theorem dX4_copyFrom_62 : decode cX4_copyFrom 62 = .ok (.aload_n 0, 1) := by decide +kernel
theorem dX4_copyFrom_63 : decode cX4_copyFrom 63 = .ok (.aload_n 1, 1) := by decide +kernel
theorem dX4_copyFrom_64 : decode cX4_copyFrom 64 = .ok (.getfield 34, 3) := by decide +kernel
theorem dX4_copyFrom_67 : decode cX4_copyFrom 67 = .ok (.putfield 34, 3) := by decide +kernel
theorem dX4_copyFrom_70 : decode cX4_copyFrom 70 = .ok (.aload_n 0, 1) := by decide +kernel
theorem dX4_copyFrom_71 : decode cX4_copyFrom 71 = .ok (.aload_n 1, 1) := by decide +kernel
theorem dX4_copyFrom_72 : decode cX4_copyFrom 72 = .ok (.getfield 37, 3) := by decide +kernel
theorem dX4_copyFrom_75 : decode cX4_copyFrom 75 = .ok (.putfield 37, 3) := by decide +kernel
theorem dX4_copyFrom_78 : decode cX4_copyFrom 78 = .ok (.return_, 1) := by decide +kernel
set_option maxHeartbeats 1000000 in
set_option maxRecDepth 100000 in
theorem c_X4_copyFrom (l : Launch) (G : GT) (q : Nat → Nat) (v : SV) (q2 : Nat → Nat) (v2 : SV) (hq : stD G q) (hd : stN q q2) : Met l yX4_copyFrom (Cond.code yX4_copyFrom cX4_copyFrom 2 none :: bigW) ({ frames := 2, cells := 0, slots := 0, locals := 51 }) (BP G [.ref (q 8), .ref (q2 8)] (fun U H => PW G (stW G q v) H ∧ PW G (stW G q2 v2) H)) (QE (none) (fun H => PW G (stW G q (fX4_copyFrom v v2)) H) (stA q)) 0 0 (stA q) := by
  refine met_of (by decide) (Nat.le_of_ble_eq_true rfl) ?_
  intro p e s m below meth c ls hC hKN hB0 hl
  obtain ⟨hP, hP2⟩ := hB0
  have hl : lv_has ls 2 [(0, .ref (q 8)), (1, .ref (q2 8))] := hl
  have hS : va_S (stA q) s.heap s.heap [] := va_S.rf
  have hAL : ∀ a, (stA q) a → gL G ≤ a := stD_low hq
  have hg : fX4_copyFrom v v2 = fX4_copyFrom v v2 := rfl
  refine lv_aload_n hC.1 hC.2.1 dX4_copyFrom_0 rfl (lv_at hl 1 rfl) ?_
  refine gf (v := .ref (q2 9)) hC fwX4 hKN hP2 8 rfl rfl 0 (by decide) rfl wd_76 rfl dX4_copyFrom_1 ?_
  refine lv_aload_n hC.1 hC.2.1 dX4_copyFrom_4 rfl (lv_at hl 0 rfl) ?_
  refine gf (v := .ref (q 9)) hC fwX4 hKN hP 8 rfl rfl 0 (by decide) rfl wd_76 rfl dX4_copyFrom_5 ?_
  refine runE (rSN (B := fun U H => RD (q2 9) 24 (v2 6) U H ∧ PW G (a1W G (q 9) 24 (v 6)) H) (As := [.ref (q2 9), .ref (q 9)]) (rest := []) hC mwX5_copyRow (c_X5_copyRow l G (q2 9) 24 (v2 6) (q 9) 24 (v 6) (stD_low hq _ ⟨9, by decide, rfl⟩) ⟨rfl, by decide⟩) wd_40 (nm_4 hKN) ⟨rfl, rfl⟩ ⟨Nat.le_of_ble_eq_true rfl, Nat.le_of_ble_eq_true rfl⟩ (stb_and (stb_RD _ _ _) (stb_h (fun H => PW G (a1W G (q 9) 24 (v 6)) H))) hKN ⟨(RD.ofP hKN hP2 9 rfl), (one_of hP 9 rfl)⟩ rfl hl.1 rfl (Nat.le_of_ble_eq_true rfl) dX4_copyFrom_8 ⟨Nat.zero_le _, Nat.zero_le _⟩) hS (fun _ h => ⟨9, by decide, h⟩) (fun _ h => ⟨9, by decide, h⟩) (fun H locs hq_1 _ hk_3 hS => ?_)
  have hP : PW G (stW G q (mkS (v 0) (v 1) (v 2) (v 3) (v 4) (v 5) (fX5_copyRow 24 (v2 6) 24 (v 6)) (v 7) (v 8 0) (v 8 1) (v 8 2) (v 8 3) (v 8 4) (v 8 5) (v 8 6) (v 8 7) (v 8 8) (v 8 9) (v 8 10))) H := one_set hP (stD_D hq v) 9 rfl hq_1 hk_3
  refine lv_aload_n hC.1 hC.2.1 dX4_copyFrom_11 rfl (lv_at hl 1 rfl) ?_
  refine gf (v := .ref (q2 10)) hC fwX4 (hKN.go hAL hS) (keepS hP2 hS (stN_na hd v2)) 8 rfl rfl 1 (by decide) rfl wd_78 rfl dX4_copyFrom_12 ?_
  refine lv_aload_n hC.1 hC.2.1 dX4_copyFrom_15 rfl (lv_at hl 0 rfl) ?_
  refine gf (v := .ref (q 10)) hC fwX4 (hKN.go hAL hS) hP 8 rfl rfl 1 (by decide) rfl wd_78 rfl dX4_copyFrom_16 ?_
  refine runE (rSN (B := fun U H => RD (q2 10) 24 (v2 7) U H ∧ PW G (a1W G (q 10) 24 (v 7)) H) (As := [.ref (q2 10), .ref (q 10)]) (rest := []) hC mwX5_copyRow (c_X5_copyRow l G (q2 10) 24 (v2 7) (q 10) 24 (v 7) (stD_low hq _ ⟨10, by decide, rfl⟩) ⟨rfl, by decide⟩) wd_40 (nm_4 (hKN.go hAL hS)) ⟨rfl, rfl⟩ ⟨Nat.le_of_ble_eq_true rfl, Nat.le_of_ble_eq_true rfl⟩ (stb_and (stb_RD _ _ _) (stb_h (fun H => PW G (a1W G (q 10) 24 (v 7)) H))) (hKN.go hAL hS) ⟨(RD.ofP (hKN.go hAL hS) (keepS hP2 hS (stN_na hd v2)) 10 rfl), (one_of hP 10 rfl)⟩ rfl hl.1 rfl (Nat.le_of_ble_eq_true rfl) dX4_copyFrom_19 ⟨Nat.zero_le _, Nat.zero_le _⟩) hS (fun _ h => ⟨10, by decide, h⟩) (fun _ h => ⟨10, by decide, h⟩) (fun H locs hq_4 _ hk_6 hS => ?_)
  have hP : PW G (stW G q (mkS (v 0) (v 1) (v 2) (v 3) (v 4) (v 5) (fX5_copyRow 24 (v2 6) 24 (v 6)) (fX5_copyRow 24 (v2 7) 24 (v 7)) (v 8 0) (v 8 1) (v 8 2) (v 8 3) (v 8 4) (v 8 5) (v 8 6) (v 8 7) (v 8 8) (v 8 9) (v 8 10))) H := one_set hP (stD_D hq (mkS (v 0) (v 1) (v 2) (v 3) (v 4) (v 5) (fX5_copyRow 24 (v2 6) 24 (v 6)) (v 7) (v 8 0) (v 8 1) (v 8 2) (v 8 3) (v 8 4) (v 8 5) (v 8 6) (v 8 7) (v 8 8) (v 8 9) (v 8 10))) 10 rfl hq_4 hk_6
  refine lv_aload_n hC.1 hC.2.1 dX4_copyFrom_22 rfl (lv_at hl 0 rfl) ?_
  refine lv_aload_n hC.1 hC.2.1 dX4_copyFrom_23 rfl (lv_at hl 1 rfl) ?_
  refine gf (v := .int (v2 8 1)) hC fwX4 (hKN.go hAL hS) (keepS hP2 hS (stN_na hd v2)) 8 rfl rfl 2 (by decide) rfl wd_80 rfl dX4_copyFrom_24 ?_
  refine lv_topi (fun w_7 ew_7 => ?_)
  refine pf (v := .int w_7) (tv := .int) hC fwX4 (hKN.go hAL hS) hP (stD_D hq (mkS (v 0) (v 1) (v 2) (v 3) (v 4) (v 5) (fX5_copyRow 24 (v2 6) 24 (v 6)) (fX5_copyRow 24 (v2 7) 24 (v 7)) (v 8 0) (v 8 1) (v 8 2) (v 8 3) (v 8 4) (v 8 5) (v 8 6) (v 8 7) (v 8 8) (v 8 9) (v 8 10))) hS 8 rfl rfl 2 (by decide) rfl wd_80 rfl rfl rfl (Nat.le_of_ble_eq_true rfl) dX4_copyFrom_27 (fun H locs hq_8 hS => ?_)
  have hP : PW G (stW G q (mkS (v 0) (v 1) (v 2) (v 3) (v 4) (v 5) (fX5_copyRow 24 (v2 6) 24 (v 6)) (fX5_copyRow 24 (v2 7) 24 (v 7)) (v 8 0) w_7 (v 8 2) (v 8 3) (v 8 4) (v 8 5) (v 8 6) (v 8 7) (v 8 8) (v 8 9) (v 8 10))) H := hq_8
  refine lv_aload_n hC.1 hC.2.1 dX4_copyFrom_30 rfl (lv_at hl 0 rfl) ?_
  refine lv_aload_n hC.1 hC.2.1 dX4_copyFrom_31 rfl (lv_at hl 1 rfl) ?_
  refine gf (v := .int (v2 8 2)) hC fwX4 (hKN.go hAL hS) (keepS hP2 hS (stN_na hd v2)) 8 rfl rfl 3 (by decide) rfl wd_83 rfl dX4_copyFrom_32 ?_
  refine lv_topi (fun w_9 ew_9 => ?_)
  refine pf (v := .int w_9) (tv := .int) hC fwX4 (hKN.go hAL hS) hP (stD_D hq (mkS (v 0) (v 1) (v 2) (v 3) (v 4) (v 5) (fX5_copyRow 24 (v2 6) 24 (v 6)) (fX5_copyRow 24 (v2 7) 24 (v 7)) (v 8 0) w_7 (v 8 2) (v 8 3) (v 8 4) (v 8 5) (v 8 6) (v 8 7) (v 8 8) (v 8 9) (v 8 10))) hS 8 rfl rfl 3 (by decide) rfl wd_83 rfl rfl rfl (Nat.le_of_ble_eq_true rfl) dX4_copyFrom_35 (fun H locs hq_10 hS => ?_)
  have hP : PW G (stW G q (mkS (v 0) (v 1) (v 2) (v 3) (v 4) (v 5) (fX5_copyRow 24 (v2 6) 24 (v 6)) (fX5_copyRow 24 (v2 7) 24 (v 7)) (v 8 0) w_7 w_9 (v 8 3) (v 8 4) (v 8 5) (v 8 6) (v 8 7) (v 8 8) (v 8 9) (v 8 10))) H := hq_10
  refine lv_aload_n hC.1 hC.2.1 dX4_copyFrom_38 rfl (lv_at hl 0 rfl) ?_
  refine lv_aload_n hC.1 hC.2.1 dX4_copyFrom_39 rfl (lv_at hl 1 rfl) ?_
  refine gf (v := .int (v2 8 3)) hC fwX4 (hKN.go hAL hS) (keepS hP2 hS (stN_na hd v2)) 8 rfl rfl 4 (by decide) rfl wd_85 rfl dX4_copyFrom_40 ?_
  refine lv_topi (fun w_11 ew_11 => ?_)
  refine pf (v := .int w_11) (tv := .int) hC fwX4 (hKN.go hAL hS) hP (stD_D hq (mkS (v 0) (v 1) (v 2) (v 3) (v 4) (v 5) (fX5_copyRow 24 (v2 6) 24 (v 6)) (fX5_copyRow 24 (v2 7) 24 (v 7)) (v 8 0) w_7 w_9 (v 8 3) (v 8 4) (v 8 5) (v 8 6) (v 8 7) (v 8 8) (v 8 9) (v 8 10))) hS 8 rfl rfl 4 (by decide) rfl wd_85 rfl rfl rfl (Nat.le_of_ble_eq_true rfl) dX4_copyFrom_43 (fun H locs hq_12 hS => ?_)
  have hP : PW G (stW G q (mkS (v 0) (v 1) (v 2) (v 3) (v 4) (v 5) (fX5_copyRow 24 (v2 6) 24 (v 6)) (fX5_copyRow 24 (v2 7) 24 (v 7)) (v 8 0) w_7 w_9 w_11 (v 8 4) (v 8 5) (v 8 6) (v 8 7) (v 8 8) (v 8 9) (v 8 10))) H := hq_12
  refine lv_aload_n hC.1 hC.2.1 dX4_copyFrom_46 rfl (lv_at hl 0 rfl) ?_
  refine lv_aload_n hC.1 hC.2.1 dX4_copyFrom_47 rfl (lv_at hl 1 rfl) ?_
  refine gf (v := .int (v2 8 4)) hC fwX4 (hKN.go hAL hS) (keepS hP2 hS (stN_na hd v2)) 8 rfl rfl 5 (by decide) rfl wd_87 rfl dX4_copyFrom_48 ?_
  refine lv_topi (fun w_13 ew_13 => ?_)
  refine pf (v := .int w_13) (tv := .int) hC fwX4 (hKN.go hAL hS) hP (stD_D hq (mkS (v 0) (v 1) (v 2) (v 3) (v 4) (v 5) (fX5_copyRow 24 (v2 6) 24 (v 6)) (fX5_copyRow 24 (v2 7) 24 (v 7)) (v 8 0) w_7 w_9 w_11 (v 8 4) (v 8 5) (v 8 6) (v 8 7) (v 8 8) (v 8 9) (v 8 10))) hS 8 rfl rfl 5 (by decide) rfl wd_87 rfl rfl rfl (Nat.le_of_ble_eq_true rfl) dX4_copyFrom_51 (fun H locs hq_14 hS => ?_)
  have hP : PW G (stW G q (mkS (v 0) (v 1) (v 2) (v 3) (v 4) (v 5) (fX5_copyRow 24 (v2 6) 24 (v 6)) (fX5_copyRow 24 (v2 7) 24 (v 7)) (v 8 0) w_7 w_9 w_11 w_13 (v 8 5) (v 8 6) (v 8 7) (v 8 8) (v 8 9) (v 8 10))) H := hq_14
  refine lv_aload_n hC.1 hC.2.1 dX4_copyFrom_54 rfl (lv_at hl 0 rfl) ?_
  refine lv_aload_n hC.1 hC.2.1 dX4_copyFrom_55 rfl (lv_at hl 1 rfl) ?_
  refine gf (v := .int (v2 8 5)) hC fwX4 (hKN.go hAL hS) (keepS hP2 hS (stN_na hd v2)) 8 rfl rfl 6 (by decide) rfl wd_90 rfl dX4_copyFrom_56 ?_
  refine lv_topi (fun w_15 ew_15 => ?_)
  refine pf (v := .int w_15) (tv := .int) hC fwX4 (hKN.go hAL hS) hP (stD_D hq (mkS (v 0) (v 1) (v 2) (v 3) (v 4) (v 5) (fX5_copyRow 24 (v2 6) 24 (v 6)) (fX5_copyRow 24 (v2 7) 24 (v 7)) (v 8 0) w_7 w_9 w_11 w_13 (v 8 5) (v 8 6) (v 8 7) (v 8 8) (v 8 9) (v 8 10))) hS 8 rfl rfl 6 (by decide) rfl wd_90 rfl rfl rfl (Nat.le_of_ble_eq_true rfl) dX4_copyFrom_59 (fun H locs hq_16 hS => ?_)
  have hP : PW G (stW G q (mkS (v 0) (v 1) (v 2) (v 3) (v 4) (v 5) (fX5_copyRow 24 (v2 6) 24 (v 6)) (fX5_copyRow 24 (v2 7) 24 (v 7)) (v 8 0) w_7 w_9 w_11 w_13 w_15 (v 8 6) (v 8 7) (v 8 8) (v 8 9) (v 8 10))) H := hq_16
  refine lv_aload_n hC.1 hC.2.1 dX4_copyFrom_62 rfl (lv_at hl 0 rfl) ?_
  refine lv_aload_n hC.1 hC.2.1 dX4_copyFrom_63 rfl (lv_at hl 1 rfl) ?_
  refine gf (v := .int (v2 8 6)) hC fwX4 (hKN.go hAL hS) (keepS hP2 hS (stN_na hd v2)) 8 rfl rfl 7 (by decide) rfl wd_92 rfl dX4_copyFrom_64 ?_
  refine lv_topi (fun w_17 ew_17 => ?_)
  refine pf (v := .int w_17) (tv := .int) hC fwX4 (hKN.go hAL hS) hP (stD_D hq (mkS (v 0) (v 1) (v 2) (v 3) (v 4) (v 5) (fX5_copyRow 24 (v2 6) 24 (v 6)) (fX5_copyRow 24 (v2 7) 24 (v 7)) (v 8 0) w_7 w_9 w_11 w_13 w_15 (v 8 6) (v 8 7) (v 8 8) (v 8 9) (v 8 10))) hS 8 rfl rfl 7 (by decide) rfl wd_92 rfl rfl rfl (Nat.le_of_ble_eq_true rfl) dX4_copyFrom_67 (fun H locs hq_18 hS => ?_)
  have hP : PW G (stW G q (mkS (v 0) (v 1) (v 2) (v 3) (v 4) (v 5) (fX5_copyRow 24 (v2 6) 24 (v 6)) (fX5_copyRow 24 (v2 7) 24 (v 7)) (v 8 0) w_7 w_9 w_11 w_13 w_15 w_17 (v 8 7) (v 8 8) (v 8 9) (v 8 10))) H := hq_18
  refine lv_aload_n hC.1 hC.2.1 dX4_copyFrom_70 rfl (lv_at hl 0 rfl) ?_
  refine lv_aload_n hC.1 hC.2.1 dX4_copyFrom_71 rfl (lv_at hl 1 rfl) ?_
  refine gf (v := .int (v2 8 7)) hC fwX4 (hKN.go hAL hS) (keepS hP2 hS (stN_na hd v2)) 8 rfl rfl 8 (by decide) rfl wd_94 rfl dX4_copyFrom_72 ?_
  refine lv_topi (fun w_19 ew_19 => ?_)
  refine pf (v := .int w_19) (tv := .int) hC fwX4 (hKN.go hAL hS) hP (stD_D hq (mkS (v 0) (v 1) (v 2) (v 3) (v 4) (v 5) (fX5_copyRow 24 (v2 6) 24 (v 6)) (fX5_copyRow 24 (v2 7) 24 (v 7)) (v 8 0) w_7 w_9 w_11 w_13 w_15 w_17 (v 8 7) (v 8 8) (v 8 9) (v 8 10))) hS 8 rfl rfl 8 (by decide) rfl wd_94 rfl rfl rfl (Nat.le_of_ble_eq_true rfl) dX4_copyFrom_75 (fun H locs hq_20 hS => ?_)
  have hP : PW G (stW G q (mkS (v 0) (v 1) (v 2) (v 3) (v 4) (v 5) (fX5_copyRow 24 (v2 6) 24 (v 6)) (fX5_copyRow 24 (v2 7) 24 (v 7)) (v 8 0) w_7 w_9 w_11 w_13 w_15 w_17 w_19 (v 8 8) (v 8 9) (v 8 10))) H := hq_20
  have e_21 : fX4_copyFrom v v2 = mkS (v 0) (v 1) (v 2) (v 3) (v 4) (v 5) (fX5_copyRow 24 (v2 6) 24 (v 6)) (fX5_copyRow 24 (v2 7) 24 (v 7)) (v 8 0) w_7 w_9 w_11 w_13 w_15 w_17 w_19 (v 8 8) (v 8 9) (v 8 10) := by subst ew_19; subst ew_17; subst ew_15; subst ew_13; subst ew_11; subst ew_9; subst ew_7; exact rfl
  have hg : fX4_copyFrom v v2 = mkS (v 0) (v 1) (v 2) (v 3) (v 4) (v 5) (fX5_copyRow 24 (v2 6) 24 (v 6)) (fX5_copyRow 24 (v2 7) 24 (v 7)) (v 8 0) w_7 w_9 w_11 w_13 w_15 w_17 w_19 (v 8 8) (v 8 9) (v 8 10) := hg.trans (congrArg (fun z => z) e_21)
  exact eE_v hC (by show PW G (stW G q (fX4_copyFrom v v2)) H; rw [hg]; exact hP) hS dX4_copyFrom_78

theorem dX2_copyFrom_0 : decode cX2_copyFrom 0 = .ok (.aload_n 1, 1) := by decide +kernel
theorem dX2_copyFrom_1 : decode cX2_copyFrom 1 = .ok (.getfield 9, 3) := by decide +kernel
theorem dX2_copyFrom_4 : decode cX2_copyFrom 4 = .ok (.aload_n 0, 1) := by decide +kernel
theorem dX2_copyFrom_5 : decode cX2_copyFrom 5 = .ok (.getfield 9, 3) := by decide +kernel
theorem dX2_copyFrom_8 : decode cX2_copyFrom 8 = .ok (.invokestatic 24, 3) := by decide +kernel
theorem dX2_copyFrom_11 : decode cX2_copyFrom 11 = .ok (.aload_n 1, 1) := by decide +kernel
theorem dX2_copyFrom_12 : decode cX2_copyFrom 12 = .ok (.getfield 21, 3) := by decide +kernel
theorem dX2_copyFrom_15 : decode cX2_copyFrom 15 = .ok (.aload_n 0, 1) := by decide +kernel
theorem dX2_copyFrom_16 : decode cX2_copyFrom 16 = .ok (.getfield 21, 3) := by decide +kernel
theorem dX2_copyFrom_19 : decode cX2_copyFrom 19 = .ok (.invokestatic 24, 3) := by decide +kernel
theorem dX2_copyFrom_22 : decode cX2_copyFrom 22 = .ok (.aload_n 0, 1) := by decide +kernel
theorem dX2_copyFrom_23 : decode cX2_copyFrom 23 = .ok (.getfield 31, 3) := by decide +kernel
theorem dX2_copyFrom_26 : decode cX2_copyFrom 26 = .ok (.aload_n 1, 1) := by decide +kernel
theorem dX2_copyFrom_27 : decode cX2_copyFrom 27 = .ok (.getfield 31, 3) := by decide +kernel
theorem dX2_copyFrom_30 : decode cX2_copyFrom 30 = .ok (.invokevirtual 52, 3) := by decide +kernel
theorem dX2_copyFrom_33 : decode cX2_copyFrom 33 = .ok (.aload_n 0, 1) := by decide +kernel
theorem dX2_copyFrom_34 : decode cX2_copyFrom 34 = .ok (.getfield 38, 3) := by decide +kernel
theorem dX2_copyFrom_37 : decode cX2_copyFrom 37 = .ok (.aload_n 1, 1) := by decide +kernel
theorem dX2_copyFrom_38 : decode cX2_copyFrom 38 = .ok (.getfield 38, 3) := by decide +kernel
theorem dX2_copyFrom_41 : decode cX2_copyFrom 41 = .ok (.invokevirtual 56, 3) := by decide +kernel
theorem dX2_copyFrom_44 : decode cX2_copyFrom 44 = .ok (.aload_n 0, 1) := by decide +kernel
theorem dX2_copyFrom_45 : decode cX2_copyFrom 45 = .ok (.aload_n 1, 1) := by decide +kernel
theorem dX2_copyFrom_46 : decode cX2_copyFrom 46 = .ok (.getfield 42, 3) := by decide +kernel
theorem dX2_copyFrom_49 : decode cX2_copyFrom 49 = .ok (.putfield 42, 3) := by decide +kernel
theorem dX2_copyFrom_52 : decode cX2_copyFrom 52 = .ok (.aload_n 0, 1) := by decide +kernel
theorem dX2_copyFrom_53 : decode cX2_copyFrom 53 = .ok (.aload_n 1, 1) := by decide +kernel
theorem dX2_copyFrom_54 : decode cX2_copyFrom 54 = .ok (.getfield 46, 3) := by decide +kernel
theorem dX2_copyFrom_57 : decode cX2_copyFrom 57 = .ok (.putfield 46, 3) := by decide +kernel
theorem dX2_copyFrom_60 : decode cX2_copyFrom 60 = .ok (.aload_n 0, 1) := by decide +kernel
theorem dX2_copyFrom_61 : decode cX2_copyFrom 61 = .ok (.aload_n 1, 1) := by decide +kernel
theorem dX2_copyFrom_62 : decode cX2_copyFrom 62 = .ok (.getfield 49, 3) := by decide +kernel
theorem dX2_copyFrom_65 : decode cX2_copyFrom 65 = .ok (.putfield 49, 3) := by decide +kernel
theorem dX2_copyFrom_68 : decode cX2_copyFrom 68 = .ok (.return_, 1) := by decide +kernel
set_option maxHeartbeats 1000000 in
set_option maxRecDepth 100000 in
theorem c_X2_copyFrom (l : Launch) (G : GT) (q : Nat → Nat) (v : SV) (q2 : Nat → Nat) (v2 : SV) (hq : stD G q) (hd : stN q q2) : Met l yX2_copyFrom (Cond.code yX2_copyFrom cX2_copyFrom 2 none :: bigW) ({ frames := 3, cells := 0, slots := 0, locals := 72 }) (BP G [.ref (q 0), .ref (q2 0)] (fun U H => PW G (stW G q v) H ∧ PW G (stW G q2 v2) H)) (QE (none) (fun H => PW G (stW G q (fX2_copyFrom v v2)) H) (stA q)) 0 0 (stA q) := by
  refine met_of (by decide) (Nat.le_of_ble_eq_true rfl) ?_
  intro p e s m below meth c ls hC hKN hB0 hl
  obtain ⟨hP, hP2⟩ := hB0
  have hl : lv_has ls 2 [(0, .ref (q 0)), (1, .ref (q2 0))] := hl
  have hS : va_S (stA q) s.heap s.heap [] := va_S.rf
  have hAL : ∀ a, (stA q) a → gL G ≤ a := stD_low hq
  have hg : fX2_copyFrom v v2 = fX2_copyFrom v v2 := rfl
  refine lv_aload_n hC.1 hC.2.1 dX2_copyFrom_0 rfl (lv_at hl 1 rfl) ?_
  refine gf (v := .ref (q2 1)) hC fwX2 hKN hP2 0 rfl rfl 0 (by decide) rfl wd_116 rfl dX2_copyFrom_1 ?_
  refine lv_aload_n hC.1 hC.2.1 dX2_copyFrom_4 rfl (lv_at hl 0 rfl) ?_
  refine gf (v := .ref (q 1)) hC fwX2 hKN hP 0 rfl rfl 0 (by decide) rfl wd_116 rfl dX2_copyFrom_5 ?_
  refine runE (rSN (B := fun U H => RD (q2 1) 24 (v2 0) U H ∧ PW G (a1W G (q 1) 24 (v 0)) H) (As := [.ref (q2 1), .ref (q 1)]) (rest := []) hC mwX5_copyRow (c_X5_copyRow l G (q2 1) 24 (v2 0) (q 1) 24 (v 0) (stD_low hq _ ⟨1, by decide, rfl⟩) ⟨rfl, by decide⟩) wd_40 (nm_0 hKN) ⟨rfl, rfl⟩ ⟨Nat.le_of_ble_eq_true rfl, Nat.le_of_ble_eq_true rfl⟩ (stb_and (stb_RD _ _ _) (stb_h (fun H => PW G (a1W G (q 1) 24 (v 0)) H))) hKN ⟨(RD.ofP hKN hP2 1 rfl), (one_of hP 1 rfl)⟩ rfl hl.1 rfl (Nat.le_of_ble_eq_true rfl) dX2_copyFrom_8 ⟨Nat.zero_le _, Nat.zero_le _⟩) hS (fun _ h => ⟨1, by decide, h⟩) (fun _ h => ⟨1, by decide, h⟩) (fun H locs hq_1 _ hk_3 hS => ?_)
  have hP : PW G (stW G q (mkS (fX5_copyRow 24 (v2 0) 24 (v 0)) (v 1) (v 2) (v 3) (v 4) (v 5) (v 6) (v 7) (v 8 0) (v 8 1) (v 8 2) (v 8 3) (v 8 4) (v 8 5) (v 8 6) (v 8 7) (v 8 8) (v 8 9) (v 8 10))) H := one_set hP (stD_D hq v) 1 rfl hq_1 hk_3
  refine lv_aload_n hC.1 hC.2.1 dX2_copyFrom_11 rfl (lv_at hl 1 rfl) ?_
  refine gf (v := .ref (q2 3)) hC fwX2 (hKN.go hAL hS) (keepS hP2 hS (stN_na hd v2)) 0 rfl rfl 2 (by decide) rfl wd_118 rfl dX2_copyFrom_12 ?_
  refine lv_aload_n hC.1 hC.2.1 dX2_copyFrom_15 rfl (lv_at hl 0 rfl) ?_
  refine gf (v := .ref (q 3)) hC fwX2 (hKN.go hAL hS) hP 0 rfl rfl 2 (by decide) rfl wd_118 rfl dX2_copyFrom_16 ?_
  refine runE (rSN (B := fun U H => RD (q2 3) 7 (v2 2) U H ∧ PW G (a1W G (q 3) 7 (v 2)) H) (As := [.ref (q2 3), .ref (q 3)]) (rest := []) hC mwX5_copyRow (c_X5_copyRow l G (q2 3) 7 (v2 2) (q 3) 7 (v 2) (stD_low hq _ ⟨3, by decide, rfl⟩) ⟨rfl, by decide⟩) wd_40 (nm_0 (hKN.go hAL hS)) ⟨rfl, rfl⟩ ⟨Nat.le_of_ble_eq_true rfl, Nat.le_of_ble_eq_true rfl⟩ (stb_and (stb_RD _ _ _) (stb_h (fun H => PW G (a1W G (q 3) 7 (v 2)) H))) (hKN.go hAL hS) ⟨(RD.ofP (hKN.go hAL hS) (keepS hP2 hS (stN_na hd v2)) 3 rfl), (one_of hP 3 rfl)⟩ rfl hl.1 rfl (Nat.le_of_ble_eq_true rfl) dX2_copyFrom_19 ⟨Nat.zero_le _, Nat.zero_le _⟩) hS (fun _ h => ⟨3, by decide, h⟩) (fun _ h => ⟨3, by decide, h⟩) (fun H locs hq_4 _ hk_6 hS => ?_)
  have hP : PW G (stW G q (mkS (fX5_copyRow 24 (v2 0) 24 (v 0)) (v 1) (fX5_copyRow 7 (v2 2) 7 (v 2)) (v 3) (v 4) (v 5) (v 6) (v 7) (v 8 0) (v 8 1) (v 8 2) (v 8 3) (v 8 4) (v 8 5) (v 8 6) (v 8 7) (v 8 8) (v 8 9) (v 8 10))) H := one_set hP (stD_D hq (mkS (fX5_copyRow 24 (v2 0) 24 (v 0)) (v 1) (v 2) (v 3) (v 4) (v 5) (v 6) (v 7) (v 8 0) (v 8 1) (v 8 2) (v 8 3) (v 8 4) (v 8 5) (v 8 6) (v 8 7) (v 8 8) (v 8 9) (v 8 10))) 3 rfl hq_4 hk_6
  refine lv_aload_n hC.1 hC.2.1 dX2_copyFrom_22 rfl (lv_at hl 0 rfl) ?_
  refine gf (v := .ref (q 4)) hC fwX2 (hKN.go hAL hS) hP 0 rfl rfl 3 (by decide) rfl wd_119 rfl dX2_copyFrom_23 ?_
  refine lv_aload_n hC.1 hC.2.1 dX2_copyFrom_26 rfl (lv_at hl 1 rfl) ?_
  refine gf (v := .ref (q2 4)) hC fwX2 (hKN.go hAL hS) (keepS hP2 hS (stN_na hd v2)) 0 rfl rfl 3 (by decide) rfl wd_119 rfl dX2_copyFrom_27 ?_
  refine runE (rV (B := fun U H => PW G (stW G q (mkS (fX5_copyRow 24 (v2 0) 24 (v 0)) (v 1) (fX5_copyRow 7 (v2 2) 7 (v 2)) (v 3) (v 4) (v 5) (v 6) (v 7) (v 8 0) (v 8 1) (v 8 2) (v 8 3) (v 8 4) (v 8 5) (v 8 6) (v 8 7) (v 8 8) (v 8 9) (v 8 10))) H ∧ PW G (stW G q2 v2) H) (As := [.ref (q2 4)]) (rest := []) hC mwX3_copyFrom (c_X3_copyFrom l G q (mkS (fX5_copyRow 24 (v2 0) 24 (v 0)) (v 1) (fX5_copyRow 7 (v2 2) 7 (v 2)) (v 3) (v 4) (v 5) (v 6) (v 7) (v 8 0) (v 8 1) (v 8 2) (v 8 3) (v 8 4) (v 8 5) (v 8 6) (v 8 7) (v 8 8) (v 8 9) (v 8 10)) q2 v2 hq hd) iwX3_copyFrom wd_368 ⟨rfl, rfl⟩ ⟨Nat.le_of_ble_eq_true rfl, Nat.le_of_ble_eq_true rfl⟩ (stb_and (stb_h (fun H => PW G (stW G q (mkS (fX5_copyRow 24 (v2 0) 24 (v 0)) (v 1) (fX5_copyRow 7 (v2 2) 7 (v 2)) (v 3) (v 4) (v 5) (v 6) (v 7) (v 8 0) (v 8 1) (v 8 2) (v 8 3) (v 8 4) (v 8 5) (v 8 6) (v 8 7) (v 8 8) (v 8 9) (v 8 10))) H)) (stb_h (fun H => PW G (stW G q2 v2) H))) (hKN.go hAL hS) ⟨hP, (keepS hP2 hS (stN_na hd v2))⟩ (va_recv (hKN.go hAL hS).k hP (ci := 3) (q0 := 4) rfl rfl) rfl hl.1 rfl (Nat.le_of_ble_eq_true rfl) dX2_copyFrom_30 ⟨Nat.zero_le _, Nat.zero_le _⟩) hS (fun _ h => h) (fun _ h => h) (fun H locs hq_7 _ _ hS => ?_)
  have hP : PW G (stW G q (fX3_copyFrom (mkS (fX5_copyRow 24 (v2 0) 24 (v 0)) (v 1) (fX5_copyRow 7 (v2 2) 7 (v 2)) (v 3) (v 4) (v 5) (v 6) (v 7) (v 8 0) (v 8 1) (v 8 2) (v 8 3) (v 8 4) (v 8 5) (v 8 6) (v 8 7) (v 8 8) (v 8 9) (v 8 10)) v2)) H := hq_7
  obtain ⟨r_8, er_8⟩ : ∃ z, z = fX3_copyFrom (mkS (fX5_copyRow 24 (v2 0) 24 (v 0)) (v 1) (fX5_copyRow 7 (v2 2) 7 (v 2)) (v 3) (v 4) (v 5) (v 6) (v 7) (v 8 0) (v 8 1) (v 8 2) (v 8 3) (v 8 4) (v 8 5) (v 8 6) (v 8 7) (v 8 8) (v 8 9) (v 8 10)) v2 := ⟨_, rfl⟩
  rw [← er_8] at hP
  refine lv_aload_n hC.1 hC.2.1 dX2_copyFrom_33 rfl (lv_at hl 0 rfl) ?_
  refine gf (v := .ref (q 8)) hC fwX2 (hKN.go hAL hS) hP 0 rfl rfl 4 (by decide) rfl wd_121 rfl dX2_copyFrom_34 ?_
  refine lv_aload_n hC.1 hC.2.1 dX2_copyFrom_37 rfl (lv_at hl 1 rfl) ?_
  refine gf (v := .ref (q2 8)) hC fwX2 (hKN.go hAL hS) (keepS hP2 hS (stN_na hd v2)) 0 rfl rfl 4 (by decide) rfl wd_121 rfl dX2_copyFrom_38 ?_
  refine runE (rV (B := fun U H => PW G (stW G q r_8) H ∧ PW G (stW G q2 v2) H) (As := [.ref (q2 8)]) (rest := []) hC mwX4_copyFrom (c_X4_copyFrom l G q r_8 q2 v2 hq hd) iwX4_copyFrom wd_373 ⟨rfl, rfl⟩ ⟨Nat.le_of_ble_eq_true rfl, Nat.le_of_ble_eq_true rfl⟩ (stb_and (stb_h (fun H => PW G (stW G q r_8) H)) (stb_h (fun H => PW G (stW G q2 v2) H))) (hKN.go hAL hS) ⟨hP, (keepS hP2 hS (stN_na hd v2))⟩ (va_recv (hKN.go hAL hS).k hP (ci := 4) (q0 := 8) rfl rfl) rfl hl.1 rfl (Nat.le_of_ble_eq_true rfl) dX2_copyFrom_41 ⟨Nat.zero_le _, Nat.zero_le _⟩) hS (fun _ h => h) (fun _ h => h) (fun H locs hq_9 _ _ hS => ?_)
  have hP : PW G (stW G q (fX4_copyFrom r_8 v2)) H := hq_9
  obtain ⟨r_10, er_10⟩ : ∃ z, z = fX4_copyFrom r_8 v2 := ⟨_, rfl⟩
  rw [← er_10] at hP
  refine lv_aload_n hC.1 hC.2.1 dX2_copyFrom_44 rfl (lv_at hl 0 rfl) ?_
  refine lv_aload_n hC.1 hC.2.1 dX2_copyFrom_45 rfl (lv_at hl 1 rfl) ?_
  refine gf (v := .int (v2 8 8)) hC fwX2 (hKN.go hAL hS) (keepS hP2 hS (stN_na hd v2)) 0 rfl rfl 5 (by decide) rfl wd_123 rfl dX2_copyFrom_46 ?_
  refine lv_topi (fun w_11 ew_11 => ?_)
  refine pf (v := .int w_11) (tv := .int) hC fwX2 (hKN.go hAL hS) hP (stD_D hq r_10) hS 0 rfl rfl 5 (by decide) rfl wd_123 rfl rfl rfl (Nat.le_of_ble_eq_true rfl) dX2_copyFrom_49 (fun H locs hq_12 hS => ?_)
  have hP : PW G (stW G q (mkS (r_10 0) (r_10 1) (r_10 2) (r_10 3) (r_10 4) (r_10 5) (r_10 6) (r_10 7) (r_10 8 0) (r_10 8 1) (r_10 8 2) (r_10 8 3) (r_10 8 4) (r_10 8 5) (r_10 8 6) (r_10 8 7) w_11 (r_10 8 9) (r_10 8 10))) H := hq_12
  refine lv_aload_n hC.1 hC.2.1 dX2_copyFrom_52 rfl (lv_at hl 0 rfl) ?_
  refine lv_aload_n hC.1 hC.2.1 dX2_copyFrom_53 rfl (lv_at hl 1 rfl) ?_
  refine gf (v := .int (v2 8 9)) hC fwX2 (hKN.go hAL hS) (keepS hP2 hS (stN_na hd v2)) 0 rfl rfl 6 (by decide) rfl wd_124 rfl dX2_copyFrom_54 ?_
  refine lv_topi (fun w_13 ew_13 => ?_)
  refine pf (v := .int w_13) (tv := .int) hC fwX2 (hKN.go hAL hS) hP (stD_D hq (mkS (r_10 0) (r_10 1) (r_10 2) (r_10 3) (r_10 4) (r_10 5) (r_10 6) (r_10 7) (r_10 8 0) (r_10 8 1) (r_10 8 2) (r_10 8 3) (r_10 8 4) (r_10 8 5) (r_10 8 6) (r_10 8 7) w_11 (r_10 8 9) (r_10 8 10))) hS 0 rfl rfl 6 (by decide) rfl wd_124 rfl rfl rfl (Nat.le_of_ble_eq_true rfl) dX2_copyFrom_57 (fun H locs hq_14 hS => ?_)
  have hP : PW G (stW G q (mkS (r_10 0) (r_10 1) (r_10 2) (r_10 3) (r_10 4) (r_10 5) (r_10 6) (r_10 7) (r_10 8 0) (r_10 8 1) (r_10 8 2) (r_10 8 3) (r_10 8 4) (r_10 8 5) (r_10 8 6) (r_10 8 7) w_11 w_13 (r_10 8 10))) H := hq_14
  refine lv_aload_n hC.1 hC.2.1 dX2_copyFrom_60 rfl (lv_at hl 0 rfl) ?_
  refine lv_aload_n hC.1 hC.2.1 dX2_copyFrom_61 rfl (lv_at hl 1 rfl) ?_
  refine gf (v := .int (v2 8 10)) hC fwX2 (hKN.go hAL hS) (keepS hP2 hS (stN_na hd v2)) 0 rfl rfl 7 (by decide) rfl wd_125 rfl dX2_copyFrom_62 ?_
  refine lv_topi (fun w_15 ew_15 => ?_)
  refine pf (v := .int w_15) (tv := .int) hC fwX2 (hKN.go hAL hS) hP (stD_D hq (mkS (r_10 0) (r_10 1) (r_10 2) (r_10 3) (r_10 4) (r_10 5) (r_10 6) (r_10 7) (r_10 8 0) (r_10 8 1) (r_10 8 2) (r_10 8 3) (r_10 8 4) (r_10 8 5) (r_10 8 6) (r_10 8 7) w_11 w_13 (r_10 8 10))) hS 0 rfl rfl 7 (by decide) rfl wd_125 rfl rfl rfl (Nat.le_of_ble_eq_true rfl) dX2_copyFrom_65 (fun H locs hq_16 hS => ?_)
  have hP : PW G (stW G q (mkS (r_10 0) (r_10 1) (r_10 2) (r_10 3) (r_10 4) (r_10 5) (r_10 6) (r_10 7) (r_10 8 0) (r_10 8 1) (r_10 8 2) (r_10 8 3) (r_10 8 4) (r_10 8 5) (r_10 8 6) (r_10 8 7) w_11 w_13 w_15)) H := hq_16
  have e_17 : fX2_copyFrom v v2 = mkS (r_10 0) (r_10 1) (r_10 2) (r_10 3) (r_10 4) (r_10 5) (r_10 6) (r_10 7) (r_10 8 0) (r_10 8 1) (r_10 8 2) (r_10 8 3) (r_10 8 4) (r_10 8 5) (r_10 8 6) (r_10 8 7) w_11 w_13 w_15 := by subst ew_15; subst ew_13; subst ew_11; subst er_10; subst er_8; exact rfl
  have hg : fX2_copyFrom v v2 = mkS (r_10 0) (r_10 1) (r_10 2) (r_10 3) (r_10 4) (r_10 5) (r_10 6) (r_10 7) (r_10 8 0) (r_10 8 1) (r_10 8 2) (r_10 8 3) (r_10 8 4) (r_10 8 5) (r_10 8 6) (r_10 8 7) w_11 w_13 w_15 := hg.trans (congrArg (fun z => z) e_17)
  exact eE_v hC (by show PW G (stW G q (fX2_copyFrom v v2)) H; rw [hg]; exact hP) hS dX2_copyFrom_68

theorem dX3_addLine_0 : decode cX3_addLine 0 = .ok (.aload_n 0, 1) := by decide +kernel
theorem dX3_addLine_1 : decode cX3_addLine 1 = .ok (.getfield 11, 3) := by decide +kernel
theorem dX3_addLine_4 : decode cX3_addLine 4 = .ok (.iload_n 1, 1) := by decide +kernel
theorem dX3_addLine_5 : decode cX3_addLine 5 = .ok (.invokestatic 29, 3) := by decide +kernel
theorem dX3_addLine_8 : decode cX3_addLine 8 = .ok (.aload_n 0, 1) := by decide +kernel
theorem dX3_addLine_9 : decode cX3_addLine 9 = .ok (.getfield 15, 3) := by decide +kernel
theorem dX3_addLine_12 : decode cX3_addLine 12 = .ok (.iload_n 2, 1) := by decide +kernel
theorem dX3_addLine_13 : decode cX3_addLine 13 = .ok (.invokestatic 29, 3) := by decide +kernel
theorem dX3_addLine_16 : decode cX3_addLine 16 = .ok (.aload_n 0, 1) := by decide +kernel
theorem dX3_addLine_17 : decode cX3_addLine 17 = .ok (.getfield 18, 3) := by decide +kernel
theorem dX3_addLine_20 : decode cX3_addLine 20 = .ok (.iload_n 3, 1) := by decide +kernel
theorem dX3_addLine_21 : decode cX3_addLine 21 = .ok (.invokestatic 29, 3) := by decide +kernel
theorem dX3_addLine_24 : decode cX3_addLine 24 = .ok (.aload_n 0, 1) := by decide +kernel
theorem dX3_addLine_25 : decode cX3_addLine 25 = .ok (.bipush 12, 2) := by decide +kernel
theorem dX3_addLine_27 : decode cX3_addLine 27 = .ok (.aload_n 0, 1) := by decide +kernel
theorem dX3_addLine_28 : decode cX3_addLine 28 = .ok (.getfield 21, 3) := by decide +kernel
theorem dX3_addLine_31 : decode cX3_addLine 31 = .ok (.iconst 1, 1) := by decide +kernel
theorem dX3_addLine_32 : decode cX3_addLine 32 = .ok (.iadd, 1) := by decide +kernel
theorem dX3_addLine_33 : decode cX3_addLine 33 = .ok (.invokestatic 33, 3) := by decide +kernel
theorem dX3_addLine_36 : decode cX3_addLine 36 = .ok (.putfield 21, 3) := by decide +kernel
theorem dX3_addLine_39 : decode cX3_addLine 39 = .ok (.return_, 1) := by decide +kernel
set_option maxHeartbeats 1000000 in
set_option maxRecDepth 100000 in
theorem c_X3_addLine (l : Launch) (G : GT) (q : Nat → Nat) (v : SV) (x1 : Int32) (x2 : Int32) (x3 : Int32) (hq : stD G q) : Met l yX3_addLine (Cond.code yX3_addLine cX3_addLine 4 none :: bigW) ({ frames := 2, cells := 0, slots := 0, locals := 44 }) (BP G [.ref (q 4), .int x1, .int x2, .int x3] (fun U H => PW G (stW G q v) H)) (QE (none) (fun H => PW G (stW G q (fX3_addLine v x1 x2 x3)) H) (stA q)) 0 0 (stA q) := by
  refine met_of (by decide) (Nat.le_of_ble_eq_true rfl) ?_
  intro p e s m below meth c ls hC hKN hB0 hl
  have hP := hB0
  have hl : lv_has ls 4 [(0, .ref (q 4)), (1, .int x1), (2, .int x2), (3, .int x3)] := hl
  have hS : va_S (stA q) s.heap s.heap [] := va_S.rf
  have hAL : ∀ a, (stA q) a → gL G ≤ a := stD_low hq
  have hg : fX3_addLine v x1 x2 x3 = fX3_addLine v x1 x2 x3 := rfl
  refine lv_aload_n hC.1 hC.2.1 dX3_addLine_0 rfl (lv_at hl 0 rfl) ?_
  refine gf (v := .ref (q 5)) hC fwX3 hKN hP 4 rfl rfl 0 (by decide) rfl wd_54 rfl dX3_addLine_1 ?_
  refine lv_iload_n hC.1 hC.2.1 dX3_addLine_4 rfl (lv_at hl 1 rfl) ?_
  refine runE (rS (B := fun U H => PW G (a1W G (q 5) 12 (v 3)) H) (As := [.ref (q 5), .int x1]) (rest := []) hC mwX3_pushFront (c_X3_pushFront l G (q 5) (v 3) x1 (stD_low hq _ ⟨5, by decide, rfl⟩)) wd_547 wd_546 ⟨rfl, rfl⟩ ⟨Nat.le_of_ble_eq_true rfl, Nat.le_of_ble_eq_true rfl⟩ (stb_h (fun H => PW G (a1W G (q 5) 12 (v 3)) H)) hKN (one_of hP 5 rfl) rfl hl.1 rfl (Nat.le_of_ble_eq_true rfl) dX3_addLine_5 ⟨Nat.zero_le _, Nat.zero_le _⟩) hS (fun _ h => ⟨5, by decide, h⟩) (fun _ h => ⟨5, by decide, h⟩) (fun H locs hq_1 _ hk_3 hS => ?_)
  have hP : PW G (stW G q (mkS (v 0) (v 1) (v 2) (fX3_pushFront (v 3) x1) (v 4) (v 5) (v 6) (v 7) (v 8 0) (v 8 1) (v 8 2) (v 8 3) (v 8 4) (v 8 5) (v 8 6) (v 8 7) (v 8 8) (v 8 9) (v 8 10))) H := one_set hP (stD_D hq v) 5 rfl hq_1 hk_3
  refine lv_aload_n hC.1 hC.2.1 dX3_addLine_8 rfl (lv_at hl 0 rfl) ?_
  refine gf (v := .ref (q 6)) hC fwX3 (hKN.go hAL hS) hP 4 rfl rfl 1 (by decide) rfl wd_55 rfl dX3_addLine_9 ?_
  refine lv_iload_n hC.1 hC.2.1 dX3_addLine_12 rfl (lv_at hl 2 rfl) ?_
  refine runE (rS (B := fun U H => PW G (a1W G (q 6) 12 (v 4)) H) (As := [.ref (q 6), .int x2]) (rest := []) hC mwX3_pushFront (c_X3_pushFront l G (q 6) (v 4) x2 (stD_low hq _ ⟨6, by decide, rfl⟩)) wd_547 wd_546 ⟨rfl, rfl⟩ ⟨Nat.le_of_ble_eq_true rfl, Nat.le_of_ble_eq_true rfl⟩ (stb_h (fun H => PW G (a1W G (q 6) 12 (v 4)) H)) (hKN.go hAL hS) (one_of hP 6 rfl) rfl hl.1 rfl (Nat.le_of_ble_eq_true rfl) dX3_addLine_13 ⟨Nat.zero_le _, Nat.zero_le _⟩) hS (fun _ h => ⟨6, by decide, h⟩) (fun _ h => ⟨6, by decide, h⟩) (fun H locs hq_4 _ hk_6 hS => ?_)
  have hP : PW G (stW G q (mkS (v 0) (v 1) (v 2) (fX3_pushFront (v 3) x1) (fX3_pushFront (v 4) x2) (v 5) (v 6) (v 7) (v 8 0) (v 8 1) (v 8 2) (v 8 3) (v 8 4) (v 8 5) (v 8 6) (v 8 7) (v 8 8) (v 8 9) (v 8 10))) H := one_set hP (stD_D hq (mkS (v 0) (v 1) (v 2) (fX3_pushFront (v 3) x1) (v 4) (v 5) (v 6) (v 7) (v 8 0) (v 8 1) (v 8 2) (v 8 3) (v 8 4) (v 8 5) (v 8 6) (v 8 7) (v 8 8) (v 8 9) (v 8 10))) 6 rfl hq_4 hk_6
  refine lv_aload_n hC.1 hC.2.1 dX3_addLine_16 rfl (lv_at hl 0 rfl) ?_
  refine gf (v := .ref (q 7)) hC fwX3 (hKN.go hAL hS) hP 4 rfl rfl 2 (by decide) rfl wd_56 rfl dX3_addLine_17 ?_
  refine lv_iload_n hC.1 hC.2.1 dX3_addLine_20 rfl (lv_at hl 3 rfl) ?_
  refine runE (rS (B := fun U H => PW G (a1W G (q 7) 12 (v 5)) H) (As := [.ref (q 7), .int x3]) (rest := []) hC mwX3_pushFront (c_X3_pushFront l G (q 7) (v 5) x3 (stD_low hq _ ⟨7, by decide, rfl⟩)) wd_547 wd_546 ⟨rfl, rfl⟩ ⟨Nat.le_of_ble_eq_true rfl, Nat.le_of_ble_eq_true rfl⟩ (stb_h (fun H => PW G (a1W G (q 7) 12 (v 5)) H)) (hKN.go hAL hS) (one_of hP 7 rfl) rfl hl.1 rfl (Nat.le_of_ble_eq_true rfl) dX3_addLine_21 ⟨Nat.zero_le _, Nat.zero_le _⟩) hS (fun _ h => ⟨7, by decide, h⟩) (fun _ h => ⟨7, by decide, h⟩) (fun H locs hq_7 _ hk_9 hS => ?_)
  have hP : PW G (stW G q (mkS (v 0) (v 1) (v 2) (fX3_pushFront (v 3) x1) (fX3_pushFront (v 4) x2) (fX3_pushFront (v 5) x3) (v 6) (v 7) (v 8 0) (v 8 1) (v 8 2) (v 8 3) (v 8 4) (v 8 5) (v 8 6) (v 8 7) (v 8 8) (v 8 9) (v 8 10))) H := one_set hP (stD_D hq (mkS (v 0) (v 1) (v 2) (fX3_pushFront (v 3) x1) (fX3_pushFront (v 4) x2) (v 5) (v 6) (v 7) (v 8 0) (v 8 1) (v 8 2) (v 8 3) (v 8 4) (v 8 5) (v 8 6) (v 8 7) (v 8 8) (v 8 9) (v 8 10))) 7 rfl hq_7 hk_9
  refine lv_aload_n hC.1 hC.2.1 dX3_addLine_24 rfl (lv_at hl 0 rfl) ?_
  refine lv_bipush (v := 12) hC.1 hC.2.1 dX3_addLine_25 (by decide +kernel) ?_
  refine lv_aload_n hC.1 hC.2.1 dX3_addLine_27 rfl (lv_at hl 0 rfl) ?_
  refine gf (v := .int (v 8 0)) hC fwX3 (hKN.go hAL hS) hP 4 rfl rfl 3 (by decide) rfl wd_57 rfl dX3_addLine_28 ?_
  refine lv_iconst (v := 1) hC.1 hC.2.1 dX3_addLine_31 (by decide) ?_
  refine lv_iadd hC.1 hC.2.1 dX3_addLine_32 ?_
  refine va_mmin hC.1 hC.2.1 (hC.2.2.2.1.trans hl.1.symm) hC.2.2.2.2.1 (hC.2.2.2.2.2.2.1 _ wd_550) (hC.2.2.2.2.2.2.1 _ wd_43) (hC.2.2.2.2.2.2.1 _ wd_3) (hC.2.2.2.2.2.2.1 _ wd_44) (Nat.le_of_ble_eq_true rfl) (Nat.le_of_ble_eq_true rfl) (Nat.zero_le _) (Nat.zero_le _) dX3_addLine_33 ?_
  refine lv_topi (fun w_10 ew_10 => ?_)
  refine pf (v := .int w_10) (tv := .int) hC fwX3 (hKN.go hAL hS) hP (stD_D hq (mkS (v 0) (v 1) (v 2) (fX3_pushFront (v 3) x1) (fX3_pushFront (v 4) x2) (fX3_pushFront (v 5) x3) (v 6) (v 7) (v 8 0) (v 8 1) (v 8 2) (v 8 3) (v 8 4) (v 8 5) (v 8 6) (v 8 7) (v 8 8) (v 8 9) (v 8 10))) hS 4 rfl rfl 3 (by decide) rfl wd_57 rfl rfl rfl (Nat.le_of_ble_eq_true rfl) dX3_addLine_36 (fun H locs hq_11 hS => ?_)
  have hP : PW G (stW G q (mkS (v 0) (v 1) (v 2) (fX3_pushFront (v 3) x1) (fX3_pushFront (v 4) x2) (fX3_pushFront (v 5) x3) (v 6) (v 7) w_10 (v 8 1) (v 8 2) (v 8 3) (v 8 4) (v 8 5) (v 8 6) (v 8 7) (v 8 8) (v 8 9) (v 8 10))) H := hq_11
  have e_12 : fX3_addLine v x1 x2 x3 = mkS (v 0) (v 1) (v 2) (fX3_pushFront (v 3) x1) (fX3_pushFront (v 4) x2) (fX3_pushFront (v 5) x3) (v 6) (v 7) w_10 (v 8 1) (v 8 2) (v 8 3) (v 8 4) (v 8 5) (v 8 6) (v 8 7) (v 8 8) (v 8 9) (v 8 10) := by subst ew_10; exact rfl
  have hg : fX3_addLine v x1 x2 x3 = mkS (v 0) (v 1) (v 2) (fX3_pushFront (v 3) x1) (fX3_pushFront (v 4) x2) (fX3_pushFront (v 5) x3) (v 6) (v 7) w_10 (v 8 1) (v 8 2) (v 8 3) (v 8 4) (v 8 5) (v 8 6) (v 8 7) (v 8 8) (v 8 9) (v 8 10) := hg.trans (congrArg (fun z => z) e_12)
  exact eE_v hC (by show PW G (stW G q (fX3_addLine v x1 x2 x3)) H; rw [hg]; exact hP) hS dX3_addLine_39
end
section
def fX4_addLine (v : SV) (x1 : Int32) (x2 : Int32) (x3 : Int32) : SV := let w_1 : Int32 := (v 8 2) + 1; let w_3 : Int32 := (v 8 3) + x3; let w_5 : Int32 := (v 8 5) + (fJ6_bitCount_0f7a4 x1); let w_7 : Int32 := (v 8 6) + (fJ6_bitCount_0f7a4 x2); mkS (v 0) (v 1) (v 2) (v 3) (v 4) (v 5) (fX4_addDots (v 6) x1) (fX4_addDots (v 7) x2) (v 8 0) (v 8 1) w_1 w_3 (v 8 4) w_5 w_7 (v 8 7) (v 8 8) (v 8 9) (v 8 10)
theorem dX4_addLine_0 : decode cX4_addLine 0 = .ok (.aload_n 0, 1) := by decide +kernel
theorem dX4_addLine_1 : decode cX4_addLine 1 = .ok (.dup, 1) := by decide +kernel
theorem dX4_addLine_2 : decode cX4_addLine 2 = .ok (.getfield 22, 3) := by decide +kernel
theorem dX4_addLine_5 : decode cX4_addLine 5 = .ok (.iconst 1, 1) := by decide +kernel
theorem dX4_addLine_6 : decode cX4_addLine 6 = .ok (.iadd, 1) := by decide +kernel
theorem dX4_addLine_7 : decode cX4_addLine 7 = .ok (.putfield 22, 3) := by decide +kernel
theorem dX4_addLine_10 : decode cX4_addLine 10 = .ok (.aload_n 0, 1) := by decide +kernel
theorem dX4_addLine_11 : decode cX4_addLine 11 = .ok (.dup, 1) := by decide +kernel
theorem dX4_addLine_12 : decode cX4_addLine 12 = .ok (.getfield 25, 3) := by decide +kernel
theorem dX4_addLine_15 : decode cX4_addLine 15 = .ok (.iload_n 3, 1) := by decide +kernel
theorem dX4_addLine_16 : decode cX4_addLine 16 = .ok (.iadd, 1) := by decide +kernel
theorem dX4_addLine_17 : decode cX4_addLine 17 = .ok (.putfield 25, 3) := by decide +kernel
theorem dX4_addLine_20 : decode cX4_addLine 20 = .ok (.aload_n 0, 1) := by decide +kernel
theorem dX4_addLine_21 : decode cX4_addLine 21 = .ok (.dup, 1) := by decide +kernel
theorem dX4_addLine_22 : decode cX4_addLine 22 = .ok (.getfield 31, 3) := by decide +kernel
theorem dX4_addLine_25 : decode cX4_addLine 25 = .ok (.iload_n 1, 1) := by decide +kernel
theorem dX4_addLine_26 : decode cX4_addLine 26 = .ok (.invokestatic 44, 3) := by decide +kernel
theorem dX4_addLine_29 : decode cX4_addLine 29 = .ok (.iadd, 1) := by decide +kernel
theorem dX4_addLine_30 : decode cX4_addLine 30 = .ok (.putfield 31, 3) := by decide +kernel
theorem dX4_addLine_33 : decode cX4_addLine 33 = .ok (.aload_n 0, 1) := by decide +kernel
theorem dX4_addLine_34 : decode cX4_addLine 34 = .ok (.dup, 1) := by decide +kernel
theorem dX4_addLine_35 : decode cX4_addLine 35 = .ok (.getfield 34, 3) := by decide +kernel
theorem dX4_addLine_38 : decode cX4_addLine 38 = .ok (.iload_n 2, 1) := by decide +kernel
theorem dX4_addLine_39 : decode cX4_addLine 39 = .ok (.invokestatic 44, 3) := by decide +kernel
theorem dX4_addLine_42 : decode cX4_addLine 42 = .ok (.iadd, 1) := by decide +kernel
theorem dX4_addLine_43 : decode cX4_addLine 43 = .ok (.putfield 34, 3) := by decide +kernel
theorem dX4_addLine_46 : decode cX4_addLine 46 = .ok (.aload_n 0, 1) := by decide +kernel
theorem dX4_addLine_47 : decode cX4_addLine 47 = .ok (.getfield 9, 3) := by decide +kernel
theorem dX4_addLine_50 : decode cX4_addLine 50 = .ok (.iload_n 1, 1) := by decide +kernel
theorem dX4_addLine_51 : decode cX4_addLine 51 = .ok (.invokestatic 50, 3) := by decide +kernel
theorem dX4_addLine_54 : decode cX4_addLine 54 = .ok (.aload_n 0, 1) := by decide +kernel
theorem dX4_addLine_55 : decode cX4_addLine 55 = .ok (.getfield 15, 3) := by decide +kernel
theorem dX4_addLine_58 : decode cX4_addLine 58 = .ok (.iload_n 2, 1) := by decide +kernel
theorem dX4_addLine_59 : decode cX4_addLine 59 = .ok (.invokestatic 50, 3) := by decide +kernel
theorem dX4_addLine_62 : decode cX4_addLine 62 = .ok (.return_, 1) := by decide +kernel
set_option maxHeartbeats 1000000 in
set_option maxRecDepth 100000 in
theorem c_X4_addLine (l : Launch) (G : GT) (q : Nat → Nat) (v : SV) (x1 : Int32) (x2 : Int32) (x3 : Int32) (hq : stD G q) : Met l yX4_addLine (Cond.code yX4_addLine cX4_addLine 4 none :: bigW) ({ frames := 2, cells := 0, slots := 0, locals := 43 }) (BP G [.ref (q 8), .int x1, .int x2, .int x3] (fun U H => PW G (stW G q v) H)) (QE (none) (fun H => PW G (stW G q (fX4_addLine v x1 x2 x3)) H) (stA q)) 0 0 (stA q) := by
  refine met_of (by decide) (Nat.le_of_ble_eq_true rfl) ?_
  intro p e s m below meth c ls hC hKN hB0 hl
  have hP := hB0
  have hl : lv_has ls 4 [(0, .ref (q 8)), (1, .int x1), (2, .int x2), (3, .int x3)] := hl
  have hS : va_S (stA q) s.heap s.heap [] := va_S.rf
  have hAL : ∀ a, (stA q) a → gL G ≤ a := stD_low hq
  have hg : fX4_addLine v x1 x2 x3 = fX4_addLine v x1 x2 x3 := rfl
  refine lv_aload_n hC.1 hC.2.1 dX4_addLine_0 rfl (lv_at hl 0 rfl) ?_
  refine lv_dup hC.1 hC.2.1 dX4_addLine_1 rfl ?_
  refine gf (v := .int (v 8 2)) hC fwX4 hKN hP 8 rfl rfl 3 (by decide) rfl wd_83 rfl dX4_addLine_2 ?_
  refine lv_iconst (v := 1) hC.1 hC.2.1 dX4_addLine_5 (by decide) ?_
  refine lv_iadd hC.1 hC.2.1 dX4_addLine_6 ?_
  refine lv_topi (fun w_1 ew_1 => ?_)
  refine pf (v := .int w_1) (tv := .int) hC fwX4 hKN hP (stD_D hq v) hS 8 rfl rfl 3 (by decide) rfl wd_83 rfl rfl rfl (Nat.le_of_ble_eq_true rfl) dX4_addLine_7 (fun H locs hq_2 hS => ?_)
  have hP : PW G (stW G q (mkS (v 0) (v 1) (v 2) (v 3) (v 4) (v 5) (v 6) (v 7) (v 8 0) (v 8 1) w_1 (v 8 3) (v 8 4) (v 8 5) (v 8 6) (v 8 7) (v 8 8) (v 8 9) (v 8 10))) H := hq_2
  refine lv_aload_n hC.1 hC.2.1 dX4_addLine_10 rfl (lv_at hl 0 rfl) ?_
  refine lv_dup hC.1 hC.2.1 dX4_addLine_11 rfl ?_
  refine gf (v := .int (v 8 3)) hC fwX4 (hKN.go hAL hS) hP 8 rfl rfl 4 (by decide) rfl wd_85 rfl dX4_addLine_12 ?_
  refine lv_iload_n hC.1 hC.2.1 dX4_addLine_15 rfl (lv_at hl 3 rfl) ?_
  refine lv_iadd hC.1 hC.2.1 dX4_addLine_16 ?_
  refine lv_topi (fun w_3 ew_3 => ?_)
  refine pf (v := .int w_3) (tv := .int) hC fwX4 (hKN.go hAL hS) hP (stD_D hq (mkS (v 0) (v 1) (v 2) (v 3) (v 4) (v 5) (v 6) (v 7) (v 8 0) (v 8 1) w_1 (v 8 3) (v 8 4) (v 8 5) (v 8 6) (v 8 7) (v 8 8) (v 8 9) (v 8 10))) hS 8 rfl rfl 4 (by decide) rfl wd_85 rfl rfl rfl (Nat.le_of_ble_eq_true rfl) dX4_addLine_17 (fun H locs hq_4 hS => ?_)
  have hP : PW G (stW G q (mkS (v 0) (v 1) (v 2) (v 3) (v 4) (v 5) (v 6) (v 7) (v 8 0) (v 8 1) w_1 w_3 (v 8 4) (v 8 5) (v 8 6) (v 8 7) (v 8 8) (v 8 9) (v 8 10))) H := hq_4
  refine lv_aload_n hC.1 hC.2.1 dX4_addLine_20 rfl (lv_at hl 0 rfl) ?_
  refine lv_dup hC.1 hC.2.1 dX4_addLine_21 rfl ?_
  refine gf (v := .int (v 8 5)) hC fwX4 (hKN.go hAL hS) hP 8 rfl rfl 6 (by decide) rfl wd_90 rfl dX4_addLine_22 ?_
  refine lv_iload_n hC.1 hC.2.1 dX4_addLine_25 rfl (lv_at hl 1 rfl) ?_
  refine runP (rS (B := fun U H => True) (As := [.int x1]) (rest := [.int (v 8 5), .ref (q 8)]) hC mwJ6_bitCount_0f7a4 (c_J6_bitCount_0f7a4 l G x1) wd_503 wd_555 ⟨rfl, rfl⟩ ⟨Nat.le_of_ble_eq_true rfl, Nat.le_of_ble_eq_true rfl⟩ (fun _ _ _ _ h => h) (hKN.go hAL hS) trivial rfl hl.1 rfl (Nat.le_of_ble_eq_true rfl) dX4_addLine_26 ⟨Nat.zero_le _, Nat.zero_le _⟩) ?_
  refine lv_iadd hC.1 hC.2.1 dX4_addLine_29 ?_
  refine lv_topi (fun w_5 ew_5 => ?_)
  refine pf (v := .int w_5) (tv := .int) hC fwX4 (hKN.go hAL hS) hP (stD_D hq (mkS (v 0) (v 1) (v 2) (v 3) (v 4) (v 5) (v 6) (v 7) (v 8 0) (v 8 1) w_1 w_3 (v 8 4) (v 8 5) (v 8 6) (v 8 7) (v 8 8) (v 8 9) (v 8 10))) hS 8 rfl rfl 6 (by decide) rfl wd_90 rfl rfl rfl (Nat.le_of_ble_eq_true rfl) dX4_addLine_30 (fun H locs hq_6 hS => ?_)
  have hP : PW G (stW G q (mkS (v 0) (v 1) (v 2) (v 3) (v 4) (v 5) (v 6) (v 7) (v 8 0) (v 8 1) w_1 w_3 (v 8 4) w_5 (v 8 6) (v 8 7) (v 8 8) (v 8 9) (v 8 10))) H := hq_6
  refine lv_aload_n hC.1 hC.2.1 dX4_addLine_33 rfl (lv_at hl 0 rfl) ?_
  refine lv_dup hC.1 hC.2.1 dX4_addLine_34 rfl ?_
  refine gf (v := .int (v 8 6)) hC fwX4 (hKN.go hAL hS) hP 8 rfl rfl 7 (by decide) rfl wd_92 rfl dX4_addLine_35 ?_
  refine lv_iload_n hC.1 hC.2.1 dX4_addLine_38 rfl (lv_at hl 2 rfl) ?_
  refine runP (rS (B := fun U H => True) (As := [.int x2]) (rest := [.int (v 8 6), .ref (q 8)]) hC mwJ6_bitCount_0f7a4 (c_J6_bitCount_0f7a4 l G x2) wd_503 wd_555 ⟨rfl, rfl⟩ ⟨Nat.le_of_ble_eq_true rfl, Nat.le_of_ble_eq_true rfl⟩ (fun _ _ _ _ h => h) (hKN.go hAL hS) trivial rfl hl.1 rfl (Nat.le_of_ble_eq_true rfl) dX4_addLine_39 ⟨Nat.zero_le _, Nat.zero_le _⟩) ?_
  refine lv_iadd hC.1 hC.2.1 dX4_addLine_42 ?_
  refine lv_topi (fun w_7 ew_7 => ?_)
  refine pf (v := .int w_7) (tv := .int) hC fwX4 (hKN.go hAL hS) hP (stD_D hq (mkS (v 0) (v 1) (v 2) (v 3) (v 4) (v 5) (v 6) (v 7) (v 8 0) (v 8 1) w_1 w_3 (v 8 4) w_5 (v 8 6) (v 8 7) (v 8 8) (v 8 9) (v 8 10))) hS 8 rfl rfl 7 (by decide) rfl wd_92 rfl rfl rfl (Nat.le_of_ble_eq_true rfl) dX4_addLine_43 (fun H locs hq_8 hS => ?_)
  have hP : PW G (stW G q (mkS (v 0) (v 1) (v 2) (v 3) (v 4) (v 5) (v 6) (v 7) (v 8 0) (v 8 1) w_1 w_3 (v 8 4) w_5 w_7 (v 8 7) (v 8 8) (v 8 9) (v 8 10))) H := hq_8
  refine lv_aload_n hC.1 hC.2.1 dX4_addLine_46 rfl (lv_at hl 0 rfl) ?_
  refine gf (v := .ref (q 9)) hC fwX4 (hKN.go hAL hS) hP 8 rfl rfl 0 (by decide) rfl wd_76 rfl dX4_addLine_47 ?_
  refine lv_iload_n hC.1 hC.2.1 dX4_addLine_50 rfl (lv_at hl 1 rfl) ?_
  refine runE (rS (B := fun U H => PW G (a1W G (q 9) 24 (v 6)) H) (As := [.ref (q 9), .int x1]) (rest := []) hC mwX4_addDots (c_X4_addDots l G (q 9) (v 6) x1 (stD_low hq _ ⟨9, by decide, rfl⟩)) wd_557 wd_556 ⟨rfl, rfl⟩ ⟨Nat.le_of_ble_eq_true rfl, Nat.le_of_ble_eq_true rfl⟩ (stb_h (fun H => PW G (a1W G (q 9) 24 (v 6)) H)) (hKN.go hAL hS) (one_of hP 9 rfl) rfl hl.1 rfl (Nat.le_of_ble_eq_true rfl) dX4_addLine_51 ⟨Nat.zero_le _, Nat.zero_le _⟩) hS (fun _ h => ⟨9, by decide, h⟩) (fun _ h => ⟨9, by decide, h⟩) (fun H locs hq_9 _ hk_11 hS => ?_)
  have hP : PW G (stW G q (mkS (v 0) (v 1) (v 2) (v 3) (v 4) (v 5) (fX4_addDots (v 6) x1) (v 7) (v 8 0) (v 8 1) w_1 w_3 (v 8 4) w_5 w_7 (v 8 7) (v 8 8) (v 8 9) (v 8 10))) H := one_set hP (stD_D hq (mkS (v 0) (v 1) (v 2) (v 3) (v 4) (v 5) (v 6) (v 7) (v 8 0) (v 8 1) w_1 w_3 (v 8 4) w_5 w_7 (v 8 7) (v 8 8) (v 8 9) (v 8 10))) 9 rfl hq_9 hk_11
  refine lv_aload_n hC.1 hC.2.1 dX4_addLine_54 rfl (lv_at hl 0 rfl) ?_
  refine gf (v := .ref (q 10)) hC fwX4 (hKN.go hAL hS) hP 8 rfl rfl 1 (by decide) rfl wd_78 rfl dX4_addLine_55 ?_
  refine lv_iload_n hC.1 hC.2.1 dX4_addLine_58 rfl (lv_at hl 2 rfl) ?_
  refine runE (rS (B := fun U H => PW G (a1W G (q 10) 24 (v 7)) H) (As := [.ref (q 10), .int x2]) (rest := []) hC mwX4_addDots (c_X4_addDots l G (q 10) (v 7) x2 (stD_low hq _ ⟨10, by decide, rfl⟩)) wd_557 wd_556 ⟨rfl, rfl⟩ ⟨Nat.le_of_ble_eq_true rfl, Nat.le_of_ble_eq_true rfl⟩ (stb_h (fun H => PW G (a1W G (q 10) 24 (v 7)) H)) (hKN.go hAL hS) (one_of hP 10 rfl) rfl hl.1 rfl (Nat.le_of_ble_eq_true rfl) dX4_addLine_59 ⟨Nat.zero_le _, Nat.zero_le _⟩) hS (fun _ h => ⟨10, by decide, h⟩) (fun _ h => ⟨10, by decide, h⟩) (fun H locs hq_12 _ hk_14 hS => ?_)
  have hP : PW G (stW G q (mkS (v 0) (v 1) (v 2) (v 3) (v 4) (v 5) (fX4_addDots (v 6) x1) (fX4_addDots (v 7) x2) (v 8 0) (v 8 1) w_1 w_3 (v 8 4) w_5 w_7 (v 8 7) (v 8 8) (v 8 9) (v 8 10))) H := one_set hP (stD_D hq (mkS (v 0) (v 1) (v 2) (v 3) (v 4) (v 5) (fX4_addDots (v 6) x1) (v 7) (v 8 0) (v 8 1) w_1 w_3 (v 8 4) w_5 w_7 (v 8 7) (v 8 8) (v 8 9) (v 8 10))) 10 rfl hq_12 hk_14
  have e_15 : fX4_addLine v x1 x2 x3 = mkS (v 0) (v 1) (v 2) (v 3) (v 4) (v 5) (fX4_addDots (v 6) x1) (fX4_addDots (v 7) x2) (v 8 0) (v 8 1) w_1 w_3 (v 8 4) w_5 w_7 (v 8 7) (v 8 8) (v 8 9) (v 8 10) := by subst ew_7; subst ew_5; subst ew_3; subst ew_1; exact rfl
  have hg : fX4_addLine v x1 x2 x3 = mkS (v 0) (v 1) (v 2) (v 3) (v 4) (v 5) (fX4_addDots (v 6) x1) (fX4_addDots (v 7) x2) (v 8 0) (v 8 1) w_1 w_3 (v 8 4) w_5 w_7 (v 8 7) (v 8 8) (v 8 9) (v 8 10) := hg.trans (congrArg (fun z => z) e_15)
  exact eE_v hC (by show PW G (stW G q (fX4_addLine v x1 x2 x3)) H; rw [hg]; exact hP) hS dX4_addLine_62
end
section
def tX2_printLine_45 (v : SV) (x1 : Int32) (y2_45 : Int32) (y3_45 : Int32) (y4_45 : Int32) (s : Int32 × SV) : SV × Int32 := let y5_45 := s.1; let v_45 := s.2; let r_4 := fX2_passTime v_45 (fX5_at 7 (v_45 2) 6)
  let w_5 : Int32 := r_4 8 8; let r_9 := fX3_addLine (mkS (r_4 0) (r_4 1) (r_4 2) (r_4 3) (r_4 4) (r_4 5) (r_4 6) (r_4 7) (r_4 8 0) (r_4 8 1) (r_4 8 2) (r_4 8 3) (r_4 8 4) (r_4 8 5) (r_4 8 6) (r_4 8 7) x1 w_5 (r_4 8 10)) y5_45 (x1 &&& (y5_45 ^^^ (-1))) y4_45
  let r_11 := fX4_addLine r_9 x1 (x1 &&& (y5_45 ^^^ (-1))) y4_45
  (r_11, (r_11 8 1) - y2_45)
def bX2_printLine_45 (v : SV) (x1 : Int32) (y2_45 : Int32) (y3_45 : Int32) (y4_45 : Int32) (d45 : Nat) (s : Int32 × SV) : Int32 × SV := let y5_45 := s.1; let v_45 := s.2; let r_14 := fX2_passTime v_45 (fX2_waitOfPart v_45 (fX2_dotsOfPart v_45 x1 (nI d45) y4_45 y3_45))
  let w_15 : Int32 := (r_14 8 4) + (fX2_waitOfPart v_45 (fX2_dotsOfPart v_45 x1 (nI d45) y4_45 y3_45)); let r_18 := fX2_heatPart (mkS (r_14 0) (r_14 1) (r_14 2) (r_14 3) (r_14 4) (r_14 5) (r_14 6) (r_14 7) (r_14 8 0) (r_14 8 1) (r_14 8 2) (r_14 8 3) w_15 (r_14 8 5) (r_14 8 6) (r_14 8 7) (r_14 8 8) (r_14 8 9) (r_14 8 10)) (fX2_dotsOfPart v_45 x1 (nI d45) y4_45 y3_45)
  let r_20 := fX2_passTime r_18.1 (((fX2_longestPulse r_18.1 (fX2_dotsOfPart v_45 x1 (nI d45) y4_45 y3_45)) / 10) + 1)
  (y5_45 ||| r_18.2, r_20)
def tX2_printLine_J32 (v : SV) (x1 : Int32) (y2_32 : Int32) (y3_32 : Int32) (z0_32 : Int32) (v_32 : SV) : SV × Int32 := let r_2 := fX2_preparePulses v_32 x1
  tX2_printLine_45 v x1 y2_32 y3_32 z0_32 (lpF z0_32.toNatClampNeg 0 (bX2_printLine_45 v x1 y2_32 y3_32 z0_32) (0, r_2))
def fX2_printLine (v : SV) (x1 : Int32) : SV × Int32 := if 1 ≤ (fX2_dotsAtOnce v) then (tX2_printLine_J32 v x1 (v 8 1) (fX2_dotsAtOnce v) ((((fJ6_bitCount_0f7a4 x1) + (fX2_dotsAtOnce v)) - 1) / (fX2_dotsAtOnce v)) v) else (tX2_printLine_J32 v x1 (v 8 1) (fX2_dotsAtOnce v) 0 v)
def tX2_printLines_2 (v : SV) (x1 : Int32) (x2 : Int32) (s : SV) : SV := let v_2 := s; v_2
def bX2_printLines_2 (v : SV) (x1 : Int32) (x2 : Int32) (d2 : Nat) (s : SV) : SV := let v_2 := s; let r_3 := fX2_printLine v_2 x1
  r_3.1
def fX2_printLines (v : SV) (x1 : Int32) (x2 : Int32) : SV := tX2_printLines_2 v x1 x2 (lpF x2.toNatClampNeg 0 (bX2_printLines_2 v x1 x2) v)
theorem dX2_printLine_0 : decode cX2_printLine 0 = .ok (.aload_n 0, 1) := by decide +kernel
theorem dX2_printLine_1 : decode cX2_printLine 1 = .ok (.getfield 38, 3) := by decide +kernel
theorem dX2_printLine_4 : decode cX2_printLine 4 = .ok (.getfield 74, 3) := by decide +kernel
theorem dX2_printLine_7 : decode cX2_printLine 7 = .ok (.istore_n 2, 1) := by decide +kernel
theorem dX2_printLine_8 : decode cX2_printLine 8 = .ok (.aload_n 0, 1) := by decide +kernel
theorem dX2_printLine_9 : decode cX2_printLine 9 = .ok (.invokevirtual 77, 3) := by decide +kernel
theorem dX2_printLine_12 : decode cX2_printLine 12 = .ok (.istore_n 3, 1) := by decide +kernel
theorem dX2_printLine_13 : decode cX2_printLine 13 = .ok (.iload_n 3, 1) := by decide +kernel
theorem dX2_printLine_14 : decode cX2_printLine 14 = .ok (.iconst 1, 1) := by decide +kernel
theorem dX2_printLine_15 : decode cX2_printLine 15 = .ok (.if_icmp .ge 7, 3) := by decide +kernel
theorem dX2_printLine_18 : decode cX2_printLine 18 = .ok (.iconst 0, 1) := by decide +kernel
theorem dX2_printLine_19 : decode cX2_printLine 19 = .ok (.goto 13, 3) := by decide +kernel
theorem dX2_printLine_22 : decode cX2_printLine 22 = .ok (.iload_n 1, 1) := by decide +kernel
theorem dX2_printLine_23 : decode cX2_printLine 23 = .ok (.invokestatic 81, 3) := by decide +kernel
theorem dX2_printLine_26 : decode cX2_printLine 26 = .ok (.iload_n 3, 1) := by decide +kernel
theorem dX2_printLine_27 : decode cX2_printLine 27 = .ok (.iadd, 1) := by decide +kernel
theorem dX2_printLine_28 : decode cX2_printLine 28 = .ok (.iconst 1, 1) := by decide +kernel
theorem dX2_printLine_29 : decode cX2_printLine 29 = .ok (.isub, 1) := by decide +kernel
theorem dX2_printLine_30 : decode cX2_printLine 30 = .ok (.iload_n 3, 1) := by decide +kernel
theorem dX2_printLine_31 : decode cX2_printLine 31 = .ok (.idiv, 1) := by decide +kernel
theorem dX2_printLine_32 : decode cX2_printLine 32 = .ok (.istore 4, 2) := by decide +kernel
theorem dX2_printLine_34 : decode cX2_printLine 34 = .ok (.iconst 0, 1) := by decide +kernel
theorem dX2_printLine_35 : decode cX2_printLine 35 = .ok (.istore 5, 2) := by decide +kernel
theorem dX2_printLine_37 : decode cX2_printLine 37 = .ok (.aload_n 0, 1) := by decide +kernel
theorem dX2_printLine_38 : decode cX2_printLine 38 = .ok (.iload_n 1, 1) := by decide +kernel
theorem dX2_printLine_39 : decode cX2_printLine 39 = .ok (.invokevirtual 86, 3) := by decide +kernel
theorem dX2_printLine_42 : decode cX2_printLine 42 = .ok (.iconst 0, 1) := by decide +kernel
theorem dX2_printLine_43 : decode cX2_printLine 43 = .ok (.istore 6, 2) := by decide +kernel
theorem dX2_printLine_45 : decode cX2_printLine 45 = .ok (.iload 6, 2) := by decide +kernel
theorem dX2_printLine_47 : decode cX2_printLine 47 = .ok (.iload 4, 2) := by decide +kernel
theorem dX2_printLine_49 : decode cX2_printLine 49 = .ok (.if_icmp .ge 75, 3) := by decide +kernel
theorem dX2_printLine_52 : decode cX2_printLine 52 = .ok (.aload_n 0, 1) := by decide +kernel
theorem dX2_printLine_53 : decode cX2_printLine 53 = .ok (.iload_n 1, 1) := by decide +kernel
theorem dX2_printLine_54 : decode cX2_printLine 54 = .ok (.iload 6, 2) := by decide +kernel
theorem dX2_printLine_56 : decode cX2_printLine 56 = .ok (.iload 4, 2) := by decide +kernel
theorem dX2_printLine_58 : decode cX2_printLine 58 = .ok (.iload_n 3, 1) := by decide +kernel
theorem dX2_printLine_59 : decode cX2_printLine 59 = .ok (.invokevirtual 90, 3) := by decide +kernel
theorem dX2_printLine_62 : decode cX2_printLine 62 = .ok (.istore 7, 2) := by decide +kernel
theorem dX2_printLine_64 : decode cX2_printLine 64 = .ok (.aload_n 0, 1) := by decide +kernel
theorem dX2_printLine_65 : decode cX2_printLine 65 = .ok (.iload 7, 2) := by decide +kernel
theorem dX2_printLine_67 : decode cX2_printLine 67 = .ok (.invokevirtual 94, 3) := by decide +kernel
theorem dX2_printLine_70 : decode cX2_printLine 70 = .ok (.istore 8, 2) := by decide +kernel
theorem dX2_printLine_72 : decode cX2_printLine 72 = .ok (.aload_n 0, 1) := by decide +kernel
theorem dX2_printLine_73 : decode cX2_printLine 73 = .ok (.iload 8, 2) := by decide +kernel
theorem dX2_printLine_75 : decode cX2_printLine 75 = .ok (.invokevirtual 97, 3) := by decide +kernel
theorem dX2_printLine_78 : decode cX2_printLine 78 = .ok (.aload_n 0, 1) := by decide +kernel
theorem dX2_printLine_79 : decode cX2_printLine 79 = .ok (.getfield 38, 3) := by decide +kernel
theorem dX2_printLine_82 : decode cX2_printLine 82 = .ok (.dup, 1) := by decide +kernel
theorem dX2_printLine_83 : decode cX2_printLine 83 = .ok (.getfield 100, 3) := by decide +kernel
theorem dX2_printLine_86 : decode cX2_printLine 86 = .ok (.iload 8, 2) := by decide +kernel
theorem dX2_printLine_88 : decode cX2_printLine 88 = .ok (.iadd, 1) := by decide +kernel
theorem dX2_printLine_89 : decode cX2_printLine 89 = .ok (.putfield 100, 3) := by decide +kernel
theorem dX2_printLine_92 : decode cX2_printLine 92 = .ok (.iload 5, 2) := by decide +kernel
theorem dX2_printLine_94 : decode cX2_printLine 94 = .ok (.aload_n 0, 1) := by decide +kernel
theorem dX2_printLine_95 : decode cX2_printLine 95 = .ok (.iload 7, 2) := by decide +kernel
theorem dX2_printLine_97 : decode cX2_printLine 97 = .ok (.invokevirtual 103, 3) := by decide +kernel
theorem dX2_printLine_100 : decode cX2_printLine 100 = .ok (.ior, 1) := by decide +kernel
theorem dX2_printLine_101 : decode cX2_printLine 101 = .ok (.istore 5, 2) := by decide +kernel
theorem dX2_printLine_103 : decode cX2_printLine 103 = .ok (.aload_n 0, 1) := by decide +kernel
theorem dX2_printLine_104 : decode cX2_printLine 104 = .ok (.aload_n 0, 1) := by decide +kernel
theorem dX2_printLine_105 : decode cX2_printLine 105 = .ok (.iload 7, 2) := by decide +kernel
theorem dX2_printLine_107 : decode cX2_printLine 107 = .ok (.invokevirtual 106, 3) := by decide +kernel
theorem dX2_printLine_110 : decode cX2_printLine 110 = .ok (.bipush 10, 2) := by decide +kernel
theorem dX2_printLine_112 : decode cX2_printLine 112 = .ok (.idiv, 1) := by decide +kernel
theorem dX2_printLine_113 : decode cX2_printLine 113 = .ok (.iconst 1, 1) := by decide +kernel
theorem dX2_printLine_114 : decode cX2_printLine 114 = .ok (.iadd, 1) := by decide +kernel
theorem dX2_printLine_115 : decode cX2_printLine 115 = .ok (.invokevirtual 97, 3) := by decide +kernel
theorem dX2_printLine_118 : decode cX2_printLine 118 = .ok (.iinc 6 1, 3) := by decide +kernel
theorem dX2_printLine_121 : decode cX2_printLine 121 = .ok (.goto (-76), 3) := by decide +kernel
theorem dX2_printLine_124 : decode cX2_printLine 124 = .ok (.aload_n 0, 1) := by decide +kernel
theorem dX2_printLine_125 : decode cX2_printLine 125 = .ok (.aload_n 0, 1) := by decide +kernel
theorem dX2_printLine_126 : decode cX2_printLine 126 = .ok (.getfield 21, 3) := by decide +kernel
theorem dX2_printLine_129 : decode cX2_printLine 129 = .ok (.bipush 6, 2) := by decide +kernel
theorem dX2_printLine_131 : decode cX2_printLine 131 = .ok (.invokestatic 59, 3) := by decide +kernel
theorem dX2_printLine_134 : decode cX2_printLine 134 = .ok (.invokevirtual 97, 3) := by decide +kernel
theorem dX2_printLine_137 : decode cX2_printLine 137 = .ok (.aload_n 0, 1) := by decide +kernel
theorem dX2_printLine_138 : decode cX2_printLine 138 = .ok (.aload_n 0, 1) := by decide +kernel
theorem dX2_printLine_139 : decode cX2_printLine 139 = .ok (.getfield 42, 3) := by decide +kernel
theorem dX2_printLine_142 : decode cX2_printLine 142 = .ok (.putfield 46, 3) := by decide +kernel
theorem dX2_printLine_145 : decode cX2_printLine 145 = .ok (.aload_n 0, 1) := by decide +kernel
theorem dX2_printLine_146 : decode cX2_printLine 146 = .ok (.iload_n 1, 1) := by decide +kernel
theorem dX2_printLine_147 : decode cX2_printLine 147 = .ok (.putfield 42, 3) := by decide +kernel
theorem dX2_printLine_150 : decode cX2_printLine 150 = .ok (.aload_n 0, 1) := by decide +kernel
theorem dX2_printLine_151 : decode cX2_printLine 151 = .ok (.getfield 31, 3) := by decide +kernel
theorem dX2_printLine_154 : decode cX2_printLine 154 = .ok (.iload 5, 2) := by decide +kernel
theorem dX2_printLine_156 : decode cX2_printLine 156 = .ok (.iload_n 1, 1) := by decide +kernel
theorem dX2_printLine_157 : decode cX2_printLine 157 = .ok (.iload 5, 2) := by decide +kernel
theorem dX2_printLine_159 : decode cX2_printLine 159 = .ok (.iconst (-1), 1) := by decide +kernel
theorem dX2_printLine_160 : decode cX2_printLine 160 = .ok (.ixor, 1) := by decide +kernel
theorem dX2_printLine_161 : decode cX2_printLine 161 = .ok (.iand, 1) := by decide +kernel
theorem dX2_printLine_162 : decode cX2_printLine 162 = .ok (.iload 4, 2) := by decide +kernel
theorem dX2_printLine_164 : decode cX2_printLine 164 = .ok (.invokevirtual 109, 3) := by decide +kernel
theorem dX2_printLine_167 : decode cX2_printLine 167 = .ok (.aload_n 0, 1) := by decide +kernel
theorem dX2_printLine_168 : decode cX2_printLine 168 = .ok (.getfield 38, 3) := by decide +kernel
theorem dX2_printLine_171 : decode cX2_printLine 171 = .ok (.iload_n 1, 1) := by decide +kernel
theorem dX2_printLine_172 : decode cX2_printLine 172 = .ok (.iload_n 1, 1) := by decide +kernel
theorem dX2_printLine_173 : decode cX2_printLine 173 = .ok (.iload 5, 2) := by decide +kernel
theorem dX2_printLine_175 : decode cX2_printLine 175 = .ok (.iconst (-1), 1) := by decide +kernel
theorem dX2_printLine_176 : decode cX2_printLine 176 = .ok (.ixor, 1) := by decide +kernel
theorem dX2_printLine_177 : decode cX2_printLine 177 = .ok (.iand, 1) := by decide +kernel
theorem dX2_printLine_178 : decode cX2_printLine 178 = .ok (.iload 4, 2) := by decide +kernel
theorem dX2_printLine_180 : decode cX2_printLine 180 = .ok (.invokevirtual 113, 3) := by decide +kernel
theorem dX2_printLine_183 : decode cX2_printLine 183 = .ok (.aload_n 0, 1) := by decide +kernel
theorem dX2_printLine_184 : decode cX2_printLine 184 = .ok (.getfield 38, 3) := by decide +kernel
theorem dX2_printLine_187 : decode cX2_printLine 187 = .ok (.getfield 74, 3) := by decide +kernel
theorem dX2_printLine_190 : decode cX2_printLine 190 = .ok (.iload_n 2, 1) := by decide +kernel
theorem dX2_printLine_191 : decode cX2_printLine 191 = .ok (.isub, 1) := by decide +kernel
theorem dX2_printLine_192 : decode cX2_printLine 192 = .ok (.ireturn, 1) := by decide +kernel
set_option maxHeartbeats 1000000 in
set_option maxRecDepth 100000 in
theorem c_X2_printLine (l : Launch) (G : GT) (q : Nat → Nat) (v : SV) (x1 : Int32) (hq : stD G q) : Met l yX2_printLine (Cond.code yX2_printLine cX2_printLine 9 (some .int) :: bigW) ({ frames := 3, cells := 0, slots := 0, locals := 71 }) (BP G [.ref (q 0), .int x1] (fun U H => PW G (stW G q v) H)) (QE (some (.int (fX2_printLine v x1).2)) (fun H => PW G (stW G q (fX2_printLine v x1).1) H) (stA q)) 0 0 (stA q) := by
  refine met_of (by decide) (Nat.le_of_ble_eq_true rfl) ?_
  intro p e s m below meth c ls hC hKN hB0 hl
  have hP := hB0
  have hl : lv_has ls 9 [(0, .ref (q 0)), (1, .int x1)] := hl
  have hS : va_S (stA q) s.heap s.heap [] := va_S.rf
  have hAL : ∀ a, (stA q) a → gL G ≤ a := stD_low hq
  have hg : fX2_printLine v x1 = fX2_printLine v x1 := rfl
  refine lv_aload_n hC.1 hC.2.1 dX2_printLine_0 rfl (lv_at hl 0 rfl) ?_
  refine gf (v := .ref (q 8)) hC fwX2 hKN hP 0 rfl rfl 4 (by decide) rfl wd_121 rfl dX2_printLine_1 ?_
  refine gfN (v := .int (v 8 1)) hC fwX4 hKN hP 8 rfl rfl 2 (by decide) rfl (nf_5 hKN) rfl dX2_printLine_4 ?_
  refine lv_istore_n (lv' := [(2, .int (v 8 1)), (0, .ref (q 0)), (1, .int x1)]) hC.1 hC.2.1 dX2_printLine_7 rfl hl (by decide) rfl (fun ls hl => ?_)
  refine lv_aload_n hC.1 hC.2.1 dX2_printLine_8 rfl (lv_at hl 1 rfl) ?_
  refine runP (rV (B := fun U H => PW G (stW G q v) H) (As := []) (rest := []) hC mwX2_dotsAtOnce (c_X2_dotsAtOnce l G q v) iwX2_dotsAtOnce wd_498 ⟨rfl, rfl⟩ ⟨Nat.le_of_ble_eq_true rfl, Nat.le_of_ble_eq_true rfl⟩ (stb_h (fun H => PW G (stW G q v) H)) hKN hP (va_recv hKN.k hP (ci := 2) (q0 := 0) rfl rfl) rfl hl.1 rfl (Nat.le_of_ble_eq_true rfl) dX2_printLine_9 ⟨Nat.zero_le _, Nat.zero_le _⟩) ?_
  refine lv_istore_n (lv' := [(3, .int (fX2_dotsAtOnce v)), (2, .int (v 8 1)), (0, .ref (q 0)), (1, .int x1)]) hC.1 hC.2.1 dX2_printLine_12 rfl hl (by decide) rfl (fun ls hl => ?_)
  refine lv_iload_n hC.1 hC.2.1 dX2_printLine_13 rfl (lv_at hl 0 rfl) ?_
  refine lv_iconst (v := 1) hC.1 hC.2.1 dX2_printLine_14 (by decide) ?_
  have J32 : ∀ (y2_32 : Int32) (y3_32 : Int32) (z0_32 : Int32) (v_32 : SV), fX2_printLine v x1 = tX2_printLine_J32 v x1 y2_32 y3_32 z0_32 v_32 → ∀ (H : Heap) (locs : List Loc), PW G (stW G q v_32) H → va_S (stA q) s.heap H locs → ∀ (ls : Array Slot), lv_has ls 9 [(0, .ref (q 0)), (1, .int x1), (2, .int y2_32), (3, .int y3_32)] → W p l e ({ frames := 3, cells := 0, slots := 0, locals := 71 }) s m ([.ref (q 0), .int x1] : List Value).toArray below meth c H locs 0 0 (MQ below (QE (some (.int (fX2_printLine v x1).2)) (fun H => PW G (stW G q (fX2_printLine v x1).1) H) (stA q)) ([.ref (q 0), .int x1] : List Value).toArray s 0 0 (stA q)) (F0 m 32 ls [.int z0_32]) := by
    intro y2_32 y3_32 z0_32 v_32 hg H locs hP hS ls hl
    refine lv_istore (lv' := [(4, .int z0_32), (0, .ref (q 0)), (1, .int x1), (2, .int y2_32), (3, .int y3_32)]) hC.1 hC.2.1 dX2_printLine_32 hl (by decide) rfl (fun ls hl => ?_)
    refine lv_iconst (v := 0) hC.1 hC.2.1 dX2_printLine_34 (by decide) ?_
    refine lv_istore (lv' := [(5, .int 0), (4, .int z0_32), (0, .ref (q 0)), (1, .int x1), (2, .int y2_32), (3, .int y3_32)]) hC.1 hC.2.1 dX2_printLine_35 hl (by decide) rfl (fun ls hl => ?_)
    refine lv_aload_n hC.1 hC.2.1 dX2_printLine_37 rfl (lv_at hl 2 rfl) ?_
    refine lv_iload_n hC.1 hC.2.1 dX2_printLine_38 rfl (lv_at hl 3 rfl) ?_
    refine runE (rV (B := fun U H => PW G (stW G q v_32) H) (As := [.int x1]) (rest := []) hC mwX2_preparePulses (c_X2_preparePulses l G q v_32 x1 hq) iwX2_preparePulses wd_508 ⟨rfl, rfl⟩ ⟨Nat.le_of_ble_eq_true rfl, Nat.le_of_ble_eq_true rfl⟩ (stb_h (fun H => PW G (stW G q v_32) H)) (hKN.go hAL hS) hP (va_recv (hKN.go hAL hS).k hP (ci := 2) (q0 := 0) rfl rfl) rfl hl.1 rfl (Nat.le_of_ble_eq_true rfl) dX2_printLine_39 ⟨Nat.zero_le _, Nat.zero_le _⟩) hS (fun _ h => h) (fun _ h => h) (fun H locs hq_1 _ _ hS => ?_)
    have hP : PW G (stW G q (fX2_preparePulses v_32 x1)) H := hq_1
    obtain ⟨r_2, er_2⟩ : ∃ z, z = fX2_preparePulses v_32 x1 := ⟨_, rfl⟩
    rw [← er_2] at hP
    refine lv_iconst (v := 0) hC.1 hC.2.1 dX2_printLine_42 (by decide) ?_
    refine lv_istore (lv' := [(6, .int 0), (5, .int 0), (4, .int z0_32), (0, .ref (q 0)), (1, .int x1), (2, .int y2_32), (3, .int y3_32)]) hC.1 hC.2.1 dX2_printLine_43 hl (by decide) rfl (fun ls hl => ?_)
    have A45 : ∀ (y2_45 : Int32) (y3_45 : Int32) (y4_45 : Int32), ∀ (y5_45 : Int32) (v_45 : SV), fX2_printLine v x1 = (tX2_printLine_45 v x1 y2_45 y3_45 y4_45 (y5_45, v_45)) → ∀ (H : Heap) (locs : List Loc), PW G (stW G q v_45) H → va_S (stA q) s.heap H locs → ∀ (ls : Array Slot), lv_has ls 9 [(0, .ref (q 0)), (1, .int x1), (2, .int y2_45), (4, .int y4_45), (5, .int y5_45)] → W p l e ({ frames := 3, cells := 0, slots := 0, locals := 71 }) s m ([.ref (q 0), .int x1] : List Value).toArray below meth c H locs 0 0 (MQ below (QE (some (.int (fX2_printLine v x1).2)) (fun H => PW G (stW G q (fX2_printLine v x1).1) H) (stA q)) ([.ref (q 0), .int x1] : List Value).toArray s 0 0 (stA q)) (F0 m 124 ls []) := by
      intro y2_45 y3_45 y4_45 y5_45 v_45 hg H locs hP hS ls hl
      refine lv_aload_n hC.1 hC.2.1 dX2_printLine_124 rfl (lv_at hl 0 rfl) ?_
      refine lv_aload_n hC.1 hC.2.1 dX2_printLine_125 rfl (lv_at hl 0 rfl) ?_
      refine gf (v := .ref (q 3)) hC fwX2 (hKN.go hAL hS) hP 0 rfl rfl 2 (by decide) rfl wd_118 rfl dX2_printLine_126 ?_
      refine lv_bipush (v := 6) hC.1 hC.2.1 dX2_printLine_129 (by decide +kernel) ?_
      refine runP (rSN (B := fun U H => RD (q 3) 7 (v_45 2) U H) (As := [.ref (q 3), .int 6]) (rest := [.ref (q 0)]) hC mwX5_at (c_X5_at l G (q 3) 7 (v_45 2) 6) wd_249 (nm_5 (hKN.go hAL hS)) ⟨rfl, rfl⟩ ⟨Nat.le_of_ble_eq_true rfl, Nat.le_of_ble_eq_true rfl⟩ (stb_RD _ _ _) (hKN.go hAL hS) (RD.ofP (hKN.go hAL hS) hP 3 rfl) rfl hl.1 rfl (Nat.le_of_ble_eq_true rfl) dX2_printLine_131 ⟨Nat.zero_le _, Nat.zero_le _⟩) ?_
      refine runE (rV (B := fun U H => PW G (stW G q v_45) H) (As := [.int (fX5_at 7 (v_45 2) 6)]) (rest := []) hC mwX2_passTime (c_X2_passTime l G q v_45 (fX5_at 7 (v_45 2) 6) hq) iwX2_passTime wd_520 ⟨rfl, rfl⟩ ⟨Nat.le_of_ble_eq_true rfl, Nat.le_of_ble_eq_true rfl⟩ (stb_h (fun H => PW G (stW G q v_45) H)) (hKN.go hAL hS) hP (va_recv (hKN.go hAL hS).k hP (ci := 2) (q0 := 0) rfl rfl) rfl hl.1 rfl (Nat.le_of_ble_eq_true rfl) dX2_printLine_134 ⟨Nat.zero_le _, Nat.zero_le _⟩) hS (fun _ h => h) (fun _ h => h) (fun H locs hq_3 _ _ hS => ?_)
      have hP : PW G (stW G q (fX2_passTime v_45 (fX5_at 7 (v_45 2) 6))) H := hq_3
      obtain ⟨r_4, er_4⟩ : ∃ z, z = fX2_passTime v_45 (fX5_at 7 (v_45 2) 6) := ⟨_, rfl⟩
      rw [← er_4] at hP
      refine lv_aload_n hC.1 hC.2.1 dX2_printLine_137 rfl (lv_at hl 0 rfl) ?_
      refine lv_aload_n hC.1 hC.2.1 dX2_printLine_138 rfl (lv_at hl 0 rfl) ?_
      refine gf (v := .int (r_4 8 8)) hC fwX2 (hKN.go hAL hS) hP 0 rfl rfl 5 (by decide) rfl wd_123 rfl dX2_printLine_139 ?_
      refine lv_topi (fun w_5 ew_5 => ?_)
      refine pf (v := .int w_5) (tv := .int) hC fwX2 (hKN.go hAL hS) hP (stD_D hq r_4) hS 0 rfl rfl 6 (by decide) rfl wd_124 rfl rfl rfl (Nat.le_of_ble_eq_true rfl) dX2_printLine_142 (fun H locs hq_6 hS => ?_)
      have hP : PW G (stW G q (mkS (r_4 0) (r_4 1) (r_4 2) (r_4 3) (r_4 4) (r_4 5) (r_4 6) (r_4 7) (r_4 8 0) (r_4 8 1) (r_4 8 2) (r_4 8 3) (r_4 8 4) (r_4 8 5) (r_4 8 6) (r_4 8 7) (r_4 8 8) w_5 (r_4 8 10))) H := hq_6
      refine lv_aload_n hC.1 hC.2.1 dX2_printLine_145 rfl (lv_at hl 0 rfl) ?_
      refine lv_iload_n hC.1 hC.2.1 dX2_printLine_146 rfl (lv_at hl 1 rfl) ?_
      refine pf (v := .int x1) (tv := .int) hC fwX2 (hKN.go hAL hS) hP (stD_D hq (mkS (r_4 0) (r_4 1) (r_4 2) (r_4 3) (r_4 4) (r_4 5) (r_4 6) (r_4 7) (r_4 8 0) (r_4 8 1) (r_4 8 2) (r_4 8 3) (r_4 8 4) (r_4 8 5) (r_4 8 6) (r_4 8 7) (r_4 8 8) w_5 (r_4 8 10))) hS 0 rfl rfl 5 (by decide) rfl wd_123 rfl rfl rfl (Nat.le_of_ble_eq_true rfl) dX2_printLine_147 (fun H locs hq_7 hS => ?_)
      have hP : PW G (stW G q (mkS (r_4 0) (r_4 1) (r_4 2) (r_4 3) (r_4 4) (r_4 5) (r_4 6) (r_4 7) (r_4 8 0) (r_4 8 1) (r_4 8 2) (r_4 8 3) (r_4 8 4) (r_4 8 5) (r_4 8 6) (r_4 8 7) x1 w_5 (r_4 8 10))) H := hq_7
      refine lv_aload_n hC.1 hC.2.1 dX2_printLine_150 rfl (lv_at hl 0 rfl) ?_
      refine gf (v := .ref (q 4)) hC fwX2 (hKN.go hAL hS) hP 0 rfl rfl 3 (by decide) rfl wd_119 rfl dX2_printLine_151 ?_
      refine lv_iload hC.1 hC.2.1 dX2_printLine_154 (lv_at hl 4 rfl) ?_
      refine lv_iload_n hC.1 hC.2.1 dX2_printLine_156 rfl (lv_at hl 1 rfl) ?_
      refine lv_iload hC.1 hC.2.1 dX2_printLine_157 (lv_at hl 4 rfl) ?_
      refine lv_iconst (v := (-1)) hC.1 hC.2.1 dX2_printLine_159 (by decide) ?_
      refine lv_ixor hC.1 hC.2.1 dX2_printLine_160 ?_
      refine lv_iand hC.1 hC.2.1 dX2_printLine_161 ?_
      refine lv_iload hC.1 hC.2.1 dX2_printLine_162 (lv_at hl 3 rfl) ?_
      refine runE (rV (B := fun U H => PW G (stW G q (mkS (r_4 0) (r_4 1) (r_4 2) (r_4 3) (r_4 4) (r_4 5) (r_4 6) (r_4 7) (r_4 8 0) (r_4 8 1) (r_4 8 2) (r_4 8 3) (r_4 8 4) (r_4 8 5) (r_4 8 6) (r_4 8 7) x1 w_5 (r_4 8 10))) H) (As := [.int y5_45, .int (x1 &&& (y5_45 ^^^ (-1))), .int y4_45]) (rest := []) hC mwX3_addLine (c_X3_addLine l G q (mkS (r_4 0) (r_4 1) (r_4 2) (r_4 3) (r_4 4) (r_4 5) (r_4 6) (r_4 7) (r_4 8 0) (r_4 8 1) (r_4 8 2) (r_4 8 3) (r_4 8 4) (r_4 8 5) (r_4 8 6) (r_4 8 7) x1 w_5 (r_4 8 10)) y5_45 (x1 &&& (y5_45 ^^^ (-1))) y4_45 hq) iwX3_addLine wd_542 ⟨rfl, rfl⟩ ⟨Nat.le_of_ble_eq_true rfl, Nat.le_of_ble_eq_true rfl⟩ (stb_h (fun H => PW G (stW G q (mkS (r_4 0) (r_4 1) (r_4 2) (r_4 3) (r_4 4) (r_4 5) (r_4 6) (r_4 7) (r_4 8 0) (r_4 8 1) (r_4 8 2) (r_4 8 3) (r_4 8 4) (r_4 8 5) (r_4 8 6) (r_4 8 7) x1 w_5 (r_4 8 10))) H)) (hKN.go hAL hS) hP (va_recv (hKN.go hAL hS).k hP (ci := 3) (q0 := 4) rfl rfl) rfl hl.1 rfl (Nat.le_of_ble_eq_true rfl) dX2_printLine_164 ⟨Nat.zero_le _, Nat.zero_le _⟩) hS (fun _ h => h) (fun _ h => h) (fun H locs hq_8 _ _ hS => ?_)
      have hP : PW G (stW G q (fX3_addLine (mkS (r_4 0) (r_4 1) (r_4 2) (r_4 3) (r_4 4) (r_4 5) (r_4 6) (r_4 7) (r_4 8 0) (r_4 8 1) (r_4 8 2) (r_4 8 3) (r_4 8 4) (r_4 8 5) (r_4 8 6) (r_4 8 7) x1 w_5 (r_4 8 10)) y5_45 (x1 &&& (y5_45 ^^^ (-1))) y4_45)) H := hq_8
      obtain ⟨r_9, er_9⟩ : ∃ z, z = fX3_addLine (mkS (r_4 0) (r_4 1) (r_4 2) (r_4 3) (r_4 4) (r_4 5) (r_4 6) (r_4 7) (r_4 8 0) (r_4 8 1) (r_4 8 2) (r_4 8 3) (r_4 8 4) (r_4 8 5) (r_4 8 6) (r_4 8 7) x1 w_5 (r_4 8 10)) y5_45 (x1 &&& (y5_45 ^^^ (-1))) y4_45 := ⟨_, rfl⟩
      rw [← er_9] at hP
      refine lv_aload_n hC.1 hC.2.1 dX2_printLine_167 rfl (lv_at hl 0 rfl) ?_
      refine gf (v := .ref (q 8)) hC fwX2 (hKN.go hAL hS) hP 0 rfl rfl 4 (by decide) rfl wd_121 rfl dX2_printLine_168 ?_
      refine lv_iload_n hC.1 hC.2.1 dX2_printLine_171 rfl (lv_at hl 1 rfl) ?_
      refine lv_iload_n hC.1 hC.2.1 dX2_printLine_172 rfl (lv_at hl 1 rfl) ?_
      refine lv_iload hC.1 hC.2.1 dX2_printLine_173 (lv_at hl 4 rfl) ?_
      refine lv_iconst (v := (-1)) hC.1 hC.2.1 dX2_printLine_175 (by decide) ?_
      refine lv_ixor hC.1 hC.2.1 dX2_printLine_176 ?_
      refine lv_iand hC.1 hC.2.1 dX2_printLine_177 ?_
      refine lv_iload hC.1 hC.2.1 dX2_printLine_178 (lv_at hl 3 rfl) ?_
      refine runE (rV (B := fun U H => PW G (stW G q r_9) H) (As := [.int x1, .int (x1 &&& (y5_45 ^^^ (-1))), .int y4_45]) (rest := []) hC mwX4_addLine (c_X4_addLine l G q r_9 x1 (x1 &&& (y5_45 ^^^ (-1))) y4_45 hq) iwX4_addLine wd_551 ⟨rfl, rfl⟩ ⟨Nat.le_of_ble_eq_true rfl, Nat.le_of_ble_eq_true rfl⟩ (stb_h (fun H => PW G (stW G q r_9) H)) (hKN.go hAL hS) hP (va_recv (hKN.go hAL hS).k hP (ci := 4) (q0 := 8) rfl rfl) rfl hl.1 rfl (Nat.le_of_ble_eq_true rfl) dX2_printLine_180 ⟨Nat.zero_le _, Nat.zero_le _⟩) hS (fun _ h => h) (fun _ h => h) (fun H locs hq_10 _ _ hS => ?_)
      have hP : PW G (stW G q (fX4_addLine r_9 x1 (x1 &&& (y5_45 ^^^ (-1))) y4_45)) H := hq_10
      obtain ⟨r_11, er_11⟩ : ∃ z, z = fX4_addLine r_9 x1 (x1 &&& (y5_45 ^^^ (-1))) y4_45 := ⟨_, rfl⟩
      rw [← er_11] at hP
      refine lv_aload_n hC.1 hC.2.1 dX2_printLine_183 rfl (lv_at hl 0 rfl) ?_
      refine gf (v := .ref (q 8)) hC fwX2 (hKN.go hAL hS) hP 0 rfl rfl 4 (by decide) rfl wd_121 rfl dX2_printLine_184 ?_
      refine gfN (v := .int (r_11 8 1)) hC fwX4 (hKN.go hAL hS) hP 8 rfl rfl 2 (by decide) rfl (nf_5 (hKN.go hAL hS)) rfl dX2_printLine_187 ?_
      refine lv_iload_n hC.1 hC.2.1 dX2_printLine_190 rfl (lv_at hl 2 rfl) ?_
      refine lv_isub hC.1 hC.2.1 dX2_printLine_191 ?_
      have e_12 : tX2_printLine_45 v x1 y2_45 y3_45 y4_45 (y5_45, v_45) = (r_11, (r_11 8 1) - y2_45) := by subst er_11; subst er_9; subst ew_5; subst er_4; exact rfl
      have hg : fX2_printLine v x1 = (r_11, (r_11 8 1) - y2_45) := hg.trans (congrArg (fun z => z) e_12)
      exact eE_i hC (by rw [hg]) (by show PW G (stW G q (fX2_printLine v x1).1) H; rw [hg]; exact hP) hS dX2_printLine_192
    have L45 : ∀ (y2_45 : Int32) (y3_45 : Int32) (y4_45 : Int32), ∀ (n45 d45 : Nat), ∀ (y5_45 : Int32) (v_45 : SV), d45 + n45 = y4_45.toNatClampNeg → fX2_printLine v x1 = (tX2_printLine_45 v x1 y2_45 y3_45 y4_45 (lpF n45 d45 (bX2_printLine_45 v x1 y2_45 y3_45 y4_45) (y5_45, v_45))) → ∀ (H : Heap) (locs : List Loc), PW G (stW G q v_45) H → va_S (stA q) s.heap H locs → ∀ (ls : Array Slot), lv_has ls 9 [(0, .ref (q 0)), (1, .int x1), (2, .int y2_45), (3, .int y3_45), (4, .int y4_45), (5, .int y5_45), (6, .int (nI d45))] → W p l e ({ frames := 3, cells := 0, slots := 0, locals := 71 }) s m ([.ref (q 0), .int x1] : List Value).toArray below meth c H locs 0 0 (MQ below (QE (some (.int (fX2_printLine v x1).2)) (fun H => PW G (stW G q (fX2_printLine v x1).1) H) (stA q)) ([.ref (q 0), .int x1] : List Value).toArray s 0 0 (stA q)) (F0 m 45 ls []) := by
      intro y2_45 y3_45 y4_45
      intro n45
      induction n45 with
      | zero =>
        intro d45 y5_45 v_45 hd hg H locs hP hS ls hl
        refine lv_iload hC.1 hC.2.1 dX2_printLine_45 (lv_at hl 6 rfl) ?_
        refine lv_iload hC.1 hC.2.1 dX2_printLine_47 (lv_at hl 4 rfl) ?_
        refine lv_icmp_ge (tgt := 124) hC.1 hC.2.1 dX2_printLine_49 (by decide) (fun k49 => ?_) (fun k49 => ?_)
        · exact A45 y2_45 y3_45 y4_45 y5_45 v_45 hg _ _ hP hS _ (lv_sub hl [0, 1, 2, 4, 5] rfl)
        · exact absurd (cl_le (by omega) (by have := cl_lt y4_45; omega)) k49
      | succ n45 ih =>
        intro d45 y5_45 v_45 hd hg H locs hP hS ls hl
        have hg : fX2_printLine v x1 = (tX2_printLine_45 v x1 y2_45 y3_45 y4_45 (lpF n45 (d45 + 1) (bX2_printLine_45 v x1 y2_45 y3_45 y4_45) (bX2_printLine_45 v x1 y2_45 y3_45 y4_45 d45 (y5_45, v_45)))) := hg
        refine lv_iload hC.1 hC.2.1 dX2_printLine_45 (lv_at hl 6 rfl) ?_
        refine lv_iload hC.1 hC.2.1 dX2_printLine_47 (lv_at hl 4 rfl) ?_
        refine lv_icmp_ge (tgt := 124) hC.1 hC.2.1 dX2_printLine_49 (by decide) (fun k49 => ?_) (fun k49 => ?_)
        · exact absurd k49 (cl_nle (by omega))
        · refine lv_aload_n hC.1 hC.2.1 dX2_printLine_52 rfl (lv_at hl 0 rfl) ?_
          refine lv_iload_n hC.1 hC.2.1 dX2_printLine_53 rfl (lv_at hl 1 rfl) ?_
          refine lv_iload hC.1 hC.2.1 dX2_printLine_54 (lv_at hl 6 rfl) ?_
          refine lv_iload hC.1 hC.2.1 dX2_printLine_56 (lv_at hl 4 rfl) ?_
          refine lv_iload_n hC.1 hC.2.1 dX2_printLine_58 rfl (lv_at hl 3 rfl) ?_
          refine runP (rV (B := fun U H => PW G (stW G q v_45) H) (As := [.int x1, .int (nI d45), .int y4_45, .int y3_45]) (rest := []) hC mwX2_dotsOfPart (c_X2_dotsOfPart l G q v_45 x1 (nI d45) y4_45 y3_45) iwX2_dotsOfPart wd_512 ⟨rfl, rfl⟩ ⟨Nat.le_of_ble_eq_true rfl, Nat.le_of_ble_eq_true rfl⟩ (stb_h (fun H => PW G (stW G q v_45) H)) (hKN.go hAL hS) hP (va_recv (hKN.go hAL hS).k hP (ci := 2) (q0 := 0) rfl rfl) rfl hl.1 rfl (Nat.le_of_ble_eq_true rfl) dX2_printLine_59 ⟨Nat.zero_le _, Nat.zero_le _⟩) ?_
          refine lv_istore (lv' := [(7, .int (fX2_dotsOfPart v_45 x1 (nI d45) y4_45 y3_45)), (0, .ref (q 0)), (1, .int x1), (2, .int y2_45), (3, .int y3_45), (4, .int y4_45), (5, .int y5_45), (6, .int (nI d45))]) hC.1 hC.2.1 dX2_printLine_62 hl (by decide) rfl (fun ls hl => ?_)
          refine lv_aload_n hC.1 hC.2.1 dX2_printLine_64 rfl (lv_at hl 1 rfl) ?_
          refine lv_iload hC.1 hC.2.1 dX2_printLine_65 (lv_at hl 0 rfl) ?_
          refine runP (rV (B := fun U H => PW G (stW G q v_45) H) (As := [.int (fX2_dotsOfPart v_45 x1 (nI d45) y4_45 y3_45)]) (rest := []) hC mwX2_waitOfPart (c_X2_waitOfPart l G q v_45 (fX2_dotsOfPart v_45 x1 (nI d45) y4_45 y3_45)) iwX2_waitOfPart wd_516 ⟨rfl, rfl⟩ ⟨Nat.le_of_ble_eq_true rfl, Nat.le_of_ble_eq_true rfl⟩ (stb_h (fun H => PW G (stW G q v_45) H)) (hKN.go hAL hS) hP (va_recv (hKN.go hAL hS).k hP (ci := 2) (q0 := 0) rfl rfl) rfl hl.1 rfl (Nat.le_of_ble_eq_true rfl) dX2_printLine_67 ⟨Nat.zero_le _, Nat.zero_le _⟩) ?_
          refine lv_istore (lv' := [(8, .int (fX2_waitOfPart v_45 (fX2_dotsOfPart v_45 x1 (nI d45) y4_45 y3_45))), (7, .int (fX2_dotsOfPart v_45 x1 (nI d45) y4_45 y3_45)), (0, .ref (q 0)), (1, .int x1), (2, .int y2_45), (3, .int y3_45), (4, .int y4_45), (5, .int y5_45), (6, .int (nI d45))]) hC.1 hC.2.1 dX2_printLine_70 hl (by decide) rfl (fun ls hl => ?_)
          refine lv_aload_n hC.1 hC.2.1 dX2_printLine_72 rfl (lv_at hl 2 rfl) ?_
          refine lv_iload hC.1 hC.2.1 dX2_printLine_73 (lv_at hl 0 rfl) ?_
          refine runE (rV (B := fun U H => PW G (stW G q v_45) H) (As := [.int (fX2_waitOfPart v_45 (fX2_dotsOfPart v_45 x1 (nI d45) y4_45 y3_45))]) (rest := []) hC mwX2_passTime (c_X2_passTime l G q v_45 (fX2_waitOfPart v_45 (fX2_dotsOfPart v_45 x1 (nI d45) y4_45 y3_45)) hq) iwX2_passTime wd_520 ⟨rfl, rfl⟩ ⟨Nat.le_of_ble_eq_true rfl, Nat.le_of_ble_eq_true rfl⟩ (stb_h (fun H => PW G (stW G q v_45) H)) (hKN.go hAL hS) hP (va_recv (hKN.go hAL hS).k hP (ci := 2) (q0 := 0) rfl rfl) rfl hl.1 rfl (Nat.le_of_ble_eq_true rfl) dX2_printLine_75 ⟨Nat.zero_le _, Nat.zero_le _⟩) hS (fun _ h => h) (fun _ h => h) (fun H locs hq_13 _ _ hS => ?_)
          have hP : PW G (stW G q (fX2_passTime v_45 (fX2_waitOfPart v_45 (fX2_dotsOfPart v_45 x1 (nI d45) y4_45 y3_45)))) H := hq_13
          obtain ⟨r_14, er_14⟩ : ∃ z, z = fX2_passTime v_45 (fX2_waitOfPart v_45 (fX2_dotsOfPart v_45 x1 (nI d45) y4_45 y3_45)) := ⟨_, rfl⟩
          rw [← er_14] at hP
          refine lv_aload_n hC.1 hC.2.1 dX2_printLine_78 rfl (lv_at hl 2 rfl) ?_
          refine gf (v := .ref (q 8)) hC fwX2 (hKN.go hAL hS) hP 0 rfl rfl 4 (by decide) rfl wd_121 rfl dX2_printLine_79 ?_
          refine lv_dup hC.1 hC.2.1 dX2_printLine_82 rfl ?_
          refine gfN (v := .int (r_14 8 4)) hC fwX4 (hKN.go hAL hS) hP 8 rfl rfl 5 (by decide) rfl (nf_9 (hKN.go hAL hS)) rfl dX2_printLine_83 ?_
          refine lv_iload hC.1 hC.2.1 dX2_printLine_86 (lv_at hl 0 rfl) ?_
          refine lv_iadd hC.1 hC.2.1 dX2_printLine_88 ?_
          refine lv_topi (fun w_15 ew_15 => ?_)
          refine pfN (v := .int w_15) (tv := .int) hC fwX4 (hKN.go hAL hS) hP (stD_D hq r_14) hS 8 rfl rfl 5 (by decide) rfl (nf_9 (hKN.go hAL hS)) rfl rfl rfl (Nat.le_of_ble_eq_true rfl) dX2_printLine_89 (fun H locs hq_16 hS => ?_)
          have hP : PW G (stW G q (mkS (r_14 0) (r_14 1) (r_14 2) (r_14 3) (r_14 4) (r_14 5) (r_14 6) (r_14 7) (r_14 8 0) (r_14 8 1) (r_14 8 2) (r_14 8 3) w_15 (r_14 8 5) (r_14 8 6) (r_14 8 7) (r_14 8 8) (r_14 8 9) (r_14 8 10))) H := hq_16
          refine lv_iload hC.1 hC.2.1 dX2_printLine_92 (lv_at hl 7 rfl) ?_
          refine lv_aload_n hC.1 hC.2.1 dX2_printLine_94 rfl (lv_at hl 2 rfl) ?_
          refine lv_iload hC.1 hC.2.1 dX2_printLine_95 (lv_at hl 1 rfl) ?_
          refine runE (rV (B := fun U H => PW G (stW G q (mkS (r_14 0) (r_14 1) (r_14 2) (r_14 3) (r_14 4) (r_14 5) (r_14 6) (r_14 7) (r_14 8 0) (r_14 8 1) (r_14 8 2) (r_14 8 3) w_15 (r_14 8 5) (r_14 8 6) (r_14 8 7) (r_14 8 8) (r_14 8 9) (r_14 8 10))) H) (As := [.int (fX2_dotsOfPart v_45 x1 (nI d45) y4_45 y3_45)]) (rest := [.int y5_45]) hC mwX2_heatPart (c_X2_heatPart l G q (mkS (r_14 0) (r_14 1) (r_14 2) (r_14 3) (r_14 4) (r_14 5) (r_14 6) (r_14 7) (r_14 8 0) (r_14 8 1) (r_14 8 2) (r_14 8 3) w_15 (r_14 8 5) (r_14 8 6) (r_14 8 7) (r_14 8 8) (r_14 8 9) (r_14 8 10)) (fX2_dotsOfPart v_45 x1 (nI d45) y4_45 y3_45) hq) iwX2_heatPart wd_528 ⟨rfl, rfl⟩ ⟨Nat.le_of_ble_eq_true rfl, Nat.le_of_ble_eq_true rfl⟩ (stb_h (fun H => PW G (stW G q (mkS (r_14 0) (r_14 1) (r_14 2) (r_14 3) (r_14 4) (r_14 5) (r_14 6) (r_14 7) (r_14 8 0) (r_14 8 1) (r_14 8 2) (r_14 8 3) w_15 (r_14 8 5) (r_14 8 6) (r_14 8 7) (r_14 8 8) (r_14 8 9) (r_14 8 10))) H)) (hKN.go hAL hS) hP (va_recv (hKN.go hAL hS).k hP (ci := 2) (q0 := 0) rfl rfl) rfl hl.1 rfl (Nat.le_of_ble_eq_true rfl) dX2_printLine_97 ⟨Nat.zero_le _, Nat.zero_le _⟩) hS (fun _ h => h) (fun _ h => h) (fun H locs hq_17 _ _ hS => ?_)
          have hP : PW G (stW G q ((fX2_heatPart (mkS (r_14 0) (r_14 1) (r_14 2) (r_14 3) (r_14 4) (r_14 5) (r_14 6) (r_14 7) (r_14 8 0) (r_14 8 1) (r_14 8 2) (r_14 8 3) w_15 (r_14 8 5) (r_14 8 6) (r_14 8 7) (r_14 8 8) (r_14 8 9) (r_14 8 10)) (fX2_dotsOfPart v_45 x1 (nI d45) y4_45 y3_45)).1)) H := hq_17
          obtain ⟨r_18, er_18⟩ : ∃ z, z = fX2_heatPart (mkS (r_14 0) (r_14 1) (r_14 2) (r_14 3) (r_14 4) (r_14 5) (r_14 6) (r_14 7) (r_14 8 0) (r_14 8 1) (r_14 8 2) (r_14 8 3) w_15 (r_14 8 5) (r_14 8 6) (r_14 8 7) (r_14 8 8) (r_14 8 9) (r_14 8 10)) (fX2_dotsOfPart v_45 x1 (nI d45) y4_45 y3_45) := ⟨_, rfl⟩
          rw [← er_18] at hP
          show W p l e ({ frames := 3, cells := 0, slots := 0, locals := 71 }) s m ([.ref (q 0), .int x1] : List Value).toArray below meth c H locs (0 + 0) (0 + 0) _ (F0 m (97 + 3) ls [.int ((fX2_heatPart (mkS (r_14 0) (r_14 1) (r_14 2) (r_14 3) (r_14 4) (r_14 5) (r_14 6) (r_14 7) (r_14 8 0) (r_14 8 1) (r_14 8 2) (r_14 8 3) w_15 (r_14 8 5) (r_14 8 6) (r_14 8 7) (r_14 8 8) (r_14 8 9) (r_14 8 10)) (fX2_dotsOfPart v_45 x1 (nI d45) y4_45 y3_45)).2), .int y5_45])
          rw [← er_18]
          refine lv_ior hC.1 hC.2.1 dX2_printLine_100 ?_
          refine lv_istore (lv' := [(5, .int (y5_45 ||| r_18.2)), (8, .int (fX2_waitOfPart v_45 (fX2_dotsOfPart v_45 x1 (nI d45) y4_45 y3_45))), (7, .int (fX2_dotsOfPart v_45 x1 (nI d45) y4_45 y3_45)), (0, .ref (q 0)), (1, .int x1), (2, .int y2_45), (3, .int y3_45), (4, .int y4_45), (6, .int (nI d45))]) hC.1 hC.2.1 dX2_printLine_101 hl (by decide) rfl (fun ls hl => ?_)
          refine lv_aload_n hC.1 hC.2.1 dX2_printLine_103 rfl (lv_at hl 3 rfl) ?_
          refine lv_aload_n hC.1 hC.2.1 dX2_printLine_104 rfl (lv_at hl 3 rfl) ?_
          refine lv_iload hC.1 hC.2.1 dX2_printLine_105 (lv_at hl 2 rfl) ?_
          refine runP (rV (B := fun U H => PW G (stW G q r_18.1) H) (As := [.int (fX2_dotsOfPart v_45 x1 (nI d45) y4_45 y3_45)]) (rest := [.ref (q 0)]) hC mwX2_longestPulse (c_X2_longestPulse l G q r_18.1 (fX2_dotsOfPart v_45 x1 (nI d45) y4_45 y3_45)) iwX2_longestPulse wd_538 ⟨rfl, rfl⟩ ⟨Nat.le_of_ble_eq_true rfl, Nat.le_of_ble_eq_true rfl⟩ (stb_h (fun H => PW G (stW G q r_18.1) H)) (hKN.go hAL hS) hP (va_recv (hKN.go hAL hS).k hP (ci := 2) (q0 := 0) rfl rfl) rfl hl.1 rfl (Nat.le_of_ble_eq_true rfl) dX2_printLine_107 ⟨Nat.zero_le _, Nat.zero_le _⟩) ?_
          refine lv_bipush (v := 10) hC.1 hC.2.1 dX2_printLine_110 (by decide +kernel) ?_
          refine lv_idiv hC.1 hC.2.1 dX2_printLine_112 (by decide) ?_
          refine lv_iconst (v := 1) hC.1 hC.2.1 dX2_printLine_113 (by decide) ?_
          refine lv_iadd hC.1 hC.2.1 dX2_printLine_114 ?_
          refine runE (rV (B := fun U H => PW G (stW G q r_18.1) H) (As := [.int (((fX2_longestPulse r_18.1 (fX2_dotsOfPart v_45 x1 (nI d45) y4_45 y3_45)) / 10) + 1)]) (rest := []) hC mwX2_passTime (c_X2_passTime l G q r_18.1 (((fX2_longestPulse r_18.1 (fX2_dotsOfPart v_45 x1 (nI d45) y4_45 y3_45)) / 10) + 1) hq) iwX2_passTime wd_520 ⟨rfl, rfl⟩ ⟨Nat.le_of_ble_eq_true rfl, Nat.le_of_ble_eq_true rfl⟩ (stb_h (fun H => PW G (stW G q r_18.1) H)) (hKN.go hAL hS) hP (va_recv (hKN.go hAL hS).k hP (ci := 2) (q0 := 0) rfl rfl) rfl hl.1 rfl (Nat.le_of_ble_eq_true rfl) dX2_printLine_115 ⟨Nat.zero_le _, Nat.zero_le _⟩) hS (fun _ h => h) (fun _ h => h) (fun H locs hq_19 _ _ hS => ?_)
          have hP : PW G (stW G q (fX2_passTime r_18.1 (((fX2_longestPulse r_18.1 (fX2_dotsOfPart v_45 x1 (nI d45) y4_45 y3_45)) / 10) + 1))) H := hq_19
          obtain ⟨r_20, er_20⟩ : ∃ z, z = fX2_passTime r_18.1 (((fX2_longestPulse r_18.1 (fX2_dotsOfPart v_45 x1 (nI d45) y4_45 y3_45)) / 10) + 1) := ⟨_, rfl⟩
          rw [← er_20] at hP
          refine lv_iinc (v := nI (d45 + 1)) (lv' := [(6, .int (nI (d45 + 1))), (5, .int (y5_45 ||| r_18.2)), (8, .int (fX2_waitOfPart v_45 (fX2_dotsOfPart v_45 x1 (nI d45) y4_45 y3_45))), (7, .int (fX2_dotsOfPart v_45 x1 (nI d45) y4_45 y3_45)), (0, .ref (q 0)), (1, .int x1), (2, .int y2_45), (3, .int y3_45), (4, .int y4_45)]) hC.1 hC.2.1 dX2_printLine_118 hl (k := 8) rfl (nI_1 _) (by decide) rfl (fun ls hl => ?_)
          refine lv_goto (tgt := 45) hC.1 hC.2.1 dX2_printLine_121 (by decide) ?_
          have e_21 : bX2_printLine_45 v x1 y2_45 y3_45 y4_45 d45 (y5_45, v_45) = (y5_45 ||| r_18.2, r_20) := by subst er_20; subst er_18; subst ew_15; subst er_14; exact rfl
          have hg : fX2_printLine v x1 = (tX2_printLine_45 v x1 y2_45 y3_45 y4_45 (lpF n45 (d45 + 1) (bX2_printLine_45 v x1 y2_45 y3_45 y4_45) (y5_45 ||| r_18.2, r_20))) := hg.trans (congrArg (fun z => (tX2_printLine_45 v x1 y2_45 y3_45 y4_45 (lpF n45 (d45 + 1) (bX2_printLine_45 v x1 y2_45 y3_45 y4_45) z))) e_21)
          exact ih (d45 + 1) (y5_45 ||| r_18.2) r_20 (by omega) hg _ _ hP hS _ (lv_sub hl [4, 5, 6, 7, 8, 1, 0] rfl)
    have e_22 : tX2_printLine_J32 v x1 y2_32 y3_32 z0_32 v_32 = tX2_printLine_45 v x1 y2_32 y3_32 z0_32 (lpF z0_32.toNatClampNeg 0 (bX2_printLine_45 v x1 y2_32 y3_32 z0_32) (0, r_2)) := by subst er_2; exact rfl
    have hg : fX2_printLine v x1 = (tX2_printLine_45 v x1 y2_32 y3_32 z0_32 (lpF z0_32.toNatClampNeg 0 (bX2_printLine_45 v x1 y2_32 y3_32 z0_32) (0, r_2))) := hg.trans (congrArg (fun z => z) e_22)
    exact L45 y2_32 y3_32 z0_32 z0_32.toNatClampNeg 0 0 r_2 (by omega) hg _ _ hP hS _ (lv_sub hl [3, 4, 5, 6, 2, 1, 0] rfl)
  refine lv_icmp_ge (tgt := 22) hC.1 hC.2.1 dX2_printLine_15 (by decide) (fun k15 => ?_) (fun k15 => ?_)
  · refine lv_iload_n hC.1 hC.2.1 dX2_printLine_22 rfl (lv_at hl 3 rfl) ?_
    refine runP (rS (B := fun U H => True) (As := [.int x1]) (rest := []) hC mwJ6_bitCount_0f7a4 (c_J6_bitCount_0f7a4 l G x1) wd_503 wd_502 ⟨rfl, rfl⟩ ⟨Nat.le_of_ble_eq_true rfl, Nat.le_of_ble_eq_true rfl⟩ (fun _ _ _ _ h => h) hKN trivial rfl hl.1 rfl (Nat.le_of_ble_eq_true rfl) dX2_printLine_23 ⟨Nat.zero_le _, Nat.zero_le _⟩) ?_
    refine lv_iload_n hC.1 hC.2.1 dX2_printLine_26 rfl (lv_at hl 0 rfl) ?_
    refine lv_iadd hC.1 hC.2.1 dX2_printLine_27 ?_
    refine lv_iconst (v := 1) hC.1 hC.2.1 dX2_printLine_28 (by decide) ?_
    refine lv_isub hC.1 hC.2.1 dX2_printLine_29 ?_
    refine lv_iload_n hC.1 hC.2.1 dX2_printLine_30 rfl (lv_at hl 0 rfl) ?_
    refine lv_idiv hC.1 hC.2.1 dX2_printLine_31 (fun h => by rw [h] at k15; exact absurd k15 (by decide)) ?_
    have e_23 : fX2_printLine v x1 = tX2_printLine_J32 v x1 (v 8 1) (fX2_dotsAtOnce v) ((((fJ6_bitCount_0f7a4 x1) + (fX2_dotsAtOnce v)) - 1) / (fX2_dotsAtOnce v)) v := by exact Eq.trans (if_pos k15) rfl
    have hg : fX2_printLine v x1 = tX2_printLine_J32 v x1 (v 8 1) (fX2_dotsAtOnce v) ((((fJ6_bitCount_0f7a4 x1) + (fX2_dotsAtOnce v)) - 1) / (fX2_dotsAtOnce v)) v := hg.trans (congrArg (fun z => z) e_23)
    exact J32 (v 8 1) (fX2_dotsAtOnce v) ((((fJ6_bitCount_0f7a4 x1) + (fX2_dotsAtOnce v)) - 1) / (fX2_dotsAtOnce v)) v hg _ _ hP hS _ (lv_sub hl [2, 3, 1, 0] rfl)
  · refine lv_iconst (v := 0) hC.1 hC.2.1 dX2_printLine_18 (by decide) ?_
    refine lv_goto (tgt := 32) hC.1 hC.2.1 dX2_printLine_19 (by decide) ?_
    have e_24 : fX2_printLine v x1 = tX2_printLine_J32 v x1 (v 8 1) (fX2_dotsAtOnce v) 0 v := by exact Eq.trans (if_neg k15) rfl
    have hg : fX2_printLine v x1 = tX2_printLine_J32 v x1 (v 8 1) (fX2_dotsAtOnce v) 0 v := hg.trans (congrArg (fun z => z) e_24)
    exact J32 (v 8 1) (fX2_dotsAtOnce v) 0 v hg _ _ hP hS _ (lv_sub hl [2, 3, 1, 0] rfl)

theorem dX2_printLines_0 : decode cX2_printLines 0 = .ok (.iconst 0, 1) := by decide +kernel
theorem dX2_printLines_1 : decode cX2_printLines 1 = .ok (.istore_n 3, 1) := by decide +kernel
theorem dX2_printLines_2 : decode cX2_printLines 2 = .ok (.iload_n 3, 1) := by decide +kernel
theorem dX2_printLines_3 : decode cX2_printLines 3 = .ok (.iload_n 2, 1) := by decide +kernel
theorem dX2_printLines_4 : decode cX2_printLines 4 = .ok (.if_icmp .ge 15, 3) := by decide +kernel
theorem dX2_printLines_7 : decode cX2_printLines 7 = .ok (.aload_n 0, 1) := by decide +kernel
theorem dX2_printLines_8 : decode cX2_printLines 8 = .ok (.iload_n 1, 1) := by decide +kernel
theorem dX2_printLines_9 : decode cX2_printLines 9 = .ok (.invokevirtual 70, 3) := by decide +kernel
theorem dX2_printLines_12 : decode cX2_printLines 12 = .ok (.pop, 1) := by decide +kernel
theorem dX2_printLines_13 : decode cX2_printLines 13 = .ok (.iinc 3 1, 3) := by decide +kernel
theorem dX2_printLines_16 : decode cX2_printLines 16 = .ok (.goto (-14), 3) := by decide +kernel
theorem dX2_printLines_19 : decode cX2_printLines 19 = .ok (.return_, 1) := by decide +kernel
set_option maxHeartbeats 1000000 in
set_option maxRecDepth 100000 in
theorem c_X2_printLines (l : Launch) (G : GT) (q : Nat → Nat) (v : SV) (x1 : Int32) (x2 : Int32) (hq : stD G q) : Met l yX2_printLines (Cond.code yX2_printLines cX2_printLines 4 none :: bigW) ({ frames := 4, cells := 0, slots := 0, locals := 99 }) (BP G [.ref (q 0), .int x1, .int x2] (fun U H => PW G (stW G q v) H)) (QE (none) (fun H => PW G (stW G q (fX2_printLines v x1 x2)) H) (stA q)) 0 0 (stA q) := by
  refine met_of (by decide) (Nat.le_of_ble_eq_true rfl) ?_
  intro p e s m below meth c ls hC hKN hB0 hl
  have hP := hB0
  have hl : lv_has ls 4 [(0, .ref (q 0)), (1, .int x1), (2, .int x2)] := hl
  have hS : va_S (stA q) s.heap s.heap [] := va_S.rf
  have hAL : ∀ a, (stA q) a → gL G ≤ a := stD_low hq
  have hg : fX2_printLines v x1 x2 = fX2_printLines v x1 x2 := rfl
  refine lv_iconst (v := 0) hC.1 hC.2.1 dX2_printLines_0 (by decide) ?_
  refine lv_istore_n (lv' := [(3, .int 0), (0, .ref (q 0)), (1, .int x1), (2, .int x2)]) hC.1 hC.2.1 dX2_printLines_1 rfl hl (by decide) rfl (fun ls hl => ?_)
  have A2 : ∀ (v_2 : SV), fX2_printLines v x1 x2 = (tX2_printLines_2 v x1 x2 v_2) → ∀ (H : Heap) (locs : List Loc), PW G (stW G q v_2) H → va_S (stA q) s.heap H locs → ∀ (ls : Array Slot), lv_has ls 4 [] → W p l e ({ frames := 4, cells := 0, slots := 0, locals := 99 }) s m ([.ref (q 0), .int x1, .int x2] : List Value).toArray below meth c H locs 0 0 (MQ below (QE (none) (fun H => PW G (stW G q (fX2_printLines v x1 x2)) H) (stA q)) ([.ref (q 0), .int x1, .int x2] : List Value).toArray s 0 0 (stA q)) (F0 m 19 ls []) := by
    intro  v_2 hg H locs hP hS ls hl
    have e_1 : tX2_printLines_2 v x1 x2 v_2 = v_2 := by exact rfl
    have hg : fX2_printLines v x1 x2 = v_2 := hg.trans (congrArg (fun z => z) e_1)
    exact eE_v hC (by show PW G (stW G q (fX2_printLines v x1 x2)) H; rw [hg]; exact hP) hS dX2_printLines_19
  have L2 : ∀ (n2 d2 : Nat), ∀ (v_2 : SV), d2 + n2 = x2.toNatClampNeg → fX2_printLines v x1 x2 = (tX2_printLines_2 v x1 x2 (lpF n2 d2 (bX2_printLines_2 v x1 x2) v_2)) → ∀ (H : Heap) (locs : List Loc), PW G (stW G q v_2) H → va_S (stA q) s.heap H locs → ∀ (ls : Array Slot), lv_has ls 4 [(0, .ref (q 0)), (1, .int x1), (2, .int x2), (3, .int (nI d2))] → W p l e ({ frames := 4, cells := 0, slots := 0, locals := 99 }) s m ([.ref (q 0), .int x1, .int x2] : List Value).toArray below meth c H locs 0 0 (MQ below (QE (none) (fun H => PW G (stW G q (fX2_printLines v x1 x2)) H) (stA q)) ([.ref (q 0), .int x1, .int x2] : List Value).toArray s 0 0 (stA q)) (F0 m 2 ls []) := by
    intro n2
    induction n2 with
    | zero =>
      intro d2 v_2 hd hg H locs hP hS ls hl
      refine lv_iload_n hC.1 hC.2.1 dX2_printLines_2 rfl (lv_at hl 3 rfl) ?_
      refine lv_iload_n hC.1 hC.2.1 dX2_printLines_3 rfl (lv_at hl 2 rfl) ?_
      refine lv_icmp_ge (tgt := 19) hC.1 hC.2.1 dX2_printLines_4 (by decide) (fun k4 => ?_) (fun k4 => ?_)
      · exact A2  v_2 hg _ _ hP hS _ (lv_sub hl [] rfl)
      · exact absurd (cl_le (by omega) (by have := cl_lt x2; omega)) k4
    | succ n2 ih =>
      intro d2 v_2 hd hg H locs hP hS ls hl
      have hg : fX2_printLines v x1 x2 = (tX2_printLines_2 v x1 x2 (lpF n2 (d2 + 1) (bX2_printLines_2 v x1 x2) (bX2_printLines_2 v x1 x2 d2 v_2))) := hg
      refine lv_iload_n hC.1 hC.2.1 dX2_printLines_2 rfl (lv_at hl 3 rfl) ?_
      refine lv_iload_n hC.1 hC.2.1 dX2_printLines_3 rfl (lv_at hl 2 rfl) ?_
      refine lv_icmp_ge (tgt := 19) hC.1 hC.2.1 dX2_printLines_4 (by decide) (fun k4 => ?_) (fun k4 => ?_)
      · exact absurd k4 (cl_nle (by omega))
      · refine lv_aload_n hC.1 hC.2.1 dX2_printLines_7 rfl (lv_at hl 0 rfl) ?_
        refine lv_iload_n hC.1 hC.2.1 dX2_printLines_8 rfl (lv_at hl 1 rfl) ?_
        refine runE (rV (B := fun U H => PW G (stW G q v_2) H) (As := [.int x1]) (rest := []) hC mwX2_printLine (c_X2_printLine l G q v_2 x1 hq) iwX2_printLine wd_700 ⟨rfl, rfl⟩ ⟨Nat.le_of_ble_eq_true rfl, Nat.le_of_ble_eq_true rfl⟩ (stb_h (fun H => PW G (stW G q v_2) H)) (hKN.go hAL hS) hP (va_recv (hKN.go hAL hS).k hP (ci := 2) (q0 := 0) rfl rfl) rfl hl.1 rfl (Nat.le_of_ble_eq_true rfl) dX2_printLines_9 ⟨Nat.zero_le _, Nat.zero_le _⟩) hS (fun _ h => h) (fun _ h => h) (fun H locs hq_2 _ _ hS => ?_)
        have hP : PW G (stW G q ((fX2_printLine v_2 x1).1)) H := hq_2
        obtain ⟨r_3, er_3⟩ : ∃ z, z = fX2_printLine v_2 x1 := ⟨_, rfl⟩
        rw [← er_3] at hP
        show W p l e ({ frames := 4, cells := 0, slots := 0, locals := 99 }) s m ([.ref (q 0), .int x1, .int x2] : List Value).toArray below meth c H locs (0 + 0) (0 + 0) _ (F0 m (9 + 3) ls [.int ((fX2_printLine v_2 x1).2)])
        rw [← er_3]
        refine lv_pop hC.1 hC.2.1 dX2_printLines_12 rfl ?_
        refine lv_iinc (v := nI (d2 + 1)) (lv' := [(3, .int (nI (d2 + 1))), (0, .ref (q 0)), (1, .int x1), (2, .int x2)]) hC.1 hC.2.1 dX2_printLines_13 hl (k := 3) rfl (nI_1 _) (by decide) rfl (fun ls hl => ?_)
        refine lv_goto (tgt := 2) hC.1 hC.2.1 dX2_printLines_16 (by decide) ?_
        have e_4 : bX2_printLines_2 v x1 x2 d2 v_2 = r_3.1 := by subst er_3; exact rfl
        have hg : fX2_printLines v x1 x2 = (tX2_printLines_2 v x1 x2 (lpF n2 (d2 + 1) (bX2_printLines_2 v x1 x2) r_3.1)) := hg.trans (congrArg (fun z => (tX2_printLines_2 v x1 x2 (lpF n2 (d2 + 1) (bX2_printLines_2 v x1 x2) z))) e_4)
        exact ih (d2 + 1) r_3.1 (by omega) hg _ _ hP hS _ (lv_sub hl [1, 2, 3, 0] rfl)
  have e_5 : fX2_printLines v x1 x2 = tX2_printLines_2 v x1 x2 (lpF x2.toNatClampNeg 0 (bX2_printLines_2 v x1 x2) v) := by exact rfl
  have hg : fX2_printLines v x1 x2 = (tX2_printLines_2 v x1 x2 (lpF x2.toNatClampNeg 0 (bX2_printLines_2 v x1 x2) v)) := hg.trans (congrArg (fun z => z) e_5)
  exact L2  x2.toNatClampNeg 0 v (by omega) hg _ _ hP hS _ (lv_sub hl [1, 2, 3, 0] rfl)
end
