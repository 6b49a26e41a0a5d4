theorem nf_0 {G : GT} {s : State} {H : Heap} (h : KN G s H) : va_Nw (.fieldLinkNest RX2 18 RX5 "SETTING_FIRST" "[I" "HeadDots") s := h.2.1.1 (RX2, 18, RX5, "SETTING_FIRST", "[I", "HeadDots") (List.mem_of_getElem? (i := 0) rfl)
theorem nf_1 {G : GT} {s : State} {H : Heap} (h : KN G s H) : va_Nw (.fieldLinkNest RX2 67 RX3 "size" "I" "HeadDots") s := h.2.1.1 (RX2, 67, RX3, "size", "I", "HeadDots") (List.mem_of_getElem? (i := 1) rfl)
theorem nf_2 {G : GT} {s : State} {H : Heap} (h : KN G s H) : va_Nw (.fieldLinkNest RX5 101 RX3 "size" "I" "HeadDots") s := h.2.1.1 (RX5, 101, RX3, "size", "I", "HeadDots") (List.mem_of_getElem? (i := 2) rfl)
theorem nf_3 {G : GT} {s : State} {H : Heap} (h : KN G s H) : va_Nw (.fieldLinkNest RX2 166 RX4 "dotsOf" "[I" "HeadDots") s := h.2.1.1 (RX2, 166, RX4, "dotsOf", "[I", "HeadDots") (List.mem_of_getElem? (i := 3) rfl)
theorem nf_4 {G : GT} {s : State} {H : Heap} (h : KN G s H) : va_Nw (.fieldLinkNest RX2 169 RX4 "faintOf" "[I" "HeadDots") s := h.2.1.1 (RX2, 169, RX4, "faintOf", "[I", "HeadDots") (List.mem_of_getElem? (i := 4) rfl)
theorem nf_5 {G : GT} {s : State} {H : Heap} (h : KN G s H) : va_Nw (.fieldLinkNest RX2 74 RX4 "time" "I" "HeadDots") s := h.2.1.1 (RX2, 74, RX4, "time", "I", "HeadDots") (List.mem_of_getElem? (i := 5) rfl)
theorem nf_6 {G : GT} {s : State} {H : Heap} (h : KN G s H) : va_Nw (.fieldLinkNest RX5 283 RX4 "time" "I" "HeadDots") s := h.2.1.1 (RX5, 283, RX4, "time", "I", "HeadDots") (List.mem_of_getElem? (i := 6) rfl)
theorem nf_7 {G : GT} {s : State} {H : Heap} (h : KN G s H) : va_Nw (.fieldLinkNest RX5 158 RX4 "lines" "I" "HeadDots") s := h.2.1.1 (RX5, 158, RX4, "lines", "I", "HeadDots") (List.mem_of_getElem? (i := 7) rfl)
theorem nf_8 {G : GT} {s : State} {H : Heap} (h : KN G s H) : va_Nw (.fieldLinkNest RX5 285 RX4 "parts" "I" "HeadDots") s := h.2.1.1 (RX5, 285, RX4, "parts", "I", "HeadDots") (List.mem_of_getElem? (i := 8) rfl)
theorem nf_9 {G : GT} {s : State} {H : Heap} (h : KN G s H) : va_Nw (.fieldLinkNest RX2 100 RX4 "waits" "I" "HeadDots") s := h.2.1.1 (RX2, 100, RX4, "waits", "I", "HeadDots") (List.mem_of_getElem? (i := 9) rfl)
theorem nf_10 {G : GT} {s : State} {H : Heap} (h : KN G s H) : va_Nw (.fieldLinkNest RX5 288 RX4 "waits" "I" "HeadDots") s := h.2.1.1 (RX5, 288, RX4, "waits", "I", "HeadDots") (List.mem_of_getElem? (i := 10) rfl)
theorem nf_11 {G : GT} {s : State} {H : Heap} (h : KN G s H) : va_Nw (.fieldLinkNest RX5 291 RX4 "dots" "I" "HeadDots") s := h.2.1.1 (RX5, 291, RX4, "dots", "I", "HeadDots") (List.mem_of_getElem? (i := 11) rfl)
theorem nf_12 {G : GT} {s : State} {H : Heap} (h : KN G s H) : va_Nw (.fieldLinkNest RX5 76 RX4 "faint" "I" "HeadDots") s := h.2.1.1 (RX5, 76, RX4, "faint", "I", "HeadDots") (List.mem_of_getElem? (i := 12) rfl)
theorem nf_13 {G : GT} {s : State} {H : Heap} (h : KN G s H) : va_Nw (.fieldLinkNest RX2 130 RX4 "hottest" "I" "HeadDots") s := h.2.1.1 (RX2, 130, RX4, "hottest", "I", "HeadDots") (List.mem_of_getElem? (i := 13) rfl)
theorem nf_14 {G : GT} {s : State} {H : Heap} (h : KN G s H) : va_Nw (.fieldLinkNest RX5 295 RX4 "hottest" "I" "HeadDots") s := h.2.1.1 (RX5, 295, RX4, "hottest", "I", "HeadDots") (List.mem_of_getElem? (i := 14) rfl)
theorem nf_15 {G : GT} {s : State} {H : Heap} (h : KN G s H) : va_Nw (.fieldLinkNest RX5 97 RX2 "strip" "LHeadDots$Strip;" "HeadDots") s := h.2.1.1 (RX5, 97, RX2, "strip", "LHeadDots$Strip;", "HeadDots") (List.mem_of_getElem? (i := 15) rfl)
theorem nf_16 {G : GT} {s : State} {H : Heap} (h : KN G s H) : va_Nw (.fieldLinkNest RX5 72 RX2 "totals" "LHeadDots$Totals;" "HeadDots") s := h.2.1.1 (RX5, 72, RX2, "totals", "LHeadDots$Totals;", "HeadDots") (List.mem_of_getElem? (i := 16) rfl)
theorem nf_17 {G : GT} {s : State} {H : Heap} (h : KN G s H) : va_Nw (.fieldLinkNest RX5 298 RX2 "paperKind" "I" "HeadDots") s := h.2.1.1 (RX5, 298, RX2, "paperKind", "I", "HeadDots") (List.mem_of_getElem? (i := 17) rfl)
theorem nf_18 {G : GT} {s : State} {H : Heap} (h : KN G s H) : va_Nw (.fieldLinkNest RX2 137 RX5 "PAPER_PULSE" "[I" "HeadDots") s := h.2.1.1 (RX2, 137, RX5, "PAPER_PULSE", "[I", "HeadDots") (List.mem_of_getElem? (i := 18) rfl)
theorem nf_19 {G : GT} {s : State} {H : Heap} (h : KN G s H) : va_Nw (.fieldLinkNest RX2 140 RX5 "PAPER_DARK" "[I" "HeadDots") s := h.2.1.1 (RX2, 140, RX5, "PAPER_DARK", "[I", "HeadDots") (List.mem_of_getElem? (i := 19) rfl)
theorem nf_20 {G : GT} {s : State} {H : Heap} (h : KN G s H) : va_Nw (.fieldLinkNest RX2 153 RX5 "SETTING_MOST" "[I" "HeadDots") s := h.2.1.1 (RX2, 153, RX5, "SETTING_MOST", "[I", "HeadDots") (List.mem_of_getElem? (i := 20) rfl)
theorem nf_21 {G : GT} {s : State} {H : Heap} (h : KN G s H) : va_Nw (.fieldLinkNest RX2 156 RX5 "SETTING_LEAST" "[I" "HeadDots") s := h.2.1.1 (RX2, 156, RX5, "SETTING_LEAST", "[I", "HeadDots") (List.mem_of_getElem? (i := 21) rfl)
theorem nm_0 {G : GT} {s : State} {H : Heap} (h : KN G s H) : va_Nw (.methodLinkNest RX2 24 yX5_copyRow "HeadDots") s := h.2.1.2 (RX2, 24, yX5_copyRow, "HeadDots") (List.mem_of_getElem? (i := 0) rfl)
theorem nm_1 {G : GT} {s : State} {H : Heap} (h : KN G s H) : va_Nw (.methodLinkNest RX2 59 yX5_at "HeadDots") s := h.2.1.2 (RX2, 59, yX5_at, "HeadDots") (List.mem_of_getElem? (i := 1) rfl)
theorem nm_2 {G : GT} {s : State} {H : Heap} (h : KN G s H) : va_Nw (.methodLinkNest RX2 124 yX5_bitOf "HeadDots") s := h.2.1.2 (RX2, 124, yX5_bitOf, "HeadDots") (List.mem_of_getElem? (i := 2) rfl)
theorem nm_3 {G : GT} {s : State} {H : Heap} (h : KN G s H) : va_Nw (.methodLinkNest RX3 43 yX5_at "HeadDots") s := h.2.1.2 (RX3, 43, yX5_at, "HeadDots") (List.mem_of_getElem? (i := 3) rfl)
theorem nm_4 {G : GT} {s : State} {H : Heap} (h : KN G s H) : va_Nw (.methodLinkNest RX3 54 yX5_bitOf "HeadDots") s := h.2.1.2 (RX3, 54, yX5_bitOf, "HeadDots") (List.mem_of_getElem? (i := 4) rfl)
theorem nm_5 {G : GT} {s : State} {H : Heap} (h : KN G s H) : va_Nw (.methodLinkNest RX3 25 yX5_copyRow "HeadDots") s := h.2.1.2 (RX3, 25, yX5_copyRow, "HeadDots") (List.mem_of_getElem? (i := 5) rfl)
theorem nm_6 {G : GT} {s : State} {H : Heap} (h : KN G s H) : va_Nw (.methodLinkNest RX4 40 yX5_copyRow "HeadDots") s := h.2.1.2 (RX4, 40, yX5_copyRow, "HeadDots") (List.mem_of_getElem? (i := 6) rfl)
theorem nm_7 {G : GT} {s : State} {H : Heap} (h : KN G s H) : va_Nw (.methodLinkNest RX2 63 yX5_put "HeadDots") s := h.2.1.2 (RX2, 63, yX5_put, "HeadDots") (List.mem_of_getElem? (i := 7) rfl)
theorem nm_8 {G : GT} {s : State} {H : Heap} (h : KN G s H) : va_Nw (.methodLinkNest RX3 39 yX5_put "HeadDots") s := h.2.1.2 (RX3, 39, yX5_put, "HeadDots") (List.mem_of_getElem? (i := 8) rfl)
theorem nm_9 {G : GT} {s : State} {H : Heap} (h : KN G s H) : va_Nw (.methodLinkNest RX4 54 yX5_bitOf "HeadDots") s := h.2.1.2 (RX4, 54, yX5_bitOf, "HeadDots") (List.mem_of_getElem? (i := 9) rfl)
theorem fwX0 : FW RX0 TX0 2 tyX0 := ⟨(show ∀ w ∈ u_ws RX0 TX0 2, w ∈ bigW from List.forall_mem_cons.mpr ⟨wd_145, List.forall_mem_cons.mpr ⟨wd_147, List.forall_mem_nil _⟩⟩), tyX0_ok, nmX0⟩
theorem fwX1 : FW RX1 TX1 10 tyX1 := ⟨(show ∀ w ∈ u_ws RX1 TX1 10, w ∈ bigW from List.forall_mem_cons.mpr ⟨wd_167, List.forall_mem_cons.mpr ⟨wd_169, List.forall_mem_cons.mpr ⟨wd_171, List.forall_mem_cons.mpr ⟨wd_173, List.forall_mem_cons.mpr ⟨wd_175, List.forall_mem_cons.mpr ⟨wd_177, List.forall_mem_cons.mpr ⟨wd_179, List.forall_mem_cons.mpr ⟨wd_181, List.forall_mem_cons.mpr ⟨wd_183, List.forall_mem_cons.mpr ⟨wd_185, List.forall_mem_nil _⟩⟩⟩⟩⟩⟩⟩⟩⟩⟩), tyX1_ok, nmX1⟩
theorem fwX2 : FW RX2 TX2 8 tyX2 := ⟨(show ∀ w ∈ u_ws RX2 TX2 8, w ∈ bigW from List.forall_mem_cons.mpr ⟨wd_119, List.forall_mem_cons.mpr ⟨wd_121, List.forall_mem_cons.mpr ⟨wd_123, List.forall_mem_cons.mpr ⟨wd_125, List.forall_mem_cons.mpr ⟨wd_127, List.forall_mem_cons.mpr ⟨wd_129, List.forall_mem_cons.mpr ⟨wd_131, List.forall_mem_cons.mpr ⟨wd_133, List.forall_mem_nil _⟩⟩⟩⟩⟩⟩⟩⟩), tyX2_ok, nmX2⟩
theorem fwX3 : FW RX3 TX3 4 tyX3 := ⟨(show ∀ w ∈ u_ws RX3 TX3 4, w ∈ bigW from List.forall_mem_cons.mpr ⟨wd_52, List.forall_mem_cons.mpr ⟨wd_54, List.forall_mem_cons.mpr ⟨wd_56, List.forall_mem_cons.mpr ⟨wd_58, List.forall_mem_nil _⟩⟩⟩⟩), tyX3_ok, nmX3⟩
theorem fwX4 : FW RX4 TX4 9 tyX4 := ⟨(show ∀ w ∈ u_ws RX4 TX4 9, w ∈ bigW from List.forall_mem_cons.mpr ⟨wd_89, List.forall_mem_cons.mpr ⟨wd_91, List.forall_mem_cons.mpr ⟨wd_93, List.forall_mem_cons.mpr ⟨wd_95, List.forall_mem_cons.mpr ⟨wd_97, List.forall_mem_cons.mpr ⟨wd_99, List.forall_mem_cons.mpr ⟨wd_101, List.forall_mem_cons.mpr ⟨wd_103, List.forall_mem_cons.mpr ⟨wd_105, List.forall_mem_nil _⟩⟩⟩⟩⟩⟩⟩⟩⟩), tyX4_ok, nmX4⟩
theorem fwX5 : FW RX5 TX5 8 tyX5 := ⟨(show ∀ w ∈ u_ws RX5 TX5 8, w ∈ bigW from List.forall_mem_cons.mpr ⟨wd_197, List.forall_mem_cons.mpr ⟨wd_199, List.forall_mem_cons.mpr ⟨wd_201, List.forall_mem_cons.mpr ⟨wd_203, List.forall_mem_cons.mpr ⟨wd_205, List.forall_mem_cons.mpr ⟨wd_207, List.forall_mem_cons.mpr ⟨wd_209, List.forall_mem_cons.mpr ⟨wd_211, List.forall_mem_nil _⟩⟩⟩⟩⟩⟩⟩⟩), tyX5_ok, nmX5⟩
theorem mwX0_init : MW yX0_init cX0_init 1 none 0 := ⟨wd_141, wd_7, by decide, by decide, by decide +kernel⟩
theorem mwX1_init : MW yX1_init cX1_init 1 none 0 := ⟨wd_154, wd_8, by decide, by decide, by decide +kernel⟩
theorem mwX2_init : MW yX2_init cX2_init 1 none 0 := ⟨wd_27, wd_2, by decide, by decide, by decide +kernel⟩
theorem mwX2_copyFrom : MW yX2_copyFrom cX2_copyFrom 2 none 1 := ⟨wd_461, wd_2, by decide, by decide, by decide +kernel⟩
theorem mwX2_setting : MW yX2_setting cX2_setting 2 (some .int) 1 := ⟨wd_377, wd_2, by decide, by decide, by decide +kernel⟩
theorem mwX2_changeSetting : MW yX2_changeSetting cX2_changeSetting 3 none 2 := ⟨wd_475, wd_2, by decide, by decide, by decide +kernel⟩
theorem mwX2_changePaper : MW yX2_changePaper cX2_changePaper 2 none 1 := ⟨wd_622, wd_2, by decide, by decide, by decide +kernel⟩
theorem mwX2_printLines : MW yX2_printLines cX2_printLines 4 none 2 := ⟨wd_637, wd_2, by decide, by decide, by decide +kernel⟩
theorem mwX2_printLine : MW yX2_printLine cX2_printLine 9 (some .int) 1 := ⟨wd_482, wd_2, by decide, by decide, by decide +kernel⟩
theorem mwX2_dotsAtOnce : MW yX2_dotsAtOnce cX2_dotsAtOnce 2 (some .int) 0 := ⟨wd_486, wd_2, by decide, by decide, by decide +kernel⟩
theorem mwX2_preparePulses : MW yX2_preparePulses cX2_preparePulses 4 none 1 := ⟨wd_496, wd_2, by decide, by decide, by decide +kernel⟩
theorem mwX2_dotsOfPart : MW yX2_dotsOfPart cX2_dotsOfPart 10 (some .int) 4 := ⟨wd_500, wd_2, by decide, by decide, by decide +kernel⟩
theorem mwX2_waitOfPart : MW yX2_waitOfPart cX2_waitOfPart 5 (some .int) 1 := ⟨wd_504, wd_2, by decide, by decide, by decide +kernel⟩
theorem mwX2_heatPart : MW yX2_heatPart cX2_heatPart 4 (some .int) 1 := ⟨wd_516, wd_2, by decide, by decide, by decide +kernel⟩
theorem mwX2_longestPulse : MW yX2_longestPulse cX2_longestPulse 4 (some .int) 1 := ⟨wd_526, wd_2, by decide, by decide, by decide +kernel⟩
theorem mwX2_pulseIn : MW yX2_pulseIn cX2_pulseIn 5 (some .int) 3 := ⟨wd_340, wd_2, by decide, by decide, by decide +kernel⟩
theorem mwX2_pulseAlone : MW yX2_pulseAlone cX2_pulseAlone 3 (some .int) 2 := ⟨wd_336, wd_2, by decide, by decide, by decide +kernel⟩
theorem mwX2_waitFor : MW yX2_waitFor cX2_waitFor 3 (some .int) 2 := ⟨wd_349, wd_2, by decide, by decide, by decide +kernel⟩
theorem mwX2_isDark : MW yX2_isDark cX2_isDark 2 (some .boolean) 1 := ⟨wd_520, wd_2, by decide, by decide, by decide +kernel⟩
theorem mwX2_passTime : MW yX2_passTime cX2_passTime 3 none 1 := ⟨wd_508, wd_2, by decide, by decide, by decide +kernel⟩
theorem mwX2_cooledFor : MW yX2_cooledFor cX2_cooledFor 6 (some .int) 2 := ⟨wd_512, wd_2, by decide, by decide, by decide +kernel⟩
theorem mwX2_timeDownTo : MW yX2_timeDownTo cX2_timeDownTo 6 (some .int) 2 := ⟨wd_353, wd_2, by decide, by decide, by decide +kernel⟩
theorem mwX2_cooled : MW yX2_cooled cX2_cooled 3 (some .int) 2 := ⟨wd_357, wd_2, by decide, by decide, by decide +kernel⟩
theorem mwX2_timeUntilCool : MW yX2_timeUntilCool cX2_timeUntilCool 2 (some .int) 1 := ⟨wd_569, wd_2, by decide, by decide, by decide +kernel⟩
theorem mwX2_hottestDot : MW yX2_hottestDot cX2_hottestDot 3 (some .int) 0 := ⟨wd_373, wd_2, by decide, by decide, by decide +kernel⟩
theorem mwX2_leastDarkSetting : MW yX2_leastDarkSetting cX2_leastDarkSetting 6 (some .int) 1 := ⟨wd_578, wd_2, by decide, by decide, by decide +kernel⟩
theorem mwX2_mean : MW yX2_mean cX2_mean 3 (some .float) 0 := ⟨wd_393, wd_2, by decide, by decide, by decide +kernel⟩
theorem mwX2_numberOfDot : MW yX2_numberOfDot cX2_numberOfDot 3 (some .int) 2 := ⟨wd_326, wd_2, by decide, by decide, by decide +kernel⟩
theorem mwX3_init : MW yX3_init cX3_init 1 none 0 := ⟨wd_44, wd_5, by decide, by decide, by decide +kernel⟩
theorem mwX3_copyFrom : MW yX3_copyFrom cX3_copyFrom 2 none 1 := ⟨wd_465, wd_5, by decide, by decide, by decide +kernel⟩
theorem mwX3_addLine : MW yX3_addLine cX3_addLine 4 none 3 := ⟨wd_530, wd_5, by decide, by decide, by decide +kernel⟩
theorem mwX3_pushFront : MW yX3_pushFront cX3_pushFront 3 none 2 := ⟨wd_533, wd_5, by decide, by decide, by decide +kernel⟩
theorem mwX3_numberOfLine : MW yX3_numberOfLine cX3_numberOfLine 3 (some .int) 2 := ⟨wd_407, wd_5, by decide, by decide, by decide +kernel⟩
theorem mwX3_textLength : MW yX3_textLength cX3_textLength 2 (some .int) 1 := ⟨wd_421, wd_5, by decide, by decide, by decide +kernel⟩
theorem mwX3_sign : MW yX3_sign cX3_sign 3 (some .int) 2 := ⟨wd_417, wd_5, by decide, by decide, by decide +kernel⟩
theorem mwX4_init : MW yX4_init cX4_init 1 none 0 := ⟨wd_66, wd_6, by decide, by decide, by decide +kernel⟩
theorem mwX4_copyFrom : MW yX4_copyFrom cX4_copyFrom 2 none 1 := ⟨wd_470, wd_6, by decide, by decide, by decide +kernel⟩
theorem mwX4_addLine : MW yX4_addLine cX4_addLine 4 none 3 := ⟨wd_539, wd_6, by decide, by decide, by decide +kernel⟩
theorem mwX4_addDots : MW yX4_addDots cX4_addDots 3 none 2 := ⟨wd_543, wd_6, by decide, by decide, by decide +kernel⟩
theorem mwX4_dotByDot : MW yX4_dotByDot cX4_dotByDot 3 (some .int) 0 := ⟨wd_369, wd_6, by decide, by decide, by decide +kernel⟩
theorem mwX4_darkShare : MW yX4_darkShare cX4_darkShare 1 (some .double) 0 := ⟨wd_385, wd_6, by decide, by decide, by decide +kernel⟩
theorem mwX5_init : MW yX5_init cX5_init 2 none 0 := ⟨wd_19, wd_1, by decide, by decide, by decide +kernel⟩
theorem mwX5_line : MW yX5_line cX5_line 2 (some .int) 1 := ⟨wd_642, wd_1, by decide, by decide, by decide +kernel⟩
theorem mwX5_lines : MW yX5_lines cX5_lines 4 (some .int) 2 := ⟨wd_632, wd_1, by decide, by decide, by decide +kernel⟩
theorem mwX5_rest : MW yX5_rest cX5_rest 2 (some .int) 1 := ⟨wd_626, wd_1, by decide, by decide, by decide +kernel⟩
theorem mwX5_paper : MW yX5_paper cX5_paper 3 (some .int) 1 := ⟨wd_617, wd_1, by decide, by decide, by decide +kernel⟩
theorem mwX5_set : MW yX5_set cX5_set 4 (some .int) 2 := ⟨wd_596, wd_1, by decide, by decide, by decide +kernel⟩
theorem mwX5_told : MW yX5_told cX5_told 3 (some .int) 2 := ⟨wd_412, wd_1, by decide, by decide, by decide +kernel⟩
theorem mwX5_dot : MW yX5_dot cX5_dot 3 (some .int) 2 := ⟨wd_234, wd_1, by decide, by decide, by decide +kernel⟩
theorem mwX5_kept : MW yX5_kept cX5_kept 3 (some .int) 2 := ⟨wd_402, wd_1, by decide, by decide, by decide +kernel⟩
theorem mwX5_count : MW yX5_count cX5_count 2 (some .int) 1 := ⟨wd_361, wd_1, by decide, by decide, by decide +kernel⟩
theorem mwX5_ifPrinted : MW yX5_ifPrinted cX5_ifPrinted 3 (some .int) 2 := ⟨wd_448, wd_1, by decide, by decide, by decide +kernel⟩
theorem mwX5_betterWay : MW yX5_betterWay cX5_betterWay 2 (some .int) 1 := ⟨wd_552, wd_1, by decide, by decide, by decide +kernel⟩
theorem mwX5_coolIn : MW yX5_coolIn cX5_coolIn 2 (some .int) 1 := ⟨wd_564, wd_1, by decide, by decide, by decide +kernel⟩
theorem mwX5_darkFrom : MW yX5_darkFrom cX5_darkFrom 2 (some .int) 1 := ⟨wd_574, wd_1, by decide, by decide, by decide +kernel⟩
theorem mwX5_darkness : MW yX5_darkness cX5_darkness 1 (some .double) 0 := ⟨wd_381, wd_1, by decide, by decide, by decide +kernel⟩
theorem mwX5_meanHeat : MW yX5_meanHeat cX5_meanHeat 1 (some .float) 0 := ⟨wd_389, wd_1, by decide, by decide, by decide +kernel⟩
theorem mwX5_saveState : MW yX5_saveState cX5_saveState 2 none 0 := ⟨wd_605, wd_1, by decide, by decide, by decide +kernel⟩
theorem mwX5_dropOldest : MW yX5_dropOldest cX5_dropOldest 3 none 0 := ⟨wd_609, wd_1, by decide, by decide, by decide +kernel⟩
theorem mwX5_savedAt : MW yX5_savedAt cX5_savedAt 2 (some (.object "HeadDots$State")) 1 := ⟨wd_613, wd_1, by decide, by decide, by decide +kernel⟩
theorem mwX5_counted : MW yX5_counted cX5_counted 3 (some .int) 1 := ⟨wd_365, wd_1, by decide, by decide, by decide +kernel⟩
theorem mwX5_tryLine : MW yX5_tryLine cX5_tryLine 3 none 2 := ⟨wd_457, wd_1, by decide, by decide, by decide +kernel⟩
theorem mwX5_tried : MW yX5_tried cX5_tried 3 (some .int) 1 := ⟨wd_548, wd_1, by decide, by decide, by decide +kernel⟩
theorem mwX5_fasterWay : MW yX5_fasterWay cX5_fasterWay 3 (some .int) 1 := ⟨wd_557, wd_1, by decide, by decide, by decide +kernel⟩
theorem mwX5_isWithin : MW yX5_isWithin cX5_isWithin 3 (some .boolean) 3 := ⟨wd_240, wd_1, by decide, by decide, by decide +kernel⟩
theorem mwX5_isLine : MW yX5_isLine cX5_isLine 1 (some .boolean) 1 := ⟨wd_451, wd_1, by decide, by decide, by decide +kernel⟩
theorem mwX5_isDot : MW yX5_isDot cX5_isDot 1 (some .boolean) 1 := ⟨wd_237, wd_1, by decide, by decide, by decide +kernel⟩
theorem mwX5_bitOf : MW yX5_bitOf cX5_bitOf 2 (some .int) 2 := ⟨wd_332, wd_1, by decide, by decide, by decide +kernel⟩
theorem mwX5_at : MW yX5_at cX5_at 2 (some .int) 2 := ⟨wd_329, wd_1, by decide, by decide, by decide +kernel⟩
theorem mwX5_put : MW yX5_put cX5_put 3 none 3 := ⟨wd_478, wd_1, by decide, by decide, by decide +kernel⟩
theorem mwX5_copyRow : MW yX5_copyRow cX5_copyRow 2 none 2 := ⟨wd_33, wd_1, by decide, by decide, by decide +kernel⟩
theorem mwJ6_bitCount_0f7a4 : MW yJ6_bitCount_0f7a4 cJ6_bitCount_0f7a4 1 (some .int) 1 := ⟨wd_489, wd_14, by decide, by decide, by decide +kernel⟩
theorem mwL_cell : MW yL_cell cL_cell 2 (some .int) 2 := ⟨wd_216, wd_0, by decide, by decide, by decide +kernel⟩
theorem mwL_low : MW yL_low cL_low 2 (some .int) 2 := ⟨wd_220, wd_0, by decide, by decide, by decide +kernel⟩
theorem mwL_less : MW yL_less cL_less 3 (some .int) 2 := ⟨wd_230, wd_0, by decide, by decide, by decide +kernel⟩
theorem mwL_passes : MW yL_passes cL_passes 5 none 3 := ⟨wd_441, wd_0, by decide, by decide, by decide +kernel⟩
theorem mwL_pulse : MW yL_pulse cL_pulse 5 (some .int) 4 := ⟨wd_227, wd_0, by decide, by decide, by decide +kernel⟩
theorem mwL_dark : MW yL_dark cL_dark 1 (some .int) 1 := ⟨wd_444, wd_0, by decide, by decide, by decide +kernel⟩
theorem mwL_ones : MW yL_ones cL_ones 3 (some .int) 1 := ⟨wd_435, wd_0, by decide, by decide, by decide +kernel⟩
theorem mwL_partOf : MW yL_partOf cL_partOf 6 (some .int) 3 := ⟨wd_438, wd_0, by decide, by decide, by decide +kernel⟩
theorem mwL_prints : MW yL_prints cL_prints 15 none 6 := ⟨wd_432, wd_0, by decide, by decide, by decide +kernel⟩
theorem mwL_areDots : MW yL_areDots cL_areDots 14 (some .boolean) 5 := ⟨wd_224, wd_0, by decide, by decide, by decide +kernel⟩
theorem mwL_isStrip : MW yL_isStrip cL_isStrip 7 (some .boolean) 3 := ⟨wd_398, wd_0, by decide, by decide, by decide +kernel⟩
theorem mwL_copy : MW yL_copy cL_copy 3 none 2 := ⟨wd_429, wd_0, by decide, by decide, by decide +kernel⟩
theorem mwL_would : MW yL_would cL_would 13 (some .boolean) 4 := ⟨wd_426, wd_0, by decide, by decide, by decide +kernel⟩
theorem mwL_wouldDot : MW yL_wouldDot cL_wouldDot 12 (some .boolean) 5 := ⟨wd_560, wd_0, by decide, by decide, by decide +kernel⟩
theorem mwL_dots : MW yL_dots cL_dots 1 (some .int) 1 := ⟨wd_585, wd_0, by decide, by decide, by decide +kernel⟩
theorem mwL_sets : MW yL_sets cL_sets 6 (some .boolean) 3 := ⟨wd_592, wd_0, by decide, by decide, by decide +kernel⟩
theorem mwL_acts : MW yL_acts cL_acts 14 (some .boolean) 8 := ⟨wd_589, wd_0, by decide, by decide, by decide +kernel⟩
theorem iwX2_copyFrom : IW yX2_copyFrom := ⟨wd_459, wd_460⟩
theorem iwX2_setting : IW yX2_setting := ⟨wd_375, wd_376⟩
theorem iwX2_changeSetting : IW yX2_changeSetting := ⟨wd_473, wd_474⟩
theorem iwX2_changePaper : IW yX2_changePaper := ⟨wd_620, wd_621⟩
theorem iwX2_printLines : IW yX2_printLines := ⟨wd_635, wd_636⟩
theorem iwX2_printLine : IW yX2_printLine := ⟨wd_480, wd_481⟩
theorem iwX2_dotsAtOnce : IW yX2_dotsAtOnce := ⟨wd_485, bws 7 (by decide +kernel) (by decide +kernel)⟩
theorem iwX2_preparePulses : IW yX2_preparePulses := ⟨wd_495, bws 8 (by decide +kernel) (by decide +kernel)⟩
theorem iwX2_dotsOfPart : IW yX2_dotsOfPart := ⟨wd_499, bws 9 (by decide +kernel) (by decide +kernel)⟩
theorem iwX2_waitOfPart : IW yX2_waitOfPart := ⟨wd_503, bws 10 (by decide +kernel) (by decide +kernel)⟩
theorem iwX2_heatPart : IW yX2_heatPart := ⟨wd_515, bws 12 (by decide +kernel) (by decide +kernel)⟩
theorem iwX2_longestPulse : IW yX2_longestPulse := ⟨wd_525, bws 14 (by decide +kernel) (by decide +kernel)⟩
theorem iwX2_pulseIn : IW yX2_pulseIn := ⟨wd_339, bws 2 (by decide +kernel) (by decide +kernel)⟩
theorem iwX2_pulseAlone : IW yX2_pulseAlone := ⟨wd_335, bws 1 (by decide +kernel) (by decide +kernel)⟩
theorem iwX2_waitFor : IW yX2_waitFor := ⟨wd_348, bws 3 (by decide +kernel) (by decide +kernel)⟩
theorem iwX2_isDark : IW yX2_isDark := ⟨wd_519, bws 13 (by decide +kernel) (by decide +kernel)⟩
theorem iwX2_passTime : IW yX2_passTime := ⟨wd_506, wd_507⟩
theorem iwX2_cooledFor : IW yX2_cooledFor := ⟨wd_511, bws 11 (by decide +kernel) (by decide +kernel)⟩
theorem iwX2_timeDownTo : IW yX2_timeDownTo := ⟨wd_352, bws 4 (by decide +kernel) (by decide +kernel)⟩
theorem iwX2_timeUntilCool : IW yX2_timeUntilCool := ⟨wd_567, wd_568⟩
theorem iwX2_hottestDot : IW yX2_hottestDot := ⟨wd_371, wd_372⟩
theorem iwX2_leastDarkSetting : IW yX2_leastDarkSetting := ⟨wd_576, wd_577⟩
theorem iwX2_mean : IW yX2_mean := ⟨wd_391, wd_392⟩
theorem iwX2_numberOfDot : IW yX2_numberOfDot := ⟨wd_324, wd_325⟩
theorem iwX3_copyFrom : IW yX3_copyFrom := ⟨wd_463, wd_464⟩
theorem iwX3_addLine : IW yX3_addLine := ⟨wd_528, wd_529⟩
theorem iwX3_numberOfLine : IW yX3_numberOfLine := ⟨wd_405, wd_406⟩
theorem iwX3_textLength : IW yX3_textLength := ⟨wd_419, wd_420⟩
theorem iwX3_sign : IW yX3_sign := ⟨wd_415, wd_416⟩
theorem iwX4_copyFrom : IW yX4_copyFrom := ⟨wd_468, wd_469⟩
theorem iwX4_addLine : IW yX4_addLine := ⟨wd_537, wd_538⟩
theorem iwX4_dotByDot : IW yX4_dotByDot := ⟨wd_367, wd_368⟩
theorem iwX4_darkShare : IW yX4_darkShare := ⟨wd_383, wd_384⟩
theorem iwX5_line : IW yX5_line := ⟨wd_640, wd_641⟩
theorem iwX5_lines : IW yX5_lines := ⟨wd_630, wd_631⟩
theorem iwX5_rest : IW yX5_rest := ⟨wd_624, wd_625⟩
theorem iwX5_paper : IW yX5_paper := ⟨wd_615, wd_616⟩
theorem iwX5_set : IW yX5_set := ⟨wd_594, wd_595⟩
theorem iwX5_told : IW yX5_told := ⟨wd_410, wd_411⟩
theorem iwX5_dot : IW yX5_dot := ⟨wd_232, wd_233⟩
theorem iwX5_kept : IW yX5_kept := ⟨wd_400, wd_401⟩
theorem iwX5_count : IW yX5_count := ⟨wd_359, wd_360⟩
theorem iwX5_ifPrinted : IW yX5_ifPrinted := ⟨wd_446, wd_447⟩
theorem iwX5_betterWay : IW yX5_betterWay := ⟨wd_550, wd_551⟩
theorem iwX5_coolIn : IW yX5_coolIn := ⟨wd_562, wd_563⟩
theorem iwX5_darkFrom : IW yX5_darkFrom := ⟨wd_572, wd_573⟩
theorem iwX5_darkness : IW yX5_darkness := ⟨wd_379, wd_380⟩
theorem iwX5_meanHeat : IW yX5_meanHeat := ⟨wd_387, wd_388⟩
theorem iwX5_saveState : IW yX5_saveState := ⟨wd_604, bws 17 (by decide +kernel) (by decide +kernel)⟩
theorem iwX5_dropOldest : IW yX5_dropOldest := ⟨wd_608, bws 18 (by decide +kernel) (by decide +kernel)⟩
theorem iwX5_savedAt : IW yX5_savedAt := ⟨wd_612, bws 19 (by decide +kernel) (by decide +kernel)⟩
theorem iwX5_counted : IW yX5_counted := ⟨wd_364, bws 5 (by decide +kernel) (by decide +kernel)⟩
theorem iwX5_tryLine : IW yX5_tryLine := ⟨wd_456, bws 6 (by decide +kernel) (by decide +kernel)⟩
theorem iwX5_tried : IW yX5_tried := ⟨wd_547, bws 15 (by decide +kernel) (by decide +kernel)⟩
theorem iwX5_fasterWay : IW yX5_fasterWay := ⟨wd_556, bws 16 (by decide +kernel) (by decide +kernel)⟩
