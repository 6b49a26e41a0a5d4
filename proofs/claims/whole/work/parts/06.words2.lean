theorem nf_0 {G : GT} {s : State} {H : Heap} (h : KN G s H) : va_Nw (.fieldLinkNest RX2 18 RX5 "SETTING_FIRST" "[I" "HeadDots") s := h.2.1.1 (RX2, 18, RX5, "SETTING_FIRST", "[I", "HeadDots") (List.mem_of_getElem? (i := 0) rfl)
theorem nf_1 {G : GT} {s : State} {H : Heap} (h : KN G s H) : va_Nw (.fieldLinkNest RX2 67 RX3 "size" "I" "HeadDots") s := h.2.1.1 (RX2, 67, RX3, "size", "I", "HeadDots") (List.mem_of_getElem? (i := 1) rfl)
theorem nf_2 {G : GT} {s : State} {H : Heap} (h : KN G s H) : va_Nw (.fieldLinkNest RX5 101 RX3 "size" "I" "HeadDots") s := h.2.1.1 (RX5, 101, RX3, "size", "I", "HeadDots") (List.mem_of_getElem? (i := 2) rfl)
theorem nf_3 {G : GT} {s : State} {H : Heap} (h : KN G s H) : va_Nw (.fieldLinkNest RX2 166 RX4 "dotsOf" "[I" "HeadDots") s := h.2.1.1 (RX2, 166, RX4, "dotsOf", "[I", "HeadDots") (List.mem_of_getElem? (i := 3) rfl)
theorem nf_4 {G : GT} {s : State} {H : Heap} (h : KN G s H) : va_Nw (.fieldLinkNest RX2 169 RX4 "faintOf" "[I" "HeadDots") s := h.2.1.1 (RX2, 169, RX4, "faintOf", "[I", "HeadDots") (List.mem_of_getElem? (i := 4) rfl)
theorem nf_5 {G : GT} {s : State} {H : Heap} (h : KN G s H) : va_Nw (.fieldLinkNest RX2 74 RX4 "time" "I" "HeadDots") s := h.2.1.1 (RX2, 74, RX4, "time", "I", "HeadDots") (List.mem_of_getElem? (i := 5) rfl)
theorem nf_6 {G : GT} {s : State} {H : Heap} (h : KN G s H) : va_Nw (.fieldLinkNest RX5 283 RX4 "time" "I" "HeadDots") s := h.2.1.1 (RX5, 283, RX4, "time", "I", "HeadDots") (List.mem_of_getElem? (i := 6) rfl)
theorem nf_7 {G : GT} {s : State} {H : Heap} (h : KN G s H) : va_Nw (.fieldLinkNest RX5 158 RX4 "lines" "I" "HeadDots") s := h.2.1.1 (RX5, 158, RX4, "lines", "I", "HeadDots") (List.mem_of_getElem? (i := 7) rfl)
theorem nf_8 {G : GT} {s : State} {H : Heap} (h : KN G s H) : va_Nw (.fieldLinkNest RX5 285 RX4 "parts" "I" "HeadDots") s := h.2.1.1 (RX5, 285, RX4, "parts", "I", "HeadDots") (List.mem_of_getElem? (i := 8) rfl)
theorem nf_9 {G : GT} {s : State} {H : Heap} (h : KN G s H) : va_Nw (.fieldLinkNest RX2 100 RX4 "waits" "I" "HeadDots") s := h.2.1.1 (RX2, 100, RX4, "waits", "I", "HeadDots") (List.mem_of_getElem? (i := 9) rfl)
theorem nf_10 {G : GT} {s : State} {H : Heap} (h : KN G s H) : va_Nw (.fieldLinkNest RX5 288 RX4 "waits" "I" "HeadDots") s := h.2.1.1 (RX5, 288, RX4, "waits", "I", "HeadDots") (List.mem_of_getElem? (i := 10) rfl)
theorem nf_11 {G : GT} {s : State} {H : Heap} (h : KN G s H) : va_Nw (.fieldLinkNest RX5 291 RX4 "dots" "I" "HeadDots") s := h.2.1.1 (RX5, 291, RX4, "dots", "I", "HeadDots") (List.mem_of_getElem? (i := 11) rfl)
theorem nf_12 {G : GT} {s : State} {H : Heap} (h : KN G s H) : va_Nw (.fieldLinkNest RX5 76 RX4 "faint" "I" "HeadDots") s := h.2.1.1 (RX5, 76, RX4, "faint", "I", "HeadDots") (List.mem_of_getElem? (i := 12) rfl)
theorem nf_13 {G : GT} {s : State} {H : Heap} (h : KN G s H) : va_Nw (.fieldLinkNest RX2 130 RX4 "hottest" "I" "HeadDots") s := h.2.1.1 (RX2, 130, RX4, "hottest", "I", "HeadDots") (List.mem_of_getElem? (i := 13) rfl)
theorem nf_14 {G : GT} {s : State} {H : Heap} (h : KN G s H) : va_Nw (.fieldLinkNest RX5 295 RX4 "hottest" "I" "HeadDots") s := h.2.1.1 (RX5, 295, RX4, "hottest", "I", "HeadDots") (List.mem_of_getElem? (i := 14) rfl)
theorem nf_15 {G : GT} {s : State} {H : Heap} (h : KN G s H) : va_Nw (.fieldLinkNest RX5 97 RX2 "strip" "LHeadDots$Strip;" "HeadDots") s := h.2.1.1 (RX5, 97, RX2, "strip", "LHeadDots$Strip;", "HeadDots") (List.mem_of_getElem? (i := 15) rfl)
theorem nf_16 {G : GT} {s : State} {H : Heap} (h : KN G s H) : va_Nw (.fieldLinkNest RX5 72 RX2 "totals" "LHeadDots$Totals;" "HeadDots") s := h.2.1.1 (RX5, 72, RX2, "totals", "LHeadDots$Totals;", "HeadDots") (List.mem_of_getElem? (i := 16) rfl)
theorem nf_17 {G : GT} {s : State} {H : Heap} (h : KN G s H) : va_Nw (.fieldLinkNest RX5 298 RX2 "paperKind" "I" "HeadDots") s := h.2.1.1 (RX5, 298, RX2, "paperKind", "I", "HeadDots") (List.mem_of_getElem? (i := 17) rfl)
theorem nf_18 {G : GT} {s : State} {H : Heap} (h : KN G s H) : va_Nw (.fieldLinkNest RX1 48 RX0 "length" "I" "HeadDots") s := h.2.1.1 (RX1, 48, RX0, "length", "I", "HeadDots") (List.mem_of_getElem? (i := 18) rfl)
theorem nf_19 {G : GT} {s : State} {H : Heap} (h : KN G s H) : va_Nw (.fieldLinkNest RX5 146 RX0 "length" "I" "HeadDots") s := h.2.1.1 (RX5, 146, RX0, "length", "I", "HeadDots") (List.mem_of_getElem? (i := 19) rfl)
theorem nf_20 {G : GT} {s : State} {H : Heap} (h : KN G s H) : va_Nw (.fieldLinkNest RX5 267 RX1 "kind" "I" "HeadDots") s := h.2.1.1 (RX5, 267, RX1, "kind", "I", "HeadDots") (List.mem_of_getElem? (i := 20) rfl)
theorem nf_21 {G : GT} {s : State} {H : Heap} (h : KN G s H) : va_Nw (.fieldLinkNest RX5 270 RX1 "dots" "I" "HeadDots") s := h.2.1.1 (RX5, 270, RX1, "dots", "I", "HeadDots") (List.mem_of_getElem? (i := 21) rfl)
theorem nf_22 {G : GT} {s : State} {H : Heap} (h : KN G s H) : va_Nw (.fieldLinkNest RX5 280 RX1 "paperKind" "I" "HeadDots") s := h.2.1.1 (RX5, 280, RX1, "paperKind", "I", "HeadDots") (List.mem_of_getElem? (i := 22) rfl)
theorem nf_23 {G : GT} {s : State} {H : Heap} (h : KN G s H) : va_Nw (.fieldLinkNest RX5 272 RX1 "number" "I" "HeadDots") s := h.2.1.1 (RX5, 272, RX1, "number", "I", "HeadDots") (List.mem_of_getElem? (i := 23) rfl)
theorem nf_24 {G : GT} {s : State} {H : Heap} (h : KN G s H) : va_Nw (.fieldLinkNest RX2 137 RX5 "PAPER_PULSE" "[I" "HeadDots") s := h.2.1.1 (RX2, 137, RX5, "PAPER_PULSE", "[I", "HeadDots") (List.mem_of_getElem? (i := 24) rfl)
theorem nf_25 {G : GT} {s : State} {H : Heap} (h : KN G s H) : va_Nw (.fieldLinkNest RX2 140 RX5 "PAPER_DARK" "[I" "HeadDots") s := h.2.1.1 (RX2, 140, RX5, "PAPER_DARK", "[I", "HeadDots") (List.mem_of_getElem? (i := 25) rfl)
theorem nf_26 {G : GT} {s : State} {H : Heap} (h : KN G s H) : va_Nw (.fieldLinkNest RX2 153 RX5 "SETTING_MOST" "[I" "HeadDots") s := h.2.1.1 (RX2, 153, RX5, "SETTING_MOST", "[I", "HeadDots") (List.mem_of_getElem? (i := 26) rfl)
theorem nf_27 {G : GT} {s : State} {H : Heap} (h : KN G s H) : va_Nw (.fieldLinkNest RX2 156 RX5 "SETTING_LEAST" "[I" "HeadDots") s := h.2.1.1 (RX2, 156, RX5, "SETTING_LEAST", "[I", "HeadDots") (List.mem_of_getElem? (i := 27) rfl)
theorem nm_0 {G : GT} {s : State} {H : Heap} (h : KN G s H) : va_Nw (.methodLinkNest RX2 24 yX5_copyRow "HeadDots") s := h.2.1.2 (RX2, 24, yX5_copyRow, "HeadDots") (List.mem_of_getElem? (i := 0) rfl)
theorem nm_1 {G : GT} {s : State} {H : Heap} (h : KN G s H) : va_Nw (.methodLinkNest RX0 23 yX5_at "HeadDots") s := h.2.1.2 (RX0, 23, yX5_at, "HeadDots") (List.mem_of_getElem? (i := 1) rfl)
theorem nm_2 {G : GT} {s : State} {H : Heap} (h : KN G s H) : va_Nw (.methodLinkNest RX1 124 yX5_isWithin "HeadDots") s := h.2.1.2 (RX1, 124, yX5_isWithin, "HeadDots") (List.mem_of_getElem? (i := 2) rfl)
theorem nm_3 {G : GT} {s : State} {H : Heap} (h : KN G s H) : va_Nw (.methodLinkNest RX3 25 yX5_copyRow "HeadDots") s := h.2.1.2 (RX3, 25, yX5_copyRow, "HeadDots") (List.mem_of_getElem? (i := 3) rfl)
theorem nm_4 {G : GT} {s : State} {H : Heap} (h : KN G s H) : va_Nw (.methodLinkNest RX4 40 yX5_copyRow "HeadDots") s := h.2.1.2 (RX4, 40, yX5_copyRow, "HeadDots") (List.mem_of_getElem? (i := 4) rfl)
theorem nm_5 {G : GT} {s : State} {H : Heap} (h : KN G s H) : va_Nw (.methodLinkNest RX2 59 yX5_at "HeadDots") s := h.2.1.2 (RX2, 59, yX5_at, "HeadDots") (List.mem_of_getElem? (i := 5) rfl)
theorem nm_6 {G : GT} {s : State} {H : Heap} (h : KN G s H) : va_Nw (.methodLinkNest RX2 124 yX5_bitOf "HeadDots") s := h.2.1.2 (RX2, 124, yX5_bitOf, "HeadDots") (List.mem_of_getElem? (i := 6) rfl)
theorem nm_7 {G : GT} {s : State} {H : Heap} (h : KN G s H) : va_Nw (.methodLinkNest RX3 43 yX5_at "HeadDots") s := h.2.1.2 (RX3, 43, yX5_at, "HeadDots") (List.mem_of_getElem? (i := 7) rfl)
theorem nm_8 {G : GT} {s : State} {H : Heap} (h : KN G s H) : va_Nw (.methodLinkNest RX3 54 yX5_bitOf "HeadDots") s := h.2.1.2 (RX3, 54, yX5_bitOf, "HeadDots") (List.mem_of_getElem? (i := 8) rfl)
theorem nm_9 {G : GT} {s : State} {H : Heap} (h : KN G s H) : va_Nw (.methodLinkNest RX2 63 yX5_put "HeadDots") s := h.2.1.2 (RX2, 63, yX5_put, "HeadDots") (List.mem_of_getElem? (i := 9) rfl)
theorem nm_10 {G : GT} {s : State} {H : Heap} (h : KN G s H) : va_Nw (.methodLinkNest RX3 39 yX5_put "HeadDots") s := h.2.1.2 (RX3, 39, yX5_put, "HeadDots") (List.mem_of_getElem? (i := 10) rfl)
theorem nm_11 {G : GT} {s : State} {H : Heap} (h : KN G s H) : va_Nw (.methodLinkNest RX4 54 yX5_bitOf "HeadDots") s := h.2.1.2 (RX4, 54, yX5_bitOf, "HeadDots") (List.mem_of_getElem? (i := 11) rfl)
theorem nm_12 {G : GT} {s : State} {H : Heap} (h : KN G s H) : va_Nw (.methodLinkNest RX0 17 yX5_put "HeadDots") s := h.2.1.2 (RX0, 17, yX5_put, "HeadDots") (List.mem_of_getElem? (i := 12) rfl)
theorem fwX0 : FW RX0 TX0 2 tyX0 := ⟨(show ∀ w ∈ u_ws RX0 TX0 2, w ∈ bigW from List.forall_mem_cons.mpr ⟨wd_155, List.forall_mem_cons.mpr ⟨wd_157, List.forall_mem_nil _⟩⟩), tyX0_ok, nmX0⟩
theorem fwX1 : FW RX1 TX1 10 tyX1 := ⟨(show ∀ w ∈ u_ws RX1 TX1 10, w ∈ bigW from List.forall_mem_cons.mpr ⟨wd_181, List.forall_mem_cons.mpr ⟨wd_183, List.forall_mem_cons.mpr ⟨wd_185, List.forall_mem_cons.mpr ⟨wd_187, List.forall_mem_cons.mpr ⟨wd_189, List.forall_mem_cons.mpr ⟨wd_191, List.forall_mem_cons.mpr ⟨wd_193, List.forall_mem_cons.mpr ⟨wd_195, List.forall_mem_cons.mpr ⟨wd_197, List.forall_mem_cons.mpr ⟨wd_199, List.forall_mem_nil _⟩⟩⟩⟩⟩⟩⟩⟩⟩⟩), tyX1_ok, nmX1⟩
theorem fwX2 : FW RX2 TX2 8 tyX2 := ⟨(show ∀ w ∈ u_ws RX2 TX2 8, w ∈ bigW from List.forall_mem_cons.mpr ⟨wd_127, List.forall_mem_cons.mpr ⟨wd_129, List.forall_mem_cons.mpr ⟨wd_131, List.forall_mem_cons.mpr ⟨wd_133, List.forall_mem_cons.mpr ⟨wd_135, List.forall_mem_cons.mpr ⟨wd_137, List.forall_mem_cons.mpr ⟨wd_139, List.forall_mem_cons.mpr ⟨wd_141, List.forall_mem_nil _⟩⟩⟩⟩⟩⟩⟩⟩), tyX2_ok, nmX2⟩
theorem fwX3 : FW RX3 TX3 4 tyX3 := ⟨(show ∀ w ∈ u_ws RX3 TX3 4, w ∈ bigW from List.forall_mem_cons.mpr ⟨wd_60, List.forall_mem_cons.mpr ⟨wd_62, List.forall_mem_cons.mpr ⟨wd_64, List.forall_mem_cons.mpr ⟨wd_66, List.forall_mem_nil _⟩⟩⟩⟩), tyX3_ok, nmX3⟩
theorem fwX4 : FW RX4 TX4 9 tyX4 := ⟨(show ∀ w ∈ u_ws RX4 TX4 9, w ∈ bigW from List.forall_mem_cons.mpr ⟨wd_97, List.forall_mem_cons.mpr ⟨wd_99, List.forall_mem_cons.mpr ⟨wd_101, List.forall_mem_cons.mpr ⟨wd_103, List.forall_mem_cons.mpr ⟨wd_105, List.forall_mem_cons.mpr ⟨wd_107, List.forall_mem_cons.mpr ⟨wd_109, List.forall_mem_cons.mpr ⟨wd_111, List.forall_mem_cons.mpr ⟨wd_113, List.forall_mem_nil _⟩⟩⟩⟩⟩⟩⟩⟩⟩), tyX4_ok, nmX4⟩
theorem fwX5 : FW RX5 TX5 8 tyX5 := ⟨(show ∀ w ∈ u_ws RX5 TX5 8, w ∈ bigW from List.forall_mem_cons.mpr ⟨wd_211, List.forall_mem_cons.mpr ⟨wd_213, List.forall_mem_cons.mpr ⟨wd_215, List.forall_mem_cons.mpr ⟨wd_217, List.forall_mem_cons.mpr ⟨wd_219, List.forall_mem_cons.mpr ⟨wd_221, List.forall_mem_cons.mpr ⟨wd_223, List.forall_mem_cons.mpr ⟨wd_225, List.forall_mem_nil _⟩⟩⟩⟩⟩⟩⟩⟩), tyX5_ok, nmX5⟩
theorem fwX6 : FW RX6 TX6 18 tyX6 := ⟨(show ∀ w ∈ u_ws RX6 TX6 18, w ∈ bigW from List.forall_mem_cons.mpr ⟨wd_905, List.forall_mem_cons.mpr ⟨wd_907, List.forall_mem_cons.mpr ⟨wd_909, List.forall_mem_cons.mpr ⟨wd_911, List.forall_mem_cons.mpr ⟨wd_913, List.forall_mem_cons.mpr ⟨wd_915, List.forall_mem_cons.mpr ⟨wd_917, List.forall_mem_cons.mpr ⟨wd_919, List.forall_mem_cons.mpr ⟨wd_921, List.forall_mem_cons.mpr ⟨wd_923, List.forall_mem_cons.mpr ⟨wd_925, List.forall_mem_cons.mpr ⟨wd_927, List.forall_mem_cons.mpr ⟨wd_929, List.forall_mem_cons.mpr ⟨wd_931, List.forall_mem_cons.mpr ⟨wd_933, List.forall_mem_cons.mpr ⟨wd_935, List.forall_mem_cons.mpr ⟨wd_937, List.forall_mem_cons.mpr ⟨wd_939, List.forall_mem_nil _⟩⟩⟩⟩⟩⟩⟩⟩⟩⟩⟩⟩⟩⟩⟩⟩⟩⟩), tyX6_ok, nmX6⟩
theorem mwX0_init : MW yX0_init cX0_init 1 none 0 := ⟨wd_149, wd_7, by decide, by decide, by decide +kernel⟩
theorem mwX0_isFull : MW yX0_isFull cX0_isFull 1 (some .boolean) 0 := ⟨wd_762, wd_7, by decide, by decide, by decide +kernel⟩
theorem mwX0_addCode : MW yX0_addCode cX0_addCode 2 none 1 := ⟨wd_782, wd_7, by decide, by decide, by decide +kernel⟩
theorem mwX0_codeAt : MW yX0_codeAt cX0_codeAt 2 (some .int) 1 := ⟨wd_247, wd_7, by decide, by decide, by decide +kernel⟩
theorem mwX1_init : MW yX1_init cX1_init 1 none 0 := ⟨wd_164, wd_8, by decide, by decide, by decide +kernel⟩
theorem mwX1_beginPart : MW yX1_beginPart cX1_beginPart 1 none 0 := ⟨wd_243, wd_8, by decide, by decide, by decide +kernel⟩
theorem mwX1_readUntilError : MW yX1_readUntilError cX1_readUntilError 3 (some .int) 1 := ⟨wd_239, wd_8, by decide, by decide, by decide +kernel⟩
theorem mwX1_isComplete : MW yX1_isComplete cX1_isComplete 1 (some .boolean) 0 := ⟨wd_262, wd_8, by decide, by decide, by decide +kernel⟩
theorem mwX1_take : MW yX1_take cX1_take 2 (some .boolean) 1 := ⟨wd_254, wd_8, by decide, by decide, by decide +kernel⟩
theorem mwX1_takeBetween : MW yX1_takeBetween cX1_takeBetween 1 (some .boolean) 0 := ⟨wd_258, wd_8, by decide, by decide, by decide +kernel⟩
theorem mwX1_takeFirst : MW yX1_takeFirst cX1_takeFirst 2 (some .boolean) 1 := ⟨wd_266, wd_8, by decide, by decide, by decide +kernel⟩
theorem mwX1_takeFirstOfPaper : MW yX1_takeFirstOfPaper cX1_takeFirstOfPaper 2 (some .boolean) 1 := ⟨wd_348, wd_8, by decide, by decide, by decide +kernel⟩
theorem mwX1_beginKind : MW yX1_beginKind cX1_beginKind 4 (some .boolean) 3 := ⟨wd_271, wd_8, by decide, by decide, by decide +kernel⟩
theorem mwX1_beginPaper : MW yX1_beginPaper cX1_beginPaper 3 (some .boolean) 2 := ⟨wd_353, wd_8, by decide, by decide, by decide +kernel⟩
theorem mwX1_beginWord : MW yX1_beginWord cX1_beginWord 3 (some .boolean) 2 := ⟨wd_275, wd_8, by decide, by decide, by decide +kernel⟩
theorem mwX1_takeOfWord : MW yX1_takeOfWord cX1_takeOfWord 2 (some .boolean) 1 := ⟨wd_282, wd_8, by decide, by decide, by decide +kernel⟩
theorem mwX1_takeOfDots : MW yX1_takeOfDots cX1_takeOfDots 3 (some .boolean) 1 := ⟨wd_334, wd_8, by decide, by decide, by decide +kernel⟩
theorem mwX1_takeStar : MW yX1_takeStar cX1_takeStar 2 (some .boolean) 1 := ⟨wd_338, wd_8, by decide, by decide, by decide +kernel⟩
theorem mwX1_takeDigit : MW yX1_takeDigit cX1_takeDigit 3 (some .boolean) 1 := ⟨wd_359, wd_8, by decide, by decide, by decide +kernel⟩
theorem mwX1_hexDigit : MW yX1_hexDigit cX1_hexDigit 1 (some .int) 1 := ⟨wd_341, wd_8, by decide, by decide, by decide +kernel⟩
theorem mwX2_init : MW yX2_init cX2_init 1 none 0 := ⟨wd_35, wd_2, by decide, by decide, by decide +kernel⟩
theorem mwX2_copyFrom : MW yX2_copyFrom cX2_copyFrom 2 none 1 := ⟨wd_367, wd_2, by decide, by decide, by decide +kernel⟩
theorem mwX2_setting : MW yX2_setting cX2_setting 2 (some .int) 1 := ⟨wd_418, wd_2, by decide, by decide, by decide +kernel⟩
theorem mwX2_changeSetting : MW yX2_changeSetting cX2_changeSetting 3 none 2 := ⟨wd_490, wd_2, by decide, by decide, by decide +kernel⟩
theorem mwX2_changePaper : MW yX2_changePaper cX2_changePaper 2 none 1 := ⟨wd_721, wd_2, by decide, by decide, by decide +kernel⟩
theorem mwX2_printLines : MW yX2_printLines cX2_printLines 4 none 2 := ⟨wd_699, wd_2, by decide, by decide, by decide +kernel⟩
theorem mwX2_printLine : MW yX2_printLine cX2_printLine 9 (some .int) 1 := ⟨wd_497, wd_2, by decide, by decide, by decide +kernel⟩
theorem mwX2_dotsAtOnce : MW yX2_dotsAtOnce cX2_dotsAtOnce 2 (some .int) 0 := ⟨wd_501, wd_2, by decide, by decide, by decide +kernel⟩
theorem mwX2_preparePulses : MW yX2_preparePulses cX2_preparePulses 4 none 1 := ⟨wd_511, wd_2, by decide, by decide, by decide +kernel⟩
theorem mwX2_dotsOfPart : MW yX2_dotsOfPart cX2_dotsOfPart 10 (some .int) 4 := ⟨wd_515, wd_2, by decide, by decide, by decide +kernel⟩
theorem mwX2_waitOfPart : MW yX2_waitOfPart cX2_waitOfPart 5 (some .int) 1 := ⟨wd_519, wd_2, by decide, by decide, by decide +kernel⟩
theorem mwX2_heatPart : MW yX2_heatPart cX2_heatPart 4 (some .int) 1 := ⟨wd_531, wd_2, by decide, by decide, by decide +kernel⟩
theorem mwX2_longestPulse : MW yX2_longestPulse cX2_longestPulse 4 (some .int) 1 := ⟨wd_541, wd_2, by decide, by decide, by decide +kernel⟩
theorem mwX2_pulseIn : MW yX2_pulseIn cX2_pulseIn 5 (some .int) 3 := ⟨wd_442, wd_2, by decide, by decide, by decide +kernel⟩
theorem mwX2_pulseAlone : MW yX2_pulseAlone cX2_pulseAlone 3 (some .int) 2 := ⟨wd_438, wd_2, by decide, by decide, by decide +kernel⟩
theorem mwX2_waitFor : MW yX2_waitFor cX2_waitFor 3 (some .int) 2 := ⟨wd_448, wd_2, by decide, by decide, by decide +kernel⟩
theorem mwX2_isDark : MW yX2_isDark cX2_isDark 2 (some .boolean) 1 := ⟨wd_535, wd_2, by decide, by decide, by decide +kernel⟩
theorem mwX2_passTime : MW yX2_passTime cX2_passTime 3 none 1 := ⟨wd_523, wd_2, by decide, by decide, by decide +kernel⟩
theorem mwX2_cooledFor : MW yX2_cooledFor cX2_cooledFor 6 (some .int) 2 := ⟨wd_527, wd_2, by decide, by decide, by decide +kernel⟩
theorem mwX2_timeDownTo : MW yX2_timeDownTo cX2_timeDownTo 6 (some .int) 2 := ⟨wd_452, wd_2, by decide, by decide, by decide +kernel⟩
theorem mwX2_cooled : MW yX2_cooled cX2_cooled 3 (some .int) 2 := ⟨wd_456, wd_2, by decide, by decide, by decide +kernel⟩
theorem mwX2_timeUntilCool : MW yX2_timeUntilCool cX2_timeUntilCool 2 (some .int) 1 := ⟨wd_572, wd_2, by decide, by decide, by decide +kernel⟩
theorem mwX2_hottestDot : MW yX2_hottestDot cX2_hottestDot 3 (some .int) 0 := ⟨wd_411, wd_2, by decide, by decide, by decide +kernel⟩
theorem mwX2_leastDarkSetting : MW yX2_leastDarkSetting cX2_leastDarkSetting 6 (some .int) 1 := ⟨wd_577, wd_2, by decide, by decide, by decide +kernel⟩
theorem mwX2_mean : MW yX2_mean cX2_mean 3 (some .float) 0 := ⟨wd_393, wd_2, by decide, by decide, by decide +kernel⟩
theorem mwX2_numberOfDot : MW yX2_numberOfDot cX2_numberOfDot 3 (some .int) 2 := ⟨wd_431, wd_2, by decide, by decide, by decide +kernel⟩
theorem mwX3_init : MW yX3_init cX3_init 1 none 0 := ⟨wd_52, wd_5, by decide, by decide, by decide +kernel⟩
theorem mwX3_copyFrom : MW yX3_copyFrom cX3_copyFrom 2 none 1 := ⟨wd_371, wd_5, by decide, by decide, by decide +kernel⟩
theorem mwX3_addLine : MW yX3_addLine cX3_addLine 4 none 3 := ⟨wd_545, wd_5, by decide, by decide, by decide +kernel⟩
theorem mwX3_pushFront : MW yX3_pushFront cX3_pushFront 3 none 2 := ⟨wd_548, wd_5, by decide, by decide, by decide +kernel⟩
theorem mwX3_numberOfLine : MW yX3_numberOfLine cX3_numberOfLine 3 (some .int) 2 := ⟨wd_464, wd_5, by decide, by decide, by decide +kernel⟩
theorem mwX3_textLength : MW yX3_textLength cX3_textLength 2 (some .int) 1 := ⟨wd_469, wd_5, by decide, by decide, by decide +kernel⟩
theorem mwX3_sign : MW yX3_sign cX3_sign 3 (some .int) 2 := ⟨wd_474, wd_5, by decide, by decide, by decide +kernel⟩
theorem mwX4_init : MW yX4_init cX4_init 1 none 0 := ⟨wd_74, wd_6, by decide, by decide, by decide +kernel⟩
theorem mwX4_copyFrom : MW yX4_copyFrom cX4_copyFrom 2 none 1 := ⟨wd_376, wd_6, by decide, by decide, by decide +kernel⟩
theorem mwX4_addLine : MW yX4_addLine cX4_addLine 4 none 3 := ⟨wd_554, wd_6, by decide, by decide, by decide +kernel⟩
theorem mwX4_addDots : MW yX4_addDots cX4_addDots 3 none 2 := ⟨wd_558, wd_6, by decide, by decide, by decide +kernel⟩
theorem mwX4_dotByDot : MW yX4_dotByDot cX4_dotByDot 3 (some .int) 0 := ⟨wd_407, wd_6, by decide, by decide, by decide +kernel⟩
theorem mwX4_darkShare : MW yX4_darkShare cX4_darkShare 1 (some .double) 0 := ⟨wd_385, wd_6, by decide, by decide, by decide +kernel⟩
theorem mwX5_init : MW yX5_init cX5_init 2 none 0 := ⟨wd_27, wd_1, by decide, by decide, by decide +kernel⟩
theorem mwX5_line : MW yX5_line cX5_line 2 (some .int) 1 := ⟨wd_604, wd_1, by decide, by decide, by decide +kernel⟩
theorem mwX5_lines : MW yX5_lines cX5_lines 4 (some .int) 2 := ⟨wd_694, wd_1, by decide, by decide, by decide +kernel⟩
theorem mwX5_rest : MW yX5_rest cX5_rest 2 (some .int) 1 := ⟨wd_707, wd_1, by decide, by decide, by decide +kernel⟩
theorem mwX5_paper : MW yX5_paper cX5_paper 3 (some .int) 1 := ⟨wd_716, wd_1, by decide, by decide, by decide +kernel⟩
theorem mwX5_set : MW yX5_set cX5_set 4 (some .int) 2 := ⟨wd_729, wd_1, by decide, by decide, by decide +kernel⟩
theorem mwX5_append : MW yX5_append cX5_append 2 (some .int) 1 := ⟨wd_757, wd_1, by decide, by decide, by decide +kernel⟩
theorem mwX5_clearBuffer : MW yX5_clearBuffer cX5_clearBuffer 2 (some .int) 0 := ⟨wd_231, wd_1, by decide, by decide, by decide +kernel⟩
theorem mwX5_firstError : MW yX5_firstError cX5_firstError 1 (some .int) 0 := ⟨wd_235, wd_1, by decide, by decide, by decide +kernel⟩
theorem mwX5_print : MW yX5_print cX5_print 4 (some .int) 0 := ⟨wd_790, wd_1, by decide, by decide, by decide +kernel⟩
theorem mwX5_told : MW yX5_told cX5_told 3 (some .int) 2 := ⟨wd_806, wd_1, by decide, by decide, by decide +kernel⟩
theorem mwX5_undo : MW yX5_undo cX5_undo 2 (some .int) 0 := ⟨wd_814, wd_1, by decide, by decide, by decide +kernel⟩
theorem mwX5_keep : MW yX5_keep cX5_keep 1 (some .int) 0 := ⟨wd_363, wd_1, by decide, by decide, by decide +kernel⟩
theorem mwX5_restore : MW yX5_restore cX5_restore 1 (some .int) 0 := ⟨wd_822, wd_1, by decide, by decide, by decide +kernel⟩
theorem mwX5_dot : MW yX5_dot cX5_dot 3 (some .int) 2 := ⟨wd_830, wd_1, by decide, by decide, by decide +kernel⟩
theorem mwX5_kept : MW yX5_kept cX5_kept 3 (some .int) 2 := ⟨wd_842, wd_1, by decide, by decide, by decide +kernel⟩
theorem mwX5_count : MW yX5_count cX5_count 2 (some .int) 1 := ⟨wd_850, wd_1, by decide, by decide, by decide +kernel⟩
theorem mwX5_ifPrinted : MW yX5_ifPrinted cX5_ifPrinted 3 (some .int) 2 := ⟨wd_857, wd_1, by decide, by decide, by decide +kernel⟩
theorem mwX5_betterWay : MW yX5_betterWay cX5_betterWay 2 (some .int) 1 := ⟨wd_865, wd_1, by decide, by decide, by decide +kernel⟩
theorem mwX5_coolIn : MW yX5_coolIn cX5_coolIn 2 (some .int) 1 := ⟨wd_872, wd_1, by decide, by decide, by decide +kernel⟩
theorem mwX5_darkFrom : MW yX5_darkFrom cX5_darkFrom 2 (some .int) 1 := ⟨wd_880, wd_1, by decide, by decide, by decide +kernel⟩
theorem mwX5_darkness : MW yX5_darkness cX5_darkness 1 (some .double) 0 := ⟨wd_381, wd_1, by decide, by decide, by decide +kernel⟩
theorem mwX5_meanHeat : MW yX5_meanHeat cX5_meanHeat 1 (some .float) 0 := ⟨wd_389, wd_1, by decide, by decide, by decide +kernel⟩
theorem mwX5_digest : MW yX5_digest cX5_digest 4 (some .long) 0 := ⟨wd_398, wd_1, by decide, by decide, by decide +kernel⟩
theorem mwX5_saveState : MW yX5_saveState cX5_saveState 2 none 0 := ⟨wd_679, wd_1, by decide, by decide, by decide +kernel⟩
theorem mwX5_dropOldest : MW yX5_dropOldest cX5_dropOldest 3 none 0 := ⟨wd_683, wd_1, by decide, by decide, by decide +kernel⟩
theorem mwX5_savedAt : MW yX5_savedAt cX5_savedAt 2 (some (.object "HeadDots$State")) 1 := ⟨wd_687, wd_1, by decide, by decide, by decide +kernel⟩
theorem mwX5_printPartOfText : MW yX5_printPartOfText cX5_printPartOfText 1 none 0 := ⟨wd_797, wd_1, by decide, by decide, by decide +kernel⟩
theorem mwX5_counted : MW yX5_counted cX5_counted 3 (some .int) 1 := ⟨wd_403, wd_1, by decide, by decide, by decide +kernel⟩
theorem mwX5_tryLine : MW yX5_tryLine cX5_tryLine 3 none 2 := ⟨wd_486, wd_1, by decide, by decide, by decide +kernel⟩
theorem mwX5_tried : MW yX5_tried cX5_tried 3 (some .int) 1 := ⟨wd_563, wd_1, by decide, by decide, by decide +kernel⟩
theorem mwX5_fasterWay : MW yX5_fasterWay cX5_fasterWay 3 (some .int) 1 := ⟨wd_568, wd_1, by decide, by decide, by decide +kernel⟩
theorem mwX5_mixedDots : MW yX5_mixedDots cX5_mixedDots 7 (some .long) 1 := ⟨wd_427, wd_1, by decide, by decide, by decide +kernel⟩
theorem mwX5_mixedStrip : MW yX5_mixedStrip cX5_mixedStrip 9 (some .long) 1 := ⟨wd_460, wd_1, by decide, by decide, by decide +kernel⟩
theorem mwX5_mixedTrials : MW yX5_mixedTrials cX5_mixedTrials 7 (some .long) 1 := ⟨wd_480, wd_1, by decide, by decide, by decide +kernel⟩
theorem mwX5_mixedBuffer : MW yX5_mixedBuffer cX5_mixedBuffer 6 (some .long) 1 := ⟨wd_595, wd_1, by decide, by decide, by decide +kernel⟩
theorem mwX5_mixed : MW yX5_mixed cX5_mixed 4 (some .long) 2 := ⟨wd_422, wd_1, by decide, by decide, by decide +kernel⟩
theorem mwX5_bitsOfDouble : MW yX5_bitsOfDouble cX5_bitsOfDouble 7 (some .long) 1 := ⟨wd_584, wd_1, by decide, by decide, by decide +kernel⟩
theorem mwX5_bitsOfFloat : MW yX5_bitsOfFloat cX5_bitsOfFloat 4 (some .int) 1 := ⟨wd_590, wd_1, by decide, by decide, by decide +kernel⟩
theorem mwX5_isWithin : MW yX5_isWithin cX5_isWithin 3 (some .boolean) 3 := ⟨wd_344, wd_1, by decide, by decide, by decide +kernel⟩
theorem mwX5_isLine : MW yX5_isLine cX5_isLine 1 (some .boolean) 1 := ⟨wd_607, wd_1, by decide, by decide, by decide +kernel⟩
theorem mwX5_isDot : MW yX5_isDot cX5_isDot 1 (some .boolean) 1 := ⟨wd_833, wd_1, by decide, by decide, by decide +kernel⟩
theorem mwX5_bitOf : MW yX5_bitOf cX5_bitOf 2 (some .int) 2 := ⟨wd_434, wd_1, by decide, by decide, by decide +kernel⟩
theorem mwX5_at : MW yX5_at cX5_at 2 (some .int) 2 := ⟨wd_250, wd_1, by decide, by decide, by decide +kernel⟩
theorem mwX5_put : MW yX5_put cX5_put 3 none 3 := ⟨wd_493, wd_1, by decide, by decide, by decide +kernel⟩
theorem mwX5_copyRow : MW yX5_copyRow cX5_copyRow 2 none 2 := ⟨wd_41, wd_1, by decide, by decide, by decide +kernel⟩
theorem mwX6_init : MW yX6_init cX6_init 1 none 0 := ⟨wd_885, wd_9, by decide, by decide, by decide +kernel⟩
theorem mwX6_thrown : MW yX6_thrown cX6_thrown 1 (some .int) 0 := ⟨wd_945, wd_9, by decide, by decide, by decide +kernel⟩
theorem mwX6_fails : MW yX6_fails cX6_fails 2 (some .int) 1 := ⟨wd_953, wd_9, by decide, by decide, by decide +kernel⟩
theorem mwX6_in : MW yX6_in cX6_in 3 (some .boolean) 3 := ⟨wd_976, wd_9, by decide, by decide, by decide +kernel⟩
theorem mwX6_isLine : MW yX6_isLine cX6_isLine 1 (some .boolean) 1 := ⟨wd_972, wd_9, by decide, by decide, by decide +kernel⟩
theorem mwX6_save : MW yX6_save cX6_save 2 none 0 := ⟨wd_965, wd_9, by decide, by decide, by decide +kernel⟩
theorem mwX6_putAside : MW yX6_putAside cX6_putAside 2 none 0 := ⟨wd_1165, wd_9, by decide, by decide, by decide +kernel⟩
theorem mwX6_putBack : MW yX6_putBack cX6_putBack 2 none 0 := ⟨wd_1169, wd_9, by decide, by decide, by decide +kernel⟩
theorem mwX6_undo : MW yX6_undo cX6_undo 2 (some .int) 0 := ⟨wd_949, wd_9, by decide, by decide, by decide +kernel⟩
theorem mwX6_keep : MW yX6_keep cX6_keep 2 (some .int) 0 := ⟨wd_957, wd_9, by decide, by decide, by decide +kernel⟩
theorem mwX6_restore : MW yX6_restore cX6_restore 2 (some .int) 0 := ⟨wd_961, wd_9, by decide, by decide, by decide +kernel⟩
theorem mwX6_cooled : MW yX6_cooled cX6_cooled 3 (some .int) 1 := ⟨wd_1018, wd_9, by decide, by decide, by decide +kernel⟩
theorem mwX6_pass : MW yX6_pass cX6_pass 4 none 1 := ⟨wd_1014, wd_9, by decide, by decide, by decide +kernel⟩
theorem mwX6_bit : MW yX6_bit cX6_bit 2 (some .int) 2 := ⟨wd_998, wd_9, by decide, by decide, by decide +kernel⟩
theorem mwX6_pulseBy : MW yX6_pulseBy cX6_pulseBy 6 (some .int) 3 := ⟨wd_1010, wd_9, by decide, by decide, by decide +kernel⟩
theorem mwX6_pulse : MW yX6_pulse cX6_pulse 3 (some .int) 2 := ⟨wd_1006, wd_9, by decide, by decide, by decide +kernel⟩
theorem mwX6_darkHeat : MW yX6_darkHeat cX6_darkHeat 1 (some .int) 0 := ⟨wd_1026, wd_9, by decide, by decide, by decide +kernel⟩
theorem mwX6_ones : MW yX6_ones cX6_ones 3 (some .int) 1 := ⟨wd_987, wd_9, by decide, by decide, by decide +kernel⟩
theorem mwX6_atOnce : MW yX6_atOnce cX6_atOnce 2 (some .int) 0 := ⟨wd_991, wd_9, by decide, by decide, by decide +kernel⟩
theorem mwX6_partsOf : MW yX6_partsOf cX6_partsOf 2 (some .int) 1 := ⟨wd_984, wd_9, by decide, by decide, by decide +kernel⟩
theorem mwX6_dotsOfPart : MW yX6_dotsOfPart cX6_dotsOfPart 8 (some .int) 2 := ⟨wd_995, wd_9, by decide, by decide, by decide +kernel⟩
theorem mwX6_isCool : MW yX6_isCool cX6_isCool 5 (some .boolean) 2 := ⟨wd_1002, wd_9, by decide, by decide, by decide +kernel⟩
theorem mwX6_printPart : MW yX6_printPart cX6_printPart 7 (some .int) 2 := ⟨wd_1022, wd_9, by decide, by decide, by decide +kernel⟩
theorem mwX6_keepLine : MW yX6_keepLine cX6_keepLine 4 none 2 := ⟨wd_1030, wd_9, by decide, by decide, by decide +kernel⟩
theorem mwX6_printLine : MW yX6_printLine cX6_printLine 6 (some .int) 1 := ⟨wd_980, wd_9, by decide, by decide, by decide +kernel⟩
theorem mwX6_sum : MW yX6_sum cX6_sum 4 (some .int) 1 := ⟨wd_1042, wd_9, by decide, by decide, by decide +kernel⟩
theorem mwX6_hottestNow : MW yX6_hottestNow cX6_hottestNow 3 (some .int) 0 := ⟨wd_1050, wd_9, by decide, by decide, by decide +kernel⟩
theorem mwX6_line : MW yX6_line cX6_line 2 (some .int) 1 := ⟨wd_969, wd_9, by decide, by decide, by decide +kernel⟩
theorem mwX6_printSome : MW yX6_printSome cX6_printSome 6 (some .int) 2 := ⟨wd_1038, wd_9, by decide, by decide, by decide +kernel⟩
theorem mwX6_lines : MW yX6_lines cX6_lines 3 (some .int) 2 := ⟨wd_1034, wd_9, by decide, by decide, by decide +kernel⟩
theorem mwX6_rest : MW yX6_rest cX6_rest 2 (some .int) 1 := ⟨wd_1046, wd_9, by decide, by decide, by decide +kernel⟩
theorem mwX6_paperNow : MW yX6_paperNow cX6_paperNow 4 (some .int) 1 := ⟨wd_1058, wd_9, by decide, by decide, by decide +kernel⟩
theorem mwX6_paper : MW yX6_paper cX6_paper 2 (some .int) 1 := ⟨wd_1054, wd_9, by decide, by decide, by decide +kernel⟩
theorem mwX6_maySet : MW yX6_maySet cX6_maySet 2 (some .boolean) 2 := ⟨wd_1065, wd_9, by decide, by decide, by decide +kernel⟩
theorem mwX6_set : MW yX6_set cX6_set 4 (some .int) 2 := ⟨wd_1062, wd_9, by decide, by decide, by decide +kernel⟩
theorem mwX6_append : MW yX6_append cX6_append 2 (some .int) 1 := ⟨wd_1069, wd_9, by decide, by decide, by decide +kernel⟩
theorem mwX6_clearBuffer : MW yX6_clearBuffer cX6_clearBuffer 2 (some .int) 0 := ⟨wd_1073, wd_9, by decide, by decide, by decide +kernel⟩
theorem mwX6_sign : MW yX6_sign cX6_sign 1 (some .int) 0 := ⟨wd_1093, wd_9, by decide, by decide, by decide +kernel⟩
theorem mwX6_takes : MW yX6_takes cX6_takes 3 (some .boolean) 1 := ⟨wd_1089, wd_9, by decide, by decide, by decide +kernel⟩
theorem mwX6_takesFour : MW yX6_takesFour cX6_takesFour 5 (some .boolean) 4 := ⟨wd_1097, wd_9, by decide, by decide, by decide +kernel⟩
theorem mwX6_addPart : MW yX6_addPart cX6_addPart 4 (some .boolean) 3 := ⟨wd_1109, wd_9, by decide, by decide, by decide +kernel⟩
theorem mwX6_readNumber : MW yX6_readNumber cX6_readNumber 3 (some .int) 1 := ⟨wd_1105, wd_9, by decide, by decide, by decide +kernel⟩
theorem mwX6_readLine : MW yX6_readLine cX6_readLine 4 (some .boolean) 0 := ⟨wd_1101, wd_9, by decide, by decide, by decide +kernel⟩
theorem mwX6_readPaper : MW yX6_readPaper cX6_readPaper 1 (some .boolean) 0 := ⟨wd_1113, wd_9, by decide, by decide, by decide +kernel⟩
theorem mwX6_readRest : MW yX6_readRest cX6_readRest 2 (some .boolean) 0 := ⟨wd_1117, wd_9, by decide, by decide, by decide +kernel⟩
theorem mwX6_readPart : MW yX6_readPart cX6_readPart 1 (some .boolean) 0 := ⟨wd_1085, wd_9, by decide, by decide, by decide +kernel⟩
theorem mwX6_arePrints : MW yX6_arePrints cX6_arePrints 2 (some .boolean) 0 := ⟨wd_1081, wd_9, by decide, by decide, by decide +kernel⟩
theorem mwX6_firstError : MW yX6_firstError cX6_firstError 1 (some .int) 0 := ⟨wd_1077, wd_9, by decide, by decide, by decide +kernel⟩
theorem mwX6_print : MW yX6_print cX6_print 4 (some .int) 0 := ⟨wd_1121, wd_9, by decide, by decide, by decide +kernel⟩
theorem mwX6_toldAt : MW yX6_toldAt cX6_toldAt 4 (some .int) 2 := ⟨wd_1129, wd_9, by decide, by decide, by decide +kernel⟩
theorem mwX6_told : MW yX6_told cX6_told 3 (some .int) 2 := ⟨wd_1125, wd_9, by decide, by decide, by decide +kernel⟩
theorem mwX6_waitOf : MW yX6_waitOf cX6_waitOf 4 (some .int) 1 := ⟨wd_1141, wd_9, by decide, by decide, by decide +kernel⟩
theorem mwX6_ofDot : MW yX6_ofDot cX6_ofDot 3 (some .int) 2 := ⟨wd_1137, wd_9, by decide, by decide, by decide +kernel⟩
theorem mwX6_dot : MW yX6_dot cX6_dot 3 (some .int) 2 := ⟨wd_1133, wd_9, by decide, by decide, by decide +kernel⟩
theorem mwX6_kept : MW yX6_kept cX6_kept 3 (some .int) 2 := ⟨wd_1145, wd_9, by decide, by decide, by decide +kernel⟩
theorem mwX6_number : MW yX6_number cX6_number 2 (some .int) 1 := ⟨wd_1153, wd_9, by decide, by decide, by decide +kernel⟩
theorem mwX6_count : MW yX6_count cX6_count 2 (some .int) 1 := ⟨wd_1149, wd_9, by decide, by decide, by decide +kernel⟩
theorem mwX6_wouldBring : MW yX6_wouldBring cX6_wouldBring 7 (some .int) 2 := ⟨wd_1161, wd_9, by decide, by decide, by decide +kernel⟩
theorem mwX6_ifPrinted : MW yX6_ifPrinted cX6_ifPrinted 3 (some .int) 2 := ⟨wd_1157, wd_9, by decide, by decide, by decide +kernel⟩
theorem mwX6_better : MW yX6_better cX6_better 5 (some .int) 1 := ⟨wd_1177, wd_9, by decide, by decide, by decide +kernel⟩
theorem mwX6_betterWay : MW yX6_betterWay cX6_betterWay 2 (some .int) 1 := ⟨wd_1173, wd_9, by decide, by decide, by decide +kernel⟩
theorem mwX6_timeToCool : MW yX6_timeToCool cX6_timeToCool 4 (some .int) 1 := ⟨wd_1185, wd_9, by decide, by decide, by decide +kernel⟩
theorem mwX6_coolIn : MW yX6_coolIn cX6_coolIn 2 (some .int) 1 := ⟨wd_1181, wd_9, by decide, by decide, by decide +kernel⟩
theorem mwX6_isDarkBy : MW yX6_isDarkBy cX6_isDarkBy 5 (some .boolean) 2 := ⟨wd_1197, wd_9, by decide, by decide, by decide +kernel⟩
theorem mwX6_leastDark : MW yX6_leastDark cX6_leastDark 4 (some .int) 1 := ⟨wd_1193, wd_9, by decide, by decide, by decide +kernel⟩
theorem mwX6_darkFrom : MW yX6_darkFrom cX6_darkFrom 2 (some .int) 1 := ⟨wd_1189, wd_9, by decide, by decide, by decide +kernel⟩
theorem mwX6_share : MW yX6_share cX6_share 2 (some .double) 0 := ⟨wd_1205, wd_9, by decide, by decide, by decide +kernel⟩
theorem mwX6_darkness : MW yX6_darkness cX6_darkness 1 (some .double) 0 := ⟨wd_1201, wd_9, by decide, by decide, by decide +kernel⟩
theorem mwX6_mean : MW yX6_mean cX6_mean 1 (some .float) 0 := ⟨wd_1213, wd_9, by decide, by decide, by decide +kernel⟩
theorem mwX6_meanHeat : MW yX6_meanHeat cX6_meanHeat 1 (some .float) 0 := ⟨wd_1209, wd_9, by decide, by decide, by decide +kernel⟩
theorem mwX6_mix : MW yX6_mix cX6_mix 3 none 1 := ⟨wd_1223, wd_9, by decide, by decide, by decide +kernel⟩
theorem mwX6_mixStrip : MW yX6_mixStrip cX6_mixStrip 3 none 0 := ⟨wd_1228, wd_9, by decide, by decide, by decide +kernel⟩
theorem mwX6_digest : MW yX6_digest cX6_digest 2 (some .long) 0 := ⟨wd_1218, wd_9, by decide, by decide, by decide +kernel⟩
theorem mwJ6_bitCount_0f7a4 : MW yJ6_bitCount_0f7a4 cJ6_bitCount_0f7a4 1 (some .int) 1 := ⟨wd_504, wd_14, by decide, by decide, by decide +kernel⟩
theorem iwX0_isFull : IW yX0_isFull := ⟨wd_760, wd_761⟩
theorem iwX0_addCode : IW yX0_addCode := ⟨wd_780, wd_781⟩
theorem iwX0_codeAt : IW yX0_codeAt := ⟨wd_245, wd_246⟩
theorem iwX1_beginPart : IW yX1_beginPart := ⟨wd_241, wd_242⟩
theorem iwX1_readUntilError : IW yX1_readUntilError := ⟨wd_237, wd_238⟩
theorem iwX1_isComplete : IW yX1_isComplete := ⟨wd_260, wd_261⟩
theorem iwX1_take : IW yX1_take := ⟨wd_252, wd_253⟩
theorem iwX1_takeBetween : IW yX1_takeBetween := ⟨wd_257, bws 0 (by decide +kernel) (by decide +kernel)⟩
theorem iwX1_takeFirst : IW yX1_takeFirst := ⟨wd_265, bws 1 (by decide +kernel) (by decide +kernel)⟩
theorem iwX1_takeFirstOfPaper : IW yX1_takeFirstOfPaper := ⟨wd_347, bws 7 (by decide +kernel) (by decide +kernel)⟩
theorem iwX1_beginKind : IW yX1_beginKind := ⟨wd_270, bws 2 (by decide +kernel) (by decide +kernel)⟩
theorem iwX1_beginPaper : IW yX1_beginPaper := ⟨wd_352, bws 8 (by decide +kernel) (by decide +kernel)⟩
theorem iwX1_beginWord : IW yX1_beginWord := ⟨wd_274, bws 3 (by decide +kernel) (by decide +kernel)⟩
theorem iwX1_takeOfWord : IW yX1_takeOfWord := ⟨wd_281, bws 4 (by decide +kernel) (by decide +kernel)⟩
theorem iwX1_takeOfDots : IW yX1_takeOfDots := ⟨wd_333, bws 5 (by decide +kernel) (by decide +kernel)⟩
theorem iwX1_takeStar : IW yX1_takeStar := ⟨wd_337, bws 6 (by decide +kernel) (by decide +kernel)⟩
theorem iwX1_takeDigit : IW yX1_takeDigit := ⟨wd_358, bws 9 (by decide +kernel) (by decide +kernel)⟩
theorem iwX2_copyFrom : IW yX2_copyFrom := ⟨wd_365, wd_366⟩
theorem iwX2_setting : IW yX2_setting := ⟨wd_416, wd_417⟩
theorem iwX2_changeSetting : IW yX2_changeSetting := ⟨wd_488, wd_489⟩
theorem iwX2_changePaper : IW yX2_changePaper := ⟨wd_719, wd_720⟩
theorem iwX2_printLines : IW yX2_printLines := ⟨wd_697, wd_698⟩
theorem iwX2_printLine : IW yX2_printLine := ⟨wd_495, wd_496⟩
theorem iwX2_dotsAtOnce : IW yX2_dotsAtOnce := ⟨wd_500, bws 19 (by decide +kernel) (by decide +kernel)⟩
theorem iwX2_preparePulses : IW yX2_preparePulses := ⟨wd_510, bws 20 (by decide +kernel) (by decide +kernel)⟩
theorem iwX2_dotsOfPart : IW yX2_dotsOfPart := ⟨wd_514, bws 21 (by decide +kernel) (by decide +kernel)⟩
theorem iwX2_waitOfPart : IW yX2_waitOfPart := ⟨wd_518, bws 22 (by decide +kernel) (by decide +kernel)⟩
theorem iwX2_heatPart : IW yX2_heatPart := ⟨wd_530, bws 24 (by decide +kernel) (by decide +kernel)⟩
theorem iwX2_longestPulse : IW yX2_longestPulse := ⟨wd_540, bws 26 (by decide +kernel) (by decide +kernel)⟩
theorem iwX2_pulseIn : IW yX2_pulseIn := ⟨wd_441, bws 13 (by decide +kernel) (by decide +kernel)⟩
theorem iwX2_pulseAlone : IW yX2_pulseAlone := ⟨wd_437, bws 12 (by decide +kernel) (by decide +kernel)⟩
theorem iwX2_waitFor : IW yX2_waitFor := ⟨wd_447, bws 14 (by decide +kernel) (by decide +kernel)⟩
theorem iwX2_isDark : IW yX2_isDark := ⟨wd_534, bws 25 (by decide +kernel) (by decide +kernel)⟩
theorem iwX2_passTime : IW yX2_passTime := ⟨wd_521, wd_522⟩
theorem iwX2_cooledFor : IW yX2_cooledFor := ⟨wd_526, bws 23 (by decide +kernel) (by decide +kernel)⟩
theorem iwX2_timeDownTo : IW yX2_timeDownTo := ⟨wd_451, bws 15 (by decide +kernel) (by decide +kernel)⟩
theorem iwX2_timeUntilCool : IW yX2_timeUntilCool := ⟨wd_570, wd_571⟩
theorem iwX2_hottestDot : IW yX2_hottestDot := ⟨wd_409, wd_410⟩
theorem iwX2_leastDarkSetting : IW yX2_leastDarkSetting := ⟨wd_575, wd_576⟩
theorem iwX2_mean : IW yX2_mean := ⟨wd_391, wd_392⟩
theorem iwX2_numberOfDot : IW yX2_numberOfDot := ⟨wd_429, wd_430⟩
theorem iwX3_copyFrom : IW yX3_copyFrom := ⟨wd_369, wd_370⟩
theorem iwX3_addLine : IW yX3_addLine := ⟨wd_543, wd_544⟩
theorem iwX3_numberOfLine : IW yX3_numberOfLine := ⟨wd_462, wd_463⟩
theorem iwX3_textLength : IW yX3_textLength := ⟨wd_467, wd_468⟩
theorem iwX3_sign : IW yX3_sign := ⟨wd_472, wd_473⟩
theorem iwX4_copyFrom : IW yX4_copyFrom := ⟨wd_374, wd_375⟩
theorem iwX4_addLine : IW yX4_addLine := ⟨wd_552, wd_553⟩
theorem iwX4_dotByDot : IW yX4_dotByDot := ⟨wd_405, wd_406⟩
theorem iwX4_darkShare : IW yX4_darkShare := ⟨wd_383, wd_384⟩
theorem iwX5_line : IW yX5_line := ⟨wd_602, wd_603⟩
theorem iwX5_lines : IW yX5_lines := ⟨wd_692, wd_693⟩
theorem iwX5_rest : IW yX5_rest := ⟨wd_705, wd_706⟩
theorem iwX5_paper : IW yX5_paper := ⟨wd_714, wd_715⟩
theorem iwX5_set : IW yX5_set := ⟨wd_727, wd_728⟩
theorem iwX5_append : IW yX5_append := ⟨wd_755, wd_756⟩
theorem iwX5_clearBuffer : IW yX5_clearBuffer := ⟨wd_229, wd_230⟩
theorem iwX5_firstError : IW yX5_firstError := ⟨wd_233, wd_234⟩
theorem iwX5_print : IW yX5_print := ⟨wd_788, wd_789⟩
theorem iwX5_told : IW yX5_told := ⟨wd_804, wd_805⟩
theorem iwX5_undo : IW yX5_undo := ⟨wd_812, wd_813⟩
theorem iwX5_keep : IW yX5_keep := ⟨wd_361, wd_362⟩
theorem iwX5_restore : IW yX5_restore := ⟨wd_820, wd_821⟩
theorem iwX5_dot : IW yX5_dot := ⟨wd_828, wd_829⟩
theorem iwX5_kept : IW yX5_kept := ⟨wd_840, wd_841⟩
theorem iwX5_count : IW yX5_count := ⟨wd_848, wd_849⟩
theorem iwX5_ifPrinted : IW yX5_ifPrinted := ⟨wd_855, wd_856⟩
theorem iwX5_betterWay : IW yX5_betterWay := ⟨wd_863, wd_864⟩
theorem iwX5_coolIn : IW yX5_coolIn := ⟨wd_870, wd_871⟩
theorem iwX5_darkFrom : IW yX5_darkFrom := ⟨wd_878, wd_879⟩
theorem iwX5_darkness : IW yX5_darkness := ⟨wd_379, wd_380⟩
theorem iwX5_meanHeat : IW yX5_meanHeat := ⟨wd_387, wd_388⟩
theorem iwX5_digest : IW yX5_digest := ⟨wd_396, wd_397⟩
theorem iwX5_saveState : IW yX5_saveState := ⟨wd_678, bws 31 (by decide +kernel) (by decide +kernel)⟩
theorem iwX5_dropOldest : IW yX5_dropOldest := ⟨wd_682, bws 32 (by decide +kernel) (by decide +kernel)⟩
theorem iwX5_savedAt : IW yX5_savedAt := ⟨wd_686, bws 33 (by decide +kernel) (by decide +kernel)⟩
theorem iwX5_printPartOfText : IW yX5_printPartOfText := ⟨wd_796, bws 34 (by decide +kernel) (by decide +kernel)⟩
theorem iwX5_counted : IW yX5_counted := ⟨wd_402, bws 10 (by decide +kernel) (by decide +kernel)⟩
theorem iwX5_tryLine : IW yX5_tryLine := ⟨wd_485, bws 18 (by decide +kernel) (by decide +kernel)⟩
theorem iwX5_tried : IW yX5_tried := ⟨wd_562, bws 27 (by decide +kernel) (by decide +kernel)⟩
theorem iwX5_fasterWay : IW yX5_fasterWay := ⟨wd_567, bws 28 (by decide +kernel) (by decide +kernel)⟩
theorem iwX5_mixedDots : IW yX5_mixedDots := ⟨wd_426, bws 11 (by decide +kernel) (by decide +kernel)⟩
theorem iwX5_mixedStrip : IW yX5_mixedStrip := ⟨wd_459, bws 16 (by decide +kernel) (by decide +kernel)⟩
theorem iwX5_mixedTrials : IW yX5_mixedTrials := ⟨wd_479, bws 17 (by decide +kernel) (by decide +kernel)⟩
theorem iwX5_mixedBuffer : IW yX5_mixedBuffer := ⟨wd_594, bws 29 (by decide +kernel) (by decide +kernel)⟩
theorem iwX6_thrown : IW yX6_thrown := ⟨wd_943, wd_944⟩
theorem iwX6_fails : IW yX6_fails := ⟨wd_952, bws 35 (by decide +kernel) (by decide +kernel)⟩
theorem iwX6_save : IW yX6_save := ⟨wd_964, bws 36 (by decide +kernel) (by decide +kernel)⟩
theorem iwX6_putAside : IW yX6_putAside := ⟨wd_1164, bws 68 (by decide +kernel) (by decide +kernel)⟩
theorem iwX6_putBack : IW yX6_putBack := ⟨wd_1168, bws 69 (by decide +kernel) (by decide +kernel)⟩
theorem iwX6_undo : IW yX6_undo := ⟨wd_947, wd_948⟩
theorem iwX6_keep : IW yX6_keep := ⟨wd_955, wd_956⟩
theorem iwX6_restore : IW yX6_restore := ⟨wd_959, wd_960⟩
theorem iwX6_cooled : IW yX6_cooled := ⟨wd_1017, bws 45 (by decide +kernel) (by decide +kernel)⟩
theorem iwX6_pass : IW yX6_pass := ⟨wd_1013, bws 44 (by decide +kernel) (by decide +kernel)⟩
theorem iwX6_pulseBy : IW yX6_pulseBy := ⟨wd_1009, bws 43 (by decide +kernel) (by decide +kernel)⟩
theorem iwX6_pulse : IW yX6_pulse := ⟨wd_1005, bws 42 (by decide +kernel) (by decide +kernel)⟩
theorem iwX6_darkHeat : IW yX6_darkHeat := ⟨wd_1025, bws 47 (by decide +kernel) (by decide +kernel)⟩
theorem iwX6_atOnce : IW yX6_atOnce := ⟨wd_990, bws 39 (by decide +kernel) (by decide +kernel)⟩
theorem iwX6_partsOf : IW yX6_partsOf := ⟨wd_983, bws 38 (by decide +kernel) (by decide +kernel)⟩
theorem iwX6_dotsOfPart : IW yX6_dotsOfPart := ⟨wd_994, bws 40 (by decide +kernel) (by decide +kernel)⟩
theorem iwX6_isCool : IW yX6_isCool := ⟨wd_1001, bws 41 (by decide +kernel) (by decide +kernel)⟩
theorem iwX6_printPart : IW yX6_printPart := ⟨wd_1021, bws 46 (by decide +kernel) (by decide +kernel)⟩
theorem iwX6_keepLine : IW yX6_keepLine := ⟨wd_1029, bws 48 (by decide +kernel) (by decide +kernel)⟩
theorem iwX6_printLine : IW yX6_printLine := ⟨wd_979, bws 37 (by decide +kernel) (by decide +kernel)⟩
theorem iwX6_sum : IW yX6_sum := ⟨wd_1041, bws 50 (by decide +kernel) (by decide +kernel)⟩
theorem iwX6_hottestNow : IW yX6_hottestNow := ⟨wd_1049, bws 51 (by decide +kernel) (by decide +kernel)⟩
theorem iwX6_line : IW yX6_line := ⟨wd_967, wd_968⟩
theorem iwX6_printSome : IW yX6_printSome := ⟨wd_1037, bws 49 (by decide +kernel) (by decide +kernel)⟩
theorem iwX6_lines : IW yX6_lines := ⟨wd_1032, wd_1033⟩
theorem iwX6_rest : IW yX6_rest := ⟨wd_1044, wd_1045⟩
theorem iwX6_paperNow : IW yX6_paperNow := ⟨wd_1057, bws 52 (by decide +kernel) (by decide +kernel)⟩
theorem iwX6_paper : IW yX6_paper := ⟨wd_1052, wd_1053⟩
theorem iwX6_set : IW yX6_set := ⟨wd_1060, wd_1061⟩
theorem iwX6_append : IW yX6_append := ⟨wd_1067, wd_1068⟩
theorem iwX6_clearBuffer : IW yX6_clearBuffer := ⟨wd_1071, wd_1072⟩
theorem iwX6_sign : IW yX6_sign := ⟨wd_1092, bws 56 (by decide +kernel) (by decide +kernel)⟩
theorem iwX6_takes : IW yX6_takes := ⟨wd_1088, bws 55 (by decide +kernel) (by decide +kernel)⟩
theorem iwX6_takesFour : IW yX6_takesFour := ⟨wd_1096, bws 57 (by decide +kernel) (by decide +kernel)⟩
theorem iwX6_addPart : IW yX6_addPart := ⟨wd_1108, bws 60 (by decide +kernel) (by decide +kernel)⟩
theorem iwX6_readNumber : IW yX6_readNumber := ⟨wd_1104, bws 59 (by decide +kernel) (by decide +kernel)⟩
theorem iwX6_readLine : IW yX6_readLine := ⟨wd_1100, bws 58 (by decide +kernel) (by decide +kernel)⟩
theorem iwX6_readPaper : IW yX6_readPaper := ⟨wd_1112, bws 61 (by decide +kernel) (by decide +kernel)⟩
theorem iwX6_readRest : IW yX6_readRest := ⟨wd_1116, bws 62 (by decide +kernel) (by decide +kernel)⟩
theorem iwX6_readPart : IW yX6_readPart := ⟨wd_1084, bws 54 (by decide +kernel) (by decide +kernel)⟩
theorem iwX6_arePrints : IW yX6_arePrints := ⟨wd_1080, bws 53 (by decide +kernel) (by decide +kernel)⟩
theorem iwX6_firstError : IW yX6_firstError := ⟨wd_1075, wd_1076⟩
theorem iwX6_print : IW yX6_print := ⟨wd_1119, wd_1120⟩
theorem iwX6_toldAt : IW yX6_toldAt := ⟨wd_1128, bws 63 (by decide +kernel) (by decide +kernel)⟩
theorem iwX6_told : IW yX6_told := ⟨wd_1123, wd_1124⟩
theorem iwX6_waitOf : IW yX6_waitOf := ⟨wd_1140, bws 65 (by decide +kernel) (by decide +kernel)⟩
theorem iwX6_ofDot : IW yX6_ofDot := ⟨wd_1136, bws 64 (by decide +kernel) (by decide +kernel)⟩
theorem iwX6_dot : IW yX6_dot := ⟨wd_1131, wd_1132⟩
theorem iwX6_kept : IW yX6_kept := ⟨wd_1143, wd_1144⟩
theorem iwX6_number : IW yX6_number := ⟨wd_1152, bws 66 (by decide +kernel) (by decide +kernel)⟩
theorem iwX6_count : IW yX6_count := ⟨wd_1147, wd_1148⟩
theorem iwX6_wouldBring : IW yX6_wouldBring := ⟨wd_1160, bws 67 (by decide +kernel) (by decide +kernel)⟩
theorem iwX6_ifPrinted : IW yX6_ifPrinted := ⟨wd_1155, wd_1156⟩
theorem iwX6_better : IW yX6_better := ⟨wd_1176, bws 70 (by decide +kernel) (by decide +kernel)⟩
theorem iwX6_betterWay : IW yX6_betterWay := ⟨wd_1171, wd_1172⟩
theorem iwX6_timeToCool : IW yX6_timeToCool := ⟨wd_1184, bws 71 (by decide +kernel) (by decide +kernel)⟩
theorem iwX6_coolIn : IW yX6_coolIn := ⟨wd_1179, wd_1180⟩
theorem iwX6_isDarkBy : IW yX6_isDarkBy := ⟨wd_1196, bws 73 (by decide +kernel) (by decide +kernel)⟩
theorem iwX6_leastDark : IW yX6_leastDark := ⟨wd_1192, bws 72 (by decide +kernel) (by decide +kernel)⟩
theorem iwX6_darkFrom : IW yX6_darkFrom := ⟨wd_1187, wd_1188⟩
theorem iwX6_share : IW yX6_share := ⟨wd_1204, bws 74 (by decide +kernel) (by decide +kernel)⟩
theorem iwX6_darkness : IW yX6_darkness := ⟨wd_1199, wd_1200⟩
theorem iwX6_mean : IW yX6_mean := ⟨wd_1212, bws 75 (by decide +kernel) (by decide +kernel)⟩
theorem iwX6_meanHeat : IW yX6_meanHeat := ⟨wd_1207, wd_1208⟩
theorem iwX6_mix : IW yX6_mix := ⟨wd_1222, bws 76 (by decide +kernel) (by decide +kernel)⟩
theorem iwX6_mixStrip : IW yX6_mixStrip := ⟨wd_1227, bws 77 (by decide +kernel) (by decide +kernel)⟩
theorem iwX6_digest : IW yX6_digest := ⟨wd_1216, wd_1217⟩
