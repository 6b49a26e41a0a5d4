theorem wd_1 : (Cond.initialized "HeadDots") ∈ bigW := bw 1 (by decide +kernel) (by decide +kernel)
theorem wd_60 : (Cond.laysFinal "HeadDots$Strip" "HeadDots$Strip" "dark" "[I") ∈ bigW := bw 60 (by decide +kernel) (by decide +kernel)
theorem wd_62 : (Cond.laysFinal "HeadDots$Strip" "HeadDots$Strip" "faint" "[I") ∈ bigW := bw 62 (by decide +kernel) (by decide +kernel)
theorem wd_64 : (Cond.laysFinal "HeadDots$Strip" "HeadDots$Strip" "parts" "[I") ∈ bigW := bw 64 (by decide +kernel) (by decide +kernel)
theorem wd_66 : (Cond.lays "HeadDots$Strip" "HeadDots$Strip" "size" "I") ∈ bigW := bw 66 (by decide +kernel) (by decide +kernel)
theorem wd_97 : (Cond.laysFinal "HeadDots$Totals" "HeadDots$Totals" "dotsOf" "[I") ∈ bigW := bw 97 (by decide +kernel) (by decide +kernel)
theorem wd_99 : (Cond.laysFinal "HeadDots$Totals" "HeadDots$Totals" "faintOf" "[I") ∈ bigW := bw 99 (by decide +kernel) (by decide +kernel)
theorem wd_101 : (Cond.lays "HeadDots$Totals" "HeadDots$Totals" "time" "I") ∈ bigW := bw 101 (by decide +kernel) (by decide +kernel)
theorem wd_103 : (Cond.lays "HeadDots$Totals" "HeadDots$Totals" "lines" "I") ∈ bigW := bw 103 (by decide +kernel) (by decide +kernel)
theorem wd_105 : (Cond.lays "HeadDots$Totals" "HeadDots$Totals" "parts" "I") ∈ bigW := bw 105 (by decide +kernel) (by decide +kernel)
theorem wd_107 : (Cond.lays "HeadDots$Totals" "HeadDots$Totals" "waits" "I") ∈ bigW := bw 107 (by decide +kernel) (by decide +kernel)
theorem wd_109 : (Cond.lays "HeadDots$Totals" "HeadDots$Totals" "dots" "I") ∈ bigW := bw 109 (by decide +kernel) (by decide +kernel)
theorem wd_111 : (Cond.lays "HeadDots$Totals" "HeadDots$Totals" "faint" "I") ∈ bigW := bw 111 (by decide +kernel) (by decide +kernel)
theorem wd_113 : (Cond.lays "HeadDots$Totals" "HeadDots$Totals" "hottest" "I") ∈ bigW := bw 113 (by decide +kernel) (by decide +kernel)
theorem wd_127 : (Cond.laysFinal "HeadDots$State" "HeadDots$State" "heat" "[I") ∈ bigW := bw 127 (by decide +kernel) (by decide +kernel)
theorem wd_129 : (Cond.laysFinal "HeadDots$State" "HeadDots$State" "pulses" "[I") ∈ bigW := bw 129 (by decide +kernel) (by decide +kernel)
theorem wd_131 : (Cond.laysFinal "HeadDots$State" "HeadDots$State" "settings" "[I") ∈ bigW := bw 131 (by decide +kernel) (by decide +kernel)
theorem wd_133 : (Cond.laysFinal "HeadDots$State" "HeadDots$State" "strip" "LHeadDots$Strip;") ∈ bigW := bw 133 (by decide +kernel) (by decide +kernel)
theorem wd_135 : (Cond.laysFinal "HeadDots$State" "HeadDots$State" "totals" "LHeadDots$Totals;") ∈ bigW := bw 135 (by decide +kernel) (by decide +kernel)
theorem wd_137 : (Cond.lays "HeadDots$State" "HeadDots$State" "lastLine" "I") ∈ bigW := bw 137 (by decide +kernel) (by decide +kernel)
theorem wd_139 : (Cond.lays "HeadDots$State" "HeadDots$State" "lineBefore" "I") ∈ bigW := bw 139 (by decide +kernel) (by decide +kernel)
theorem wd_141 : (Cond.lays "HeadDots$State" "HeadDots$State" "paperKind" "I") ∈ bigW := bw 141 (by decide +kernel) (by decide +kernel)
theorem wd_155 : (Cond.laysFinal "HeadDots$Buffer" "HeadDots$Buffer" "codes" "[I") ∈ bigW := bw 155 (by decide +kernel) (by decide +kernel)
theorem wd_157 : (Cond.lays "HeadDots$Buffer" "HeadDots$Buffer" "length" "I") ∈ bigW := bw 157 (by decide +kernel) (by decide +kernel)
theorem wd_181 : (Cond.lays "HeadDots$Reader" "HeadDots$Reader" "mode" "I") ∈ bigW := bw 181 (by decide +kernel) (by decide +kernel)
theorem wd_183 : (Cond.lays "HeadDots$Reader" "HeadDots$Reader" "modeBehindWord" "I") ∈ bigW := bw 183 (by decide +kernel) (by decide +kernel)
theorem wd_185 : (Cond.lays "HeadDots$Reader" "HeadDots$Reader" "word" "Ljava/lang/String;") ∈ bigW := bw 185 (by decide +kernel) (by decide +kernel)
theorem wd_187 : (Cond.lays "HeadDots$Reader" "HeadDots$Reader" "wordAt" "I") ∈ bigW := bw 187 (by decide +kernel) (by decide +kernel)
theorem wd_189 : (Cond.lays "HeadDots$Reader" "HeadDots$Reader" "kind" "I") ∈ bigW := bw 189 (by decide +kernel) (by decide +kernel)
theorem wd_191 : (Cond.lays "HeadDots$Reader" "HeadDots$Reader" "dots" "I") ∈ bigW := bw 191 (by decide +kernel) (by decide +kernel)
theorem wd_193 : (Cond.lays "HeadDots$Reader" "HeadDots$Reader" "dotsDigits" "I") ∈ bigW := bw 193 (by decide +kernel) (by decide +kernel)
theorem wd_195 : (Cond.lays "HeadDots$Reader" "HeadDots$Reader" "paperKind" "I") ∈ bigW := bw 195 (by decide +kernel) (by decide +kernel)
theorem wd_197 : (Cond.lays "HeadDots$Reader" "HeadDots$Reader" "number" "I") ∈ bigW := bw 197 (by decide +kernel) (by decide +kernel)
theorem wd_199 : (Cond.lays "HeadDots$Reader" "HeadDots$Reader" "numberMost" "I") ∈ bigW := bw 199 (by decide +kernel) (by decide +kernel)
theorem wd_211 : (Cond.laysFinal "HeadDots" "HeadDots" "now" "LHeadDots$State;") ∈ bigW := bw 211 (by decide +kernel) (by decide +kernel)
theorem wd_213 : (Cond.laysFinal "HeadDots" "HeadDots" "snapshot" "LHeadDots$State;") ∈ bigW := bw 213 (by decide +kernel) (by decide +kernel)
theorem wd_215 : (Cond.laysFinal "HeadDots" "HeadDots" "trial" "LHeadDots$State;") ∈ bigW := bw 215 (by decide +kernel) (by decide +kernel)
theorem wd_217 : (Cond.laysFinal "HeadDots" "HeadDots" "saved" "[LHeadDots$State;") ∈ bigW := bw 217 (by decide +kernel) (by decide +kernel)
theorem wd_219 : (Cond.laysFinal "HeadDots" "HeadDots" "buffer" "LHeadDots$Buffer;") ∈ bigW := bw 219 (by decide +kernel) (by decide +kernel)
theorem wd_221 : (Cond.laysFinal "HeadDots" "HeadDots" "reader" "LHeadDots$Reader;") ∈ bigW := bw 221 (by decide +kernel) (by decide +kernel)
theorem wd_223 : (Cond.lays "HeadDots" "HeadDots" "savedCount" "I") ∈ bigW := bw 223 (by decide +kernel) (by decide +kernel)
theorem wd_225 : (Cond.lays "HeadDots" "HeadDots" "hasSnapshot" "Z") ∈ bigW := bw 225 (by decide +kernel) (by decide +kernel)
theorem wd_250 : (Cond.code ({ cls := "HeadDots", name := "at", desc := "([II)I" } : MethodName) prog_1_method_44_code 2 (Option.some ClassFile.FieldType.int)) ∈ bigW := bw 250 (by decide +kernel) (by decide +kernel)
theorem wd_344 : (Cond.code ({ cls := "HeadDots", name := "isWithin", desc := "(III)Z" } : MethodName) prog_1_method_40_code 3 (Option.some ClassFile.FieldType.boolean)) ∈ bigW := bw 344 (by decide +kernel) (by decide +kernel)
theorem wd_434 : (Cond.code ({ cls := "HeadDots", name := "bitOf", desc := "(II)I" } : MethodName) prog_1_method_43_code 2 (Option.some ClassFile.FieldType.int)) ∈ bigW := bw 434 (by decide +kernel) (by decide +kernel)
theorem wd_905 : (Cond.laysFinal "HeadDotsModel" "HeadDotsModel" "row" "[I") ∈ bigW := bw 905 (by decide +kernel) (by decide +kernel)
theorem wd_907 : (Cond.laysFinal "HeadDotsModel" "HeadDotsModel" "saved" "[I") ∈ bigW := bw 907 (by decide +kernel) (by decide +kernel)
theorem wd_909 : (Cond.lays "HeadDotsModel" "HeadDotsModel" "savedMany" "I") ∈ bigW := bw 909 (by decide +kernel) (by decide +kernel)
theorem wd_911 : (Cond.laysFinal "HeadDotsModel" "HeadDotsModel" "snapshot" "[I") ∈ bigW := bw 911 (by decide +kernel) (by decide +kernel)
theorem wd_913 : (Cond.lays "HeadDotsModel" "HeadDotsModel" "isKept" "Z") ∈ bigW := bw 913 (by decide +kernel) (by decide +kernel)
theorem wd_915 : (Cond.laysFinal "HeadDotsModel" "HeadDotsModel" "aside" "[I") ∈ bigW := bw 915 (by decide +kernel) (by decide +kernel)
theorem wd_917 : (Cond.lays "HeadDotsModel" "HeadDotsModel" "thrown" "I") ∈ bigW := bw 917 (by decide +kernel) (by decide +kernel)
theorem wd_919 : (Cond.lays "HeadDotsModel" "HeadDotsModel" "waits" "I") ∈ bigW := bw 919 (by decide +kernel) (by decide +kernel)
theorem wd_921 : (Cond.lays "HeadDotsModel" "HeadDotsModel" "dark" "I") ∈ bigW := bw 921 (by decide +kernel) (by decide +kernel)
theorem wd_923 : (Cond.lays "HeadDotsModel" "HeadDotsModel" "hottest" "I") ∈ bigW := bw 923 (by decide +kernel) (by decide +kernel)
theorem wd_925 : (Cond.laysFinal "HeadDotsModel" "HeadDotsModel" "buffer" "[I") ∈ bigW := bw 925 (by decide +kernel) (by decide +kernel)
theorem wd_927 : (Cond.lays "HeadDotsModel" "HeadDotsModel" "length" "I") ∈ bigW := bw 927 (by decide +kernel) (by decide +kernel)
theorem wd_929 : (Cond.lays "HeadDotsModel" "HeadDotsModel" "spot" "I") ∈ bigW := bw 929 (by decide +kernel) (by decide +kernel)
theorem wd_931 : (Cond.lays "HeadDotsModel" "HeadDotsModel" "parts" "I") ∈ bigW := bw 931 (by decide +kernel) (by decide +kernel)
theorem wd_933 : (Cond.laysFinal "HeadDotsModel" "HeadDotsModel" "kind" "[I") ∈ bigW := bw 933 (by decide +kernel) (by decide +kernel)
theorem wd_935 : (Cond.laysFinal "HeadDotsModel" "HeadDotsModel" "what" "[I") ∈ bigW := bw 935 (by decide +kernel) (by decide +kernel)
theorem wd_937 : (Cond.laysFinal "HeadDotsModel" "HeadDotsModel" "times" "[I") ∈ bigW := bw 937 (by decide +kernel) (by decide +kernel)
theorem wd_939 : (Cond.lays "HeadDotsModel" "HeadDotsModel" "hash" "J") ∈ bigW := bw 939 (by decide +kernel) (by decide +kernel)
theorem nf_0 : ("HeadDots$State", 18, "HeadDots", "SETTING_FIRST", "[I", "HeadDots") ∈ nestF := List.mem_of_getElem? (i := 0) rfl
theorem nf_1 : ("HeadDots$State", 67, "HeadDots$Strip", "size", "I", "HeadDots") ∈ nestF := List.mem_of_getElem? (i := 1) rfl
theorem nf_2 : ("HeadDots", 101, "HeadDots$Strip", "size", "I", "HeadDots") ∈ nestF := List.mem_of_getElem? (i := 2) rfl
theorem nf_3 : ("HeadDots$State", 166, "HeadDots$Totals", "dotsOf", "[I", "HeadDots") ∈ nestF := List.mem_of_getElem? (i := 3) rfl
theorem nf_4 : ("HeadDots$State", 169, "HeadDots$Totals", "faintOf", "[I", "HeadDots") ∈ nestF := List.mem_of_getElem? (i := 4) rfl
theorem nf_5 : ("HeadDots$State", 74, "HeadDots$Totals", "time", "I", "HeadDots") ∈ nestF := List.mem_of_getElem? (i := 5) rfl
theorem nf_6 : ("HeadDots", 283, "HeadDots$Totals", "time", "I", "HeadDots") ∈ nestF := List.mem_of_getElem? (i := 6) rfl
theorem nf_7 : ("HeadDots", 158, "HeadDots$Totals", "lines", "I", "HeadDots") ∈ nestF := List.mem_of_getElem? (i := 7) rfl
theorem nf_8 : ("HeadDots", 285, "HeadDots$Totals", "parts", "I", "HeadDots") ∈ nestF := List.mem_of_getElem? (i := 8) rfl
theorem nf_9 : ("HeadDots$State", 100, "HeadDots$Totals", "waits", "I", "HeadDots") ∈ nestF := List.mem_of_getElem? (i := 9) rfl
theorem nf_10 : ("HeadDots", 288, "HeadDots$Totals", "waits", "I", "HeadDots") ∈ nestF := List.mem_of_getElem? (i := 10) rfl
theorem nf_11 : ("HeadDots", 291, "HeadDots$Totals", "dots", "I", "HeadDots") ∈ nestF := List.mem_of_getElem? (i := 11) rfl
theorem nf_12 : ("HeadDots", 76, "HeadDots$Totals", "faint", "I", "HeadDots") ∈ nestF := List.mem_of_getElem? (i := 12) rfl
theorem nf_13 : ("HeadDots$State", 130, "HeadDots$Totals", "hottest", "I", "HeadDots") ∈ nestF := List.mem_of_getElem? (i := 13) rfl
theorem nf_14 : ("HeadDots", 295, "HeadDots$Totals", "hottest", "I", "HeadDots") ∈ nestF := List.mem_of_getElem? (i := 14) rfl
theorem nf_15 : ("HeadDots", 97, "HeadDots$State", "strip", "LHeadDots$Strip;", "HeadDots") ∈ nestF := List.mem_of_getElem? (i := 15) rfl
theorem nf_16 : ("HeadDots", 72, "HeadDots$State", "totals", "LHeadDots$Totals;", "HeadDots") ∈ nestF := List.mem_of_getElem? (i := 16) rfl
theorem nf_17 : ("HeadDots", 298, "HeadDots$State", "paperKind", "I", "HeadDots") ∈ nestF := List.mem_of_getElem? (i := 17) rfl
theorem nf_18 : ("HeadDots$Reader", 48, "HeadDots$Buffer", "length", "I", "HeadDots") ∈ nestF := List.mem_of_getElem? (i := 18) rfl
theorem nf_19 : ("HeadDots", 146, "HeadDots$Buffer", "length", "I", "HeadDots") ∈ nestF := List.mem_of_getElem? (i := 19) rfl
theorem nf_20 : ("HeadDots", 267, "HeadDots$Reader", "kind", "I", "HeadDots") ∈ nestF := List.mem_of_getElem? (i := 20) rfl
theorem nf_21 : ("HeadDots", 270, "HeadDots$Reader", "dots", "I", "HeadDots") ∈ nestF := List.mem_of_getElem? (i := 21) rfl
theorem nf_22 : ("HeadDots", 280, "HeadDots$Reader", "paperKind", "I", "HeadDots") ∈ nestF := List.mem_of_getElem? (i := 22) rfl
theorem nf_23 : ("HeadDots", 272, "HeadDots$Reader", "number", "I", "HeadDots") ∈ nestF := List.mem_of_getElem? (i := 23) rfl
theorem nf_24 : ("HeadDots$State", 137, "HeadDots", "PAPER_PULSE", "[I", "HeadDots") ∈ nestF := List.mem_of_getElem? (i := 24) rfl
theorem nf_25 : ("HeadDots$State", 140, "HeadDots", "PAPER_DARK", "[I", "HeadDots") ∈ nestF := List.mem_of_getElem? (i := 25) rfl
theorem nf_26 : ("HeadDots$State", 153, "HeadDots", "SETTING_MOST", "[I", "HeadDots") ∈ nestF := List.mem_of_getElem? (i := 26) rfl
theorem nf_27 : ("HeadDots$State", 156, "HeadDots", "SETTING_LEAST", "[I", "HeadDots") ∈ nestF := List.mem_of_getElem? (i := 27) rfl
theorem nm_0 : (("HeadDots$State", 24, ⟨"HeadDots", "copyRow", "([I[I)V"⟩, "HeadDots") : String × Nat × MethodName × String) ∈ nestM := List.mem_of_getElem? (i := 0) rfl
theorem nm_1 : (("HeadDots$Buffer", 23, ⟨"HeadDots", "at", "([II)I"⟩, "HeadDots") : String × Nat × MethodName × String) ∈ nestM := List.mem_of_getElem? (i := 1) rfl
theorem nm_2 : (("HeadDots$Reader", 124, ⟨"HeadDots", "isWithin", "(III)Z"⟩, "HeadDots") : String × Nat × MethodName × String) ∈ nestM := List.mem_of_getElem? (i := 2) rfl
theorem nm_3 : (("HeadDots$Strip", 25, ⟨"HeadDots", "copyRow", "([I[I)V"⟩, "HeadDots") : String × Nat × MethodName × String) ∈ nestM := List.mem_of_getElem? (i := 3) rfl
theorem nm_4 : (("HeadDots$Totals", 40, ⟨"HeadDots", "copyRow", "([I[I)V"⟩, "HeadDots") : String × Nat × MethodName × String) ∈ nestM := List.mem_of_getElem? (i := 4) rfl
theorem nm_5 : (("HeadDots$State", 59, ⟨"HeadDots", "at", "([II)I"⟩, "HeadDots") : String × Nat × MethodName × String) ∈ nestM := List.mem_of_getElem? (i := 5) rfl
theorem nm_6 : (("HeadDots$State", 124, ⟨"HeadDots", "bitOf", "(II)I"⟩, "HeadDots") : String × Nat × MethodName × String) ∈ nestM := List.mem_of_getElem? (i := 6) rfl
theorem nm_7 : (("HeadDots$Strip", 43, ⟨"HeadDots", "at", "([II)I"⟩, "HeadDots") : String × Nat × MethodName × String) ∈ nestM := List.mem_of_getElem? (i := 7) rfl
theorem nm_8 : (("HeadDots$Strip", 54, ⟨"HeadDots", "bitOf", "(II)I"⟩, "HeadDots") : String × Nat × MethodName × String) ∈ nestM := List.mem_of_getElem? (i := 8) rfl
theorem nm_9 : (("HeadDots$State", 63, ⟨"HeadDots", "put", "([III)V"⟩, "HeadDots") : String × Nat × MethodName × String) ∈ nestM := List.mem_of_getElem? (i := 9) rfl
theorem nm_10 : (("HeadDots$Strip", 39, ⟨"HeadDots", "put", "([III)V"⟩, "HeadDots") : String × Nat × MethodName × String) ∈ nestM := List.mem_of_getElem? (i := 10) rfl
theorem nm_11 : (("HeadDots$Totals", 54, ⟨"HeadDots", "bitOf", "(II)I"⟩, "HeadDots") : String × Nat × MethodName × String) ∈ nestM := List.mem_of_getElem? (i := 11) rfl
theorem nm_12 : (("HeadDots$Buffer", 17, ⟨"HeadDots", "put", "([III)V"⟩, "HeadDots") : String × Nat × MethodName × String) ∈ nestM := List.mem_of_getElem? (i := 12) rfl
theorem fwX0 : FW RX0 TX0 2 tyX0 := ⟨(show ∀ w ∈ u_ws RX0 TX0 2, w ∈ bigW from List.forall_mem_cons.mpr ⟨wd_155, List.forall_mem_cons.mpr ⟨wd_157, List.forall_mem_nil _⟩⟩), tyX0_ok, nmX0⟩
theorem fwX1 : FW RX1 TX1 10 tyX1 := ⟨(show ∀ w ∈ u_ws RX1 TX1 10, w ∈ bigW from List.forall_mem_cons.mpr ⟨wd_181, List.forall_mem_cons.mpr ⟨wd_183, List.forall_mem_cons.mpr ⟨wd_185, List.forall_mem_cons.mpr ⟨wd_187, List.forall_mem_cons.mpr ⟨wd_189, List.forall_mem_cons.mpr ⟨wd_191, List.forall_mem_cons.mpr ⟨wd_193, List.forall_mem_cons.mpr ⟨wd_195, List.forall_mem_cons.mpr ⟨wd_197, List.forall_mem_cons.mpr ⟨wd_199, List.forall_mem_nil _⟩⟩⟩⟩⟩⟩⟩⟩⟩⟩), tyX1_ok, nmX1⟩
theorem fwX2 : FW RX2 TX2 8 tyX2 := ⟨(show ∀ w ∈ u_ws RX2 TX2 8, w ∈ bigW from List.forall_mem_cons.mpr ⟨wd_127, List.forall_mem_cons.mpr ⟨wd_129, List.forall_mem_cons.mpr ⟨wd_131, List.forall_mem_cons.mpr ⟨wd_133, List.forall_mem_cons.mpr ⟨wd_135, List.forall_mem_cons.mpr ⟨wd_137, List.forall_mem_cons.mpr ⟨wd_139, List.forall_mem_cons.mpr ⟨wd_141, List.forall_mem_nil _⟩⟩⟩⟩⟩⟩⟩⟩), tyX2_ok, nmX2⟩
theorem fwX3 : FW RX3 TX3 4 tyX3 := ⟨(show ∀ w ∈ u_ws RX3 TX3 4, w ∈ bigW from List.forall_mem_cons.mpr ⟨wd_60, List.forall_mem_cons.mpr ⟨wd_62, List.forall_mem_cons.mpr ⟨wd_64, List.forall_mem_cons.mpr ⟨wd_66, List.forall_mem_nil _⟩⟩⟩⟩), tyX3_ok, nmX3⟩
theorem fwX4 : FW RX4 TX4 9 tyX4 := ⟨(show ∀ w ∈ u_ws RX4 TX4 9, w ∈ bigW from List.forall_mem_cons.mpr ⟨wd_97, List.forall_mem_cons.mpr ⟨wd_99, List.forall_mem_cons.mpr ⟨wd_101, List.forall_mem_cons.mpr ⟨wd_103, List.forall_mem_cons.mpr ⟨wd_105, List.forall_mem_cons.mpr ⟨wd_107, List.forall_mem_cons.mpr ⟨wd_109, List.forall_mem_cons.mpr ⟨wd_111, List.forall_mem_cons.mpr ⟨wd_113, List.forall_mem_nil _⟩⟩⟩⟩⟩⟩⟩⟩⟩), tyX4_ok, nmX4⟩
theorem fwX5 : FW RX5 TX5 8 tyX5 := ⟨(show ∀ w ∈ u_ws RX5 TX5 8, w ∈ bigW from List.forall_mem_cons.mpr ⟨wd_211, List.forall_mem_cons.mpr ⟨wd_213, List.forall_mem_cons.mpr ⟨wd_215, List.forall_mem_cons.mpr ⟨wd_217, List.forall_mem_cons.mpr ⟨wd_219, List.forall_mem_cons.mpr ⟨wd_221, List.forall_mem_cons.mpr ⟨wd_223, List.forall_mem_cons.mpr ⟨wd_225, List.forall_mem_nil _⟩⟩⟩⟩⟩⟩⟩⟩), tyX5_ok, nmX5⟩
theorem fwX6 : FW RX6 TX6 18 tyX6 := ⟨(show ∀ w ∈ u_ws RX6 TX6 18, w ∈ bigW from List.forall_mem_cons.mpr ⟨wd_905, List.forall_mem_cons.mpr ⟨wd_907, List.forall_mem_cons.mpr ⟨wd_909, List.forall_mem_cons.mpr ⟨wd_911, List.forall_mem_cons.mpr ⟨wd_913, List.forall_mem_cons.mpr ⟨wd_915, List.forall_mem_cons.mpr ⟨wd_917, List.forall_mem_cons.mpr ⟨wd_919, List.forall_mem_cons.mpr ⟨wd_921, List.forall_mem_cons.mpr ⟨wd_923, List.forall_mem_cons.mpr ⟨wd_925, List.forall_mem_cons.mpr ⟨wd_927, List.forall_mem_cons.mpr ⟨wd_929, List.forall_mem_cons.mpr ⟨wd_931, List.forall_mem_cons.mpr ⟨wd_933, List.forall_mem_cons.mpr ⟨wd_935, List.forall_mem_cons.mpr ⟨wd_937, List.forall_mem_cons.mpr ⟨wd_939, List.forall_mem_nil _⟩⟩⟩⟩⟩⟩⟩⟩⟩⟩⟩⟩⟩⟩⟩⟩⟩⟩), tyX6_ok, nmX6⟩
theorem mwX5_at : MW yX5_at cX5_at 2 (some .int) 2 := ⟨wd_250, wd_1, by decide, by decide, by decide +kernel⟩
theorem mwX5_bitOf : MW yX5_bitOf cX5_bitOf 2 (some .int) 2 := ⟨wd_434, wd_1, by decide, by decide, by decide +kernel⟩
theorem mwX5_isWithin : MW yX5_isWithin cX5_isWithin 3 (some .boolean) 3 := ⟨wd_344, wd_1, by decide, by decide, by decide +kernel⟩
