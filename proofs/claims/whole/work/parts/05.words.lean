theorem wd_1 : (Cond.initialized "HeadDots") ∈ bigW := bw 1 (by decide +kernel) (by decide +kernel)
theorem wd_2 : (Cond.initialized "HeadDots$State") ∈ bigW := bw 2 (by decide +kernel) (by decide +kernel)
theorem wd_3 : (Cond.initialized "java/lang/Math") ∈ bigW := bw 3 (by decide +kernel) (by decide +kernel)
theorem wd_5 : (Cond.initialized "HeadDots$Strip") ∈ bigW := bw 5 (by decide +kernel) (by decide +kernel)
theorem wd_6 : (Cond.initialized "HeadDots$Totals") ∈ bigW := bw 6 (by decide +kernel) (by decide +kernel)
theorem wd_54 : (Cond.fieldLink "HeadDots$Strip" 11 "HeadDots$Strip" "dark" "[I") ∈ bigW := bw 54 (by decide +kernel) (by decide +kernel)
theorem wd_55 : (Cond.fieldLink "HeadDots$Strip" 15 "HeadDots$Strip" "faint" "[I") ∈ bigW := bw 55 (by decide +kernel) (by decide +kernel)
theorem wd_56 : (Cond.fieldLink "HeadDots$Strip" 18 "HeadDots$Strip" "parts" "[I") ∈ bigW := bw 56 (by decide +kernel) (by decide +kernel)
theorem wd_57 : (Cond.fieldLink "HeadDots$Strip" 21 "HeadDots$Strip" "size" "I") ∈ bigW := bw 57 (by decide +kernel) (by decide +kernel)
theorem wd_60 : (Cond.laysFinal "HeadDots$Strip" "HeadDots$Strip" "dark" "[I") ∈ bigW := bw 60 (by decide +kernel) (by decide +kernel)
theorem wd_62 : (Cond.laysFinal "HeadDots$Strip" "HeadDots$Strip" "faint" "[I") ∈ bigW := bw 62 (by decide +kernel) (by decide +kernel)
theorem wd_64 : (Cond.laysFinal "HeadDots$Strip" "HeadDots$Strip" "parts" "[I") ∈ bigW := bw 64 (by decide +kernel) (by decide +kernel)
theorem wd_66 : (Cond.lays "HeadDots$Strip" "HeadDots$Strip" "size" "I") ∈ bigW := bw 66 (by decide +kernel) (by decide +kernel)
theorem wd_76 : (Cond.fieldLink "HeadDots$Totals" 9 "HeadDots$Totals" "dotsOf" "[I") ∈ bigW := bw 76 (by decide +kernel) (by decide +kernel)
theorem wd_97 : (Cond.laysFinal "HeadDots$Totals" "HeadDots$Totals" "dotsOf" "[I") ∈ bigW := bw 97 (by decide +kernel) (by decide +kernel)
theorem wd_99 : (Cond.laysFinal "HeadDots$Totals" "HeadDots$Totals" "faintOf" "[I") ∈ bigW := bw 99 (by decide +kernel) (by decide +kernel)
theorem wd_101 : (Cond.lays "HeadDots$Totals" "HeadDots$Totals" "time" "I") ∈ bigW := bw 101 (by decide +kernel) (by decide +kernel)
theorem wd_103 : (Cond.lays "HeadDots$Totals" "HeadDots$Totals" "lines" "I") ∈ bigW := bw 103 (by decide +kernel) (by decide +kernel)
theorem wd_105 : (Cond.lays "HeadDots$Totals" "HeadDots$Totals" "parts" "I") ∈ bigW := bw 105 (by decide +kernel) (by decide +kernel)
theorem wd_107 : (Cond.lays "HeadDots$Totals" "HeadDots$Totals" "waits" "I") ∈ bigW := bw 107 (by decide +kernel) (by decide +kernel)
theorem wd_109 : (Cond.lays "HeadDots$Totals" "HeadDots$Totals" "dots" "I") ∈ bigW := bw 109 (by decide +kernel) (by decide +kernel)
theorem wd_111 : (Cond.lays "HeadDots$Totals" "HeadDots$Totals" "faint" "I") ∈ bigW := bw 111 (by decide +kernel) (by decide +kernel)
theorem wd_113 : (Cond.lays "HeadDots$Totals" "HeadDots$Totals" "hottest" "I") ∈ bigW := bw 113 (by decide +kernel) (by decide +kernel)
theorem wd_116 : (Cond.fieldLink "HeadDots$State" 9 "HeadDots$State" "heat" "[I") ∈ bigW := bw 116 (by decide +kernel) (by decide +kernel)
theorem wd_117 : (Cond.fieldLink "HeadDots$State" 15 "HeadDots$State" "pulses" "[I") ∈ bigW := bw 117 (by decide +kernel) (by decide +kernel)
theorem wd_118 : (Cond.fieldLink "HeadDots$State" 21 "HeadDots$State" "settings" "[I") ∈ bigW := bw 118 (by decide +kernel) (by decide +kernel)
theorem wd_119 : (Cond.fieldLink "HeadDots$State" 31 "HeadDots$State" "strip" "LHeadDots$Strip;") ∈ bigW := bw 119 (by decide +kernel) (by decide +kernel)
theorem wd_121 : (Cond.fieldLink "HeadDots$State" 38 "HeadDots$State" "totals" "LHeadDots$Totals;") ∈ bigW := bw 121 (by decide +kernel) (by decide +kernel)
theorem wd_123 : (Cond.fieldLink "HeadDots$State" 42 "HeadDots$State" "lastLine" "I") ∈ bigW := bw 123 (by decide +kernel) (by decide +kernel)
theorem wd_124 : (Cond.fieldLink "HeadDots$State" 46 "HeadDots$State" "lineBefore" "I") ∈ bigW := bw 124 (by decide +kernel) (by decide +kernel)
theorem wd_125 : (Cond.fieldLink "HeadDots$State" 49 "HeadDots$State" "paperKind" "I") ∈ bigW := bw 125 (by decide +kernel) (by decide +kernel)
theorem wd_127 : (Cond.laysFinal "HeadDots$State" "HeadDots$State" "heat" "[I") ∈ bigW := bw 127 (by decide +kernel) (by decide +kernel)
theorem wd_129 : (Cond.laysFinal "HeadDots$State" "HeadDots$State" "pulses" "[I") ∈ bigW := bw 129 (by decide +kernel) (by decide +kernel)
theorem wd_131 : (Cond.laysFinal "HeadDots$State" "HeadDots$State" "settings" "[I") ∈ bigW := bw 131 (by decide +kernel) (by decide +kernel)
theorem wd_133 : (Cond.laysFinal "HeadDots$State" "HeadDots$State" "strip" "LHeadDots$Strip;") ∈ bigW := bw 133 (by decide +kernel) (by decide +kernel)
theorem wd_135 : (Cond.laysFinal "HeadDots$State" "HeadDots$State" "totals" "LHeadDots$Totals;") ∈ bigW := bw 135 (by decide +kernel) (by decide +kernel)
theorem wd_137 : (Cond.lays "HeadDots$State" "HeadDots$State" "lastLine" "I") ∈ bigW := bw 137 (by decide +kernel) (by decide +kernel)
theorem wd_139 : (Cond.lays "HeadDots$State" "HeadDots$State" "lineBefore" "I") ∈ bigW := bw 139 (by decide +kernel) (by decide +kernel)
theorem wd_141 : (Cond.lays "HeadDots$State" "HeadDots$State" "paperKind" "I") ∈ bigW := bw 141 (by decide +kernel) (by decide +kernel)
theorem wd_155 : (Cond.laysFinal "HeadDots$Buffer" "HeadDots$Buffer" "codes" "[I") ∈ bigW := bw 155 (by decide +kernel) (by decide +kernel)
theorem wd_157 : (Cond.lays "HeadDots$Buffer" "HeadDots$Buffer" "length" "I") ∈ bigW := bw 157 (by decide +kernel) (by decide +kernel)
theorem wd_181 : (Cond.lays "HeadDots$Reader" "HeadDots$Reader" "mode" "I") ∈ bigW := bw 181 (by decide +kernel) (by decide +kernel)
theorem wd_183 : (Cond.lays "HeadDots$Reader" "HeadDots$Reader" "modeBehindWord" "I") ∈ bigW := bw 183 (by decide +kernel) (by decide +kernel)
theorem wd_185 : (Cond.lays "HeadDots$Reader" "HeadDots$Reader" "word" "Ljava/lang/String;") ∈ bigW := bw 185 (by decide +kernel) (by decide +kernel)
theorem wd_187 : (Cond.lays "HeadDots$Reader" "HeadDots$Reader" "wordAt" "I") ∈ bigW := bw 187 (by decide +kernel) (by decide +kernel)
theorem wd_189 : (Cond.lays "HeadDots$Reader" "HeadDots$Reader" "kind" "I") ∈ bigW := bw 189 (by decide +kernel) (by decide +kernel)
theorem wd_191 : (Cond.lays "HeadDots$Reader" "HeadDots$Reader" "dots" "I") ∈ bigW := bw 191 (by decide +kernel) (by decide +kernel)
theorem wd_193 : (Cond.lays "HeadDots$Reader" "HeadDots$Reader" "dotsDigits" "I") ∈ bigW := bw 193 (by decide +kernel) (by decide +kernel)
theorem wd_195 : (Cond.lays "HeadDots$Reader" "HeadDots$Reader" "paperKind" "I") ∈ bigW := bw 195 (by decide +kernel) (by decide +kernel)
theorem wd_197 : (Cond.lays "HeadDots$Reader" "HeadDots$Reader" "number" "I") ∈ bigW := bw 197 (by decide +kernel) (by decide +kernel)
theorem wd_199 : (Cond.lays "HeadDots$Reader" "HeadDots$Reader" "numberMost" "I") ∈ bigW := bw 199 (by decide +kernel) (by decide +kernel)
theorem wd_211 : (Cond.laysFinal "HeadDots" "HeadDots" "now" "LHeadDots$State;") ∈ bigW := bw 211 (by decide +kernel) (by decide +kernel)
theorem wd_213 : (Cond.laysFinal "HeadDots" "HeadDots" "snapshot" "LHeadDots$State;") ∈ bigW := bw 213 (by decide +kernel) (by decide +kernel)
theorem wd_215 : (Cond.laysFinal "HeadDots" "HeadDots" "trial" "LHeadDots$State;") ∈ bigW := bw 215 (by decide +kernel) (by decide +kernel)
theorem wd_217 : (Cond.laysFinal "HeadDots" "HeadDots" "saved" "[LHeadDots$State;") ∈ bigW := bw 217 (by decide +kernel) (by decide +kernel)
theorem wd_219 : (Cond.laysFinal "HeadDots" "HeadDots" "buffer" "LHeadDots$Buffer;") ∈ bigW := bw 219 (by decide +kernel) (by decide +kernel)
theorem wd_221 : (Cond.laysFinal "HeadDots" "HeadDots" "reader" "LHeadDots$Reader;") ∈ bigW := bw 221 (by decide +kernel) (by decide +kernel)
theorem wd_223 : (Cond.lays "HeadDots" "HeadDots" "savedCount" "I") ∈ bigW := bw 223 (by decide +kernel) (by decide +kernel)
theorem wd_225 : (Cond.lays "HeadDots" "HeadDots" "hasSnapshot" "Z") ∈ bigW := bw 225 (by decide +kernel) (by decide +kernel)
theorem wd_249 : (Cond.static ({ cls := "HeadDots", name := "at", desc := "([II)I" } : MethodName)) ∈ bigW := bw 249 (by decide +kernel) (by decide +kernel)
theorem wd_250 : (Cond.code ({ cls := "HeadDots", name := "at", desc := "([II)I" } : MethodName) prog_1_method_44_code 2 (Option.some ClassFile.FieldType.int)) ∈ bigW := bw 250 (by decide +kernel) (by decide +kernel)
theorem wd_343 : (Cond.static ({ cls := "HeadDots", name := "isWithin", desc := "(III)Z" } : MethodName)) ∈ bigW := bw 343 (by decide +kernel) (by decide +kernel)
theorem wd_344 : (Cond.code ({ cls := "HeadDots", name := "isWithin", desc := "(III)Z" } : MethodName) prog_1_method_40_code 3 (Option.some ClassFile.FieldType.boolean)) ∈ bigW := bw 344 (by decide +kernel) (by decide +kernel)
theorem wd_405 : (Cond.instanceMethod ({ cls := "HeadDots$Totals", name := "dotByDot", desc := "()I" } : MethodName)) ∈ bigW := bw 405 (by decide +kernel) (by decide +kernel)
theorem wd_406 : (Cond.selects "HeadDots$Totals" ({ cls := "HeadDots$Totals", name := "dotByDot", desc := "()I" } : MethodName) ({ cls := "HeadDots$Totals", name := "dotByDot", desc := "()I" } : MethodName)) ∈ bigW := bw 406 (by decide +kernel) (by decide +kernel)
theorem wd_407 : (Cond.code ({ cls := "HeadDots$Totals", name := "dotByDot", desc := "()I" } : MethodName) prog_6_method_5_code 3 (Option.some ClassFile.FieldType.int)) ∈ bigW := bw 407 (by decide +kernel) (by decide +kernel)
theorem wd_409 : (Cond.instanceMethod ({ cls := "HeadDots$State", name := "hottestDot", desc := "()I" } : MethodName)) ∈ bigW := bw 409 (by decide +kernel) (by decide +kernel)
theorem wd_410 : (Cond.selects "HeadDots$State" ({ cls := "HeadDots$State", name := "hottestDot", desc := "()I" } : MethodName) ({ cls := "HeadDots$State", name := "hottestDot", desc := "()I" } : MethodName)) ∈ bigW := bw 410 (by decide +kernel) (by decide +kernel)
theorem wd_411 : (Cond.code ({ cls := "HeadDots$State", name := "hottestDot", desc := "()I" } : MethodName) prog_4_method_23_code 3 (Option.some ClassFile.FieldType.int)) ∈ bigW := bw 411 (by decide +kernel) (by decide +kernel)
theorem wd_412 : (Cond.methodLink "HeadDots$State" 114 Lib.Math.max.name) ∈ bigW := bw 412 (by decide +kernel) (by decide +kernel)
theorem wd_413 : (Cond.static Lib.Math.max.name) ∈ bigW := bw 413 (by decide +kernel) (by decide +kernel)
theorem wd_414 : (Cond.code Lib.Math.max.name Lib.Math.max.code 2 (some .int)) ∈ bigW := bw 414 (by decide +kernel) (by decide +kernel)
theorem wd_416 : (Cond.instanceMethod ({ cls := "HeadDots$State", name := "setting", desc := "(I)I" } : MethodName)) ∈ bigW := bw 416 (by decide +kernel) (by decide +kernel)
theorem wd_417 : (Cond.selects "HeadDots$State" ({ cls := "HeadDots$State", name := "setting", desc := "(I)I" } : MethodName) ({ cls := "HeadDots$State", name := "setting", desc := "(I)I" } : MethodName)) ∈ bigW := bw 417 (by decide +kernel) (by decide +kernel)
theorem wd_418 : (Cond.code ({ cls := "HeadDots$State", name := "setting", desc := "(I)I" } : MethodName) prog_4_method_3_code 2 (Option.some ClassFile.FieldType.int)) ∈ bigW := bw 418 (by decide +kernel) (by decide +kernel)
theorem wd_429 : (Cond.instanceMethod ({ cls := "HeadDots$State", name := "numberOfDot", desc := "(II)I" } : MethodName)) ∈ bigW := bw 429 (by decide +kernel) (by decide +kernel)
theorem wd_430 : (Cond.selects "HeadDots$State" ({ cls := "HeadDots$State", name := "numberOfDot", desc := "(II)I" } : MethodName) ({ cls := "HeadDots$State", name := "numberOfDot", desc := "(II)I" } : MethodName)) ∈ bigW := bw 430 (by decide +kernel) (by decide +kernel)
theorem wd_431 : (Cond.code ({ cls := "HeadDots$State", name := "numberOfDot", desc := "(II)I" } : MethodName) prog_4_method_26_code 3 (Option.some ClassFile.FieldType.int)) ∈ bigW := bw 431 (by decide +kernel) (by decide +kernel)
theorem wd_433 : (Cond.static ({ cls := "HeadDots", name := "bitOf", desc := "(II)I" } : MethodName)) ∈ bigW := bw 433 (by decide +kernel) (by decide +kernel)
theorem wd_434 : (Cond.code ({ cls := "HeadDots", name := "bitOf", desc := "(II)I" } : MethodName) prog_1_method_43_code 2 (Option.some ClassFile.FieldType.int)) ∈ bigW := bw 434 (by decide +kernel) (by decide +kernel)
theorem wd_435 : (Cond.methodLink "HeadDots$State" 159 ({ cls := "HeadDots$State", name := "pulseAlone", desc := "(II)I" } : MethodName)) ∈ bigW := bw 435 (by decide +kernel) (by decide +kernel)
theorem wd_437 : (Cond.instanceMethod ({ cls := "HeadDots$State", name := "pulseAlone", desc := "(II)I" } : MethodName)) ∈ bigW := bw 437 (by decide +kernel) (by decide +kernel)
theorem wd_438 : (Cond.code ({ cls := "HeadDots$State", name := "pulseAlone", desc := "(II)I" } : MethodName) prog_4_method_15_code 3 (Option.some ClassFile.FieldType.int)) ∈ bigW := bw 438 (by decide +kernel) (by decide +kernel)
theorem wd_439 : (Cond.methodLink "HeadDots$State" 120 ({ cls := "HeadDots$State", name := "pulseIn", desc := "(III)I" } : MethodName)) ∈ bigW := bw 439 (by decide +kernel) (by decide +kernel)
theorem wd_441 : (Cond.instanceMethod ({ cls := "HeadDots$State", name := "pulseIn", desc := "(III)I" } : MethodName)) ∈ bigW := bw 441 (by decide +kernel) (by decide +kernel)
theorem wd_442 : (Cond.code ({ cls := "HeadDots$State", name := "pulseIn", desc := "(III)I" } : MethodName) prog_4_method_14_code 5 (Option.some ClassFile.FieldType.int)) ∈ bigW := bw 442 (by decide +kernel) (by decide +kernel)
theorem wd_445 : (Cond.methodLink "HeadDots$State" 162 ({ cls := "HeadDots$State", name := "waitFor", desc := "(II)I" } : MethodName)) ∈ bigW := bw 445 (by decide +kernel) (by decide +kernel)
theorem wd_447 : (Cond.instanceMethod ({ cls := "HeadDots$State", name := "waitFor", desc := "(II)I" } : MethodName)) ∈ bigW := bw 447 (by decide +kernel) (by decide +kernel)
theorem wd_448 : (Cond.code ({ cls := "HeadDots$State", name := "waitFor", desc := "(II)I" } : MethodName) prog_4_method_16_code 3 (Option.some ClassFile.FieldType.int)) ∈ bigW := bw 448 (by decide +kernel) (by decide +kernel)
theorem wd_449 : (Cond.methodLink "HeadDots$State" 127 ({ cls := "HeadDots$State", name := "timeDownTo", desc := "(II)I" } : MethodName)) ∈ bigW := bw 449 (by decide +kernel) (by decide +kernel)
theorem wd_451 : (Cond.instanceMethod ({ cls := "HeadDots$State", name := "timeDownTo", desc := "(II)I" } : MethodName)) ∈ bigW := bw 451 (by decide +kernel) (by decide +kernel)
theorem wd_452 : (Cond.code ({ cls := "HeadDots$State", name := "timeDownTo", desc := "(II)I" } : MethodName) prog_4_method_20_code 6 (Option.some ClassFile.FieldType.int)) ∈ bigW := bw 452 (by decide +kernel) (by decide +kernel)
theorem wd_453 : (Cond.constant "HeadDots$State" 149 (1000000 : Int32)) ∈ bigW := bw 453 (by decide +kernel) (by decide +kernel)
theorem wd_454 : (Cond.methodLink "HeadDots$State" 146 ({ cls := "HeadDots$State", name := "cooled", desc := "(II)I" } : MethodName)) ∈ bigW := bw 454 (by decide +kernel) (by decide +kernel)
theorem wd_455 : (Cond.static ({ cls := "HeadDots$State", name := "cooled", desc := "(II)I" } : MethodName)) ∈ bigW := bw 455 (by decide +kernel) (by decide +kernel)
theorem wd_456 : (Cond.code ({ cls := "HeadDots$State", name := "cooled", desc := "(II)I" } : MethodName) prog_4_method_21_code 3 (Option.some ClassFile.FieldType.int)) ∈ bigW := bw 456 (by decide +kernel) (by decide +kernel)
theorem wd_462 : (Cond.instanceMethod ({ cls := "HeadDots$Strip", name := "numberOfLine", desc := "(II)I" } : MethodName)) ∈ bigW := bw 462 (by decide +kernel) (by decide +kernel)
theorem wd_463 : (Cond.selects "HeadDots$Strip" ({ cls := "HeadDots$Strip", name := "numberOfLine", desc := "(II)I" } : MethodName) ({ cls := "HeadDots$Strip", name := "numberOfLine", desc := "(II)I" } : MethodName)) ∈ bigW := bw 463 (by decide +kernel) (by decide +kernel)
theorem wd_464 : (Cond.code ({ cls := "HeadDots$Strip", name := "numberOfLine", desc := "(II)I" } : MethodName) prog_5_method_5_code 3 (Option.some ClassFile.FieldType.int)) ∈ bigW := bw 464 (by decide +kernel) (by decide +kernel)
theorem wd_467 : (Cond.instanceMethod ({ cls := "HeadDots$Strip", name := "textLength", desc := "(I)I" } : MethodName)) ∈ bigW := bw 467 (by decide +kernel) (by decide +kernel)
theorem wd_468 : (Cond.selects "HeadDots$Strip" ({ cls := "HeadDots$Strip", name := "textLength", desc := "(I)I" } : MethodName) ({ cls := "HeadDots$Strip", name := "textLength", desc := "(I)I" } : MethodName)) ∈ bigW := bw 468 (by decide +kernel) (by decide +kernel)
theorem wd_469 : (Cond.code ({ cls := "HeadDots$Strip", name := "textLength", desc := "(I)I" } : MethodName) prog_5_method_6_code 2 (Option.some ClassFile.FieldType.int)) ∈ bigW := bw 469 (by decide +kernel) (by decide +kernel)
theorem wd_470 : (Cond.methodLink "HeadDots$Strip" 47 Lib.Math.max.name) ∈ bigW := bw 470 (by decide +kernel) (by decide +kernel)
theorem wd_472 : (Cond.instanceMethod ({ cls := "HeadDots$Strip", name := "sign", desc := "(II)I" } : MethodName)) ∈ bigW := bw 472 (by decide +kernel) (by decide +kernel)
theorem wd_473 : (Cond.selects "HeadDots$Strip" ({ cls := "HeadDots$Strip", name := "sign", desc := "(II)I" } : MethodName) ({ cls := "HeadDots$Strip", name := "sign", desc := "(II)I" } : MethodName)) ∈ bigW := bw 473 (by decide +kernel) (by decide +kernel)
theorem wd_474 : (Cond.code ({ cls := "HeadDots$Strip", name := "sign", desc := "(II)I" } : MethodName) prog_5_method_7_code 3 (Option.some ClassFile.FieldType.int)) ∈ bigW := bw 474 (by decide +kernel) (by decide +kernel)
theorem wd_475 : (Cond.methodLink "HeadDots$Strip" 50 ({ cls := "HeadDots$Strip", name := "textLength", desc := "(I)I" } : MethodName)) ∈ bigW := bw 475 (by decide +kernel) (by decide +kernel)
theorem wd_481 : (Cond.constant "HeadDots" 302 (16777215 : Int32)) ∈ bigW := bw 481 (by decide +kernel) (by decide +kernel)
theorem wd_488 : (Cond.instanceMethod ({ cls := "HeadDots$State", name := "changeSetting", desc := "(II)V" } : MethodName)) ∈ bigW := bw 488 (by decide +kernel) (by decide +kernel)
theorem wd_489 : (Cond.selects "HeadDots$State" ({ cls := "HeadDots$State", name := "changeSetting", desc := "(II)V" } : MethodName) ({ cls := "HeadDots$State", name := "changeSetting", desc := "(II)V" } : MethodName)) ∈ bigW := bw 489 (by decide +kernel) (by decide +kernel)
theorem wd_490 : (Cond.code ({ cls := "HeadDots$State", name := "changeSetting", desc := "(II)V" } : MethodName) prog_4_method_4_code 3 (Option.none : Option ClassFile.FieldType)) ∈ bigW := bw 490 (by decide +kernel) (by decide +kernel)
theorem wd_492 : (Cond.static ({ cls := "HeadDots", name := "put", desc := "([III)V" } : MethodName)) ∈ bigW := bw 492 (by decide +kernel) (by decide +kernel)
theorem wd_493 : (Cond.code ({ cls := "HeadDots", name := "put", desc := "([III)V" } : MethodName) prog_1_method_45_code 3 (Option.none : Option ClassFile.FieldType)) ∈ bigW := bw 493 (by decide +kernel) (by decide +kernel)
theorem wd_500 : (Cond.instanceMethod ({ cls := "HeadDots$State", name := "dotsAtOnce", desc := "()I" } : MethodName)) ∈ bigW := bw 500 (by decide +kernel) (by decide +kernel)
theorem wd_501 : (Cond.code ({ cls := "HeadDots$State", name := "dotsAtOnce", desc := "()I" } : MethodName) prog_4_method_8_code 2 (Option.some ClassFile.FieldType.int)) ∈ bigW := bw 501 (by decide +kernel) (by decide +kernel)
theorem wd_510 : (Cond.instanceMethod ({ cls := "HeadDots$State", name := "preparePulses", desc := "(I)V" } : MethodName)) ∈ bigW := bw 510 (by decide +kernel) (by decide +kernel)
theorem wd_511 : (Cond.code ({ cls := "HeadDots$State", name := "preparePulses", desc := "(I)V" } : MethodName) prog_4_method_9_code 4 (Option.none : Option ClassFile.FieldType)) ∈ bigW := bw 511 (by decide +kernel) (by decide +kernel)
theorem wd_514 : (Cond.instanceMethod ({ cls := "HeadDots$State", name := "dotsOfPart", desc := "(IIII)I" } : MethodName)) ∈ bigW := bw 514 (by decide +kernel) (by decide +kernel)
theorem wd_515 : (Cond.code ({ cls := "HeadDots$State", name := "dotsOfPart", desc := "(IIII)I" } : MethodName) prog_4_method_10_code 10 (Option.some ClassFile.FieldType.int)) ∈ bigW := bw 515 (by decide +kernel) (by decide +kernel)
theorem wd_518 : (Cond.instanceMethod ({ cls := "HeadDots$State", name := "waitOfPart", desc := "(I)I" } : MethodName)) ∈ bigW := bw 518 (by decide +kernel) (by decide +kernel)
theorem wd_519 : (Cond.code ({ cls := "HeadDots$State", name := "waitOfPart", desc := "(I)I" } : MethodName) prog_4_method_11_code 5 (Option.some ClassFile.FieldType.int)) ∈ bigW := bw 519 (by decide +kernel) (by decide +kernel)
theorem wd_521 : (Cond.instanceMethod ({ cls := "HeadDots$State", name := "passTime", desc := "(I)V" } : MethodName)) ∈ bigW := bw 521 (by decide +kernel) (by decide +kernel)
theorem wd_522 : (Cond.selects "HeadDots$State" ({ cls := "HeadDots$State", name := "passTime", desc := "(I)V" } : MethodName) ({ cls := "HeadDots$State", name := "passTime", desc := "(I)V" } : MethodName)) ∈ bigW := bw 522 (by decide +kernel) (by decide +kernel)
theorem wd_523 : (Cond.code ({ cls := "HeadDots$State", name := "passTime", desc := "(I)V" } : MethodName) prog_4_method_18_code 3 (Option.none : Option ClassFile.FieldType)) ∈ bigW := bw 523 (by decide +kernel) (by decide +kernel)
theorem wd_524 : (Cond.methodLink "HeadDots$State" 143 ({ cls := "HeadDots$State", name := "cooledFor", desc := "(II)I" } : MethodName)) ∈ bigW := bw 524 (by decide +kernel) (by decide +kernel)
theorem wd_526 : (Cond.instanceMethod ({ cls := "HeadDots$State", name := "cooledFor", desc := "(II)I" } : MethodName)) ∈ bigW := bw 526 (by decide +kernel) (by decide +kernel)
theorem wd_527 : (Cond.code ({ cls := "HeadDots$State", name := "cooledFor", desc := "(II)I" } : MethodName) prog_4_method_19_code 6 (Option.some ClassFile.FieldType.int)) ∈ bigW := bw 527 (by decide +kernel) (by decide +kernel)
theorem wd_530 : (Cond.instanceMethod ({ cls := "HeadDots$State", name := "heatPart", desc := "(I)I" } : MethodName)) ∈ bigW := bw 530 (by decide +kernel) (by decide +kernel)
theorem wd_531 : (Cond.code ({ cls := "HeadDots$State", name := "heatPart", desc := "(I)I" } : MethodName) prog_4_method_12_code 4 (Option.some ClassFile.FieldType.int)) ∈ bigW := bw 531 (by decide +kernel) (by decide +kernel)
theorem wd_532 : (Cond.methodLink "HeadDots$State" 133 ({ cls := "HeadDots$State", name := "isDark", desc := "(I)Z" } : MethodName)) ∈ bigW := bw 532 (by decide +kernel) (by decide +kernel)
theorem wd_534 : (Cond.instanceMethod ({ cls := "HeadDots$State", name := "isDark", desc := "(I)Z" } : MethodName)) ∈ bigW := bw 534 (by decide +kernel) (by decide +kernel)
theorem wd_535 : (Cond.code ({ cls := "HeadDots$State", name := "isDark", desc := "(I)Z" } : MethodName) prog_4_method_17_code 2 (Option.some ClassFile.FieldType.boolean)) ∈ bigW := bw 535 (by decide +kernel) (by decide +kernel)
theorem wd_540 : (Cond.instanceMethod ({ cls := "HeadDots$State", name := "longestPulse", desc := "(I)I" } : MethodName)) ∈ bigW := bw 540 (by decide +kernel) (by decide +kernel)
theorem wd_541 : (Cond.code ({ cls := "HeadDots$State", name := "longestPulse", desc := "(I)I" } : MethodName) prog_4_method_13_code 4 (Option.some ClassFile.FieldType.int)) ∈ bigW := bw 541 (by decide +kernel) (by decide +kernel)
theorem wd_548 : (Cond.code ({ cls := "HeadDots$Strip", name := "pushFront", desc := "([II)V" } : MethodName) prog_5_method_4_code 3 (Option.none : Option ClassFile.FieldType)) ∈ bigW := bw 548 (by decide +kernel) (by decide +kernel)
theorem wd_558 : (Cond.code ({ cls := "HeadDots$Totals", name := "addDots", desc := "([II)V" } : MethodName) prog_6_method_4_code 3 (Option.none : Option ClassFile.FieldType)) ∈ bigW := bw 558 (by decide +kernel) (by decide +kernel)
theorem wd_570 : (Cond.instanceMethod ({ cls := "HeadDots$State", name := "timeUntilCool", desc := "(I)I" } : MethodName)) ∈ bigW := bw 570 (by decide +kernel) (by decide +kernel)
theorem wd_571 : (Cond.selects "HeadDots$State" ({ cls := "HeadDots$State", name := "timeUntilCool", desc := "(I)I" } : MethodName) ({ cls := "HeadDots$State", name := "timeUntilCool", desc := "(I)I" } : MethodName)) ∈ bigW := bw 571 (by decide +kernel) (by decide +kernel)
theorem wd_572 : (Cond.code ({ cls := "HeadDots$State", name := "timeUntilCool", desc := "(I)I" } : MethodName) prog_4_method_22_code 2 (Option.some ClassFile.FieldType.int)) ∈ bigW := bw 572 (by decide +kernel) (by decide +kernel)
theorem wd_573 : (Cond.methodLink "HeadDots$State" 150 ({ cls := "HeadDots$State", name := "hottestDot", desc := "()I" } : MethodName)) ∈ bigW := bw 573 (by decide +kernel) (by decide +kernel)
theorem wd_575 : (Cond.instanceMethod ({ cls := "HeadDots$State", name := "leastDarkSetting", desc := "(I)I" } : MethodName)) ∈ bigW := bw 575 (by decide +kernel) (by decide +kernel)
theorem wd_576 : (Cond.selects "HeadDots$State" ({ cls := "HeadDots$State", name := "leastDarkSetting", desc := "(I)I" } : MethodName) ({ cls := "HeadDots$State", name := "leastDarkSetting", desc := "(I)I" } : MethodName)) ∈ bigW := bw 576 (by decide +kernel) (by decide +kernel)
theorem wd_577 : (Cond.code ({ cls := "HeadDots$State", name := "leastDarkSetting", desc := "(I)I" } : MethodName) prog_4_method_24_code 6 (Option.some ClassFile.FieldType.int)) ∈ bigW := bw 577 (by decide +kernel) (by decide +kernel)
theorem wd_607 : (Cond.code ({ cls := "HeadDots", name := "isLine", desc := "(I)Z" } : MethodName) prog_1_method_41_code 1 (Option.some ClassFile.FieldType.boolean)) ∈ bigW := bw 607 (by decide +kernel) (by decide +kernel)
theorem wd_608 : (Cond.methodLink "HeadDots" 66 ({ cls := "HeadDots", name := "isWithin", desc := "(III)Z" } : MethodName)) ∈ bigW := bw 608 (by decide +kernel) (by decide +kernel)
theorem wd_719 : (Cond.instanceMethod ({ cls := "HeadDots$State", name := "changePaper", desc := "(I)V" } : MethodName)) ∈ bigW := bw 719 (by decide +kernel) (by decide +kernel)
theorem wd_720 : (Cond.selects "HeadDots$State" ({ cls := "HeadDots$State", name := "changePaper", desc := "(I)V" } : MethodName) ({ cls := "HeadDots$State", name := "changePaper", desc := "(I)V" } : MethodName)) ∈ bigW := bw 720 (by decide +kernel) (by decide +kernel)
theorem wd_721 : (Cond.code ({ cls := "HeadDots$State", name := "changePaper", desc := "(I)V" } : MethodName) prog_4_method_5_code 2 (Option.none : Option ClassFile.FieldType)) ∈ bigW := bw 721 (by decide +kernel) (by decide +kernel)
theorem wd_833 : (Cond.code ({ cls := "HeadDots", name := "isDot", desc := "(I)Z" } : MethodName) prog_1_method_42_code 1 (Option.some ClassFile.FieldType.boolean)) ∈ bigW := bw 833 (by decide +kernel) (by decide +kernel)
theorem wd_905 : (Cond.laysFinal "HeadDotsModel" "HeadDotsModel" "row" "[I") ∈ bigW := bw 905 (by decide +kernel) (by decide +kernel)
theorem wd_907 : (Cond.laysFinal "HeadDotsModel" "HeadDotsModel" "saved" "[I") ∈ bigW := bw 907 (by decide +kernel) (by decide +kernel)
theorem wd_909 : (Cond.lays "HeadDotsModel" "HeadDotsModel" "savedMany" "I") ∈ bigW := bw 909 (by decide +kernel) (by decide +kernel)
theorem wd_911 : (Cond.laysFinal "HeadDotsModel" "HeadDotsModel" "snapshot" "[I") ∈ bigW := bw 911 (by decide +kernel) (by decide +kernel)
theorem wd_913 : (Cond.lays "HeadDotsModel" "HeadDotsModel" "isKept" "Z") ∈ bigW := bw 913 (by decide +kernel) (by decide +kernel)
theorem wd_915 : (Cond.laysFinal "HeadDotsModel" "HeadDotsModel" "aside" "[I") ∈ bigW := bw 915 (by decide +kernel) (by decide +kernel)
theorem wd_917 : (Cond.lays "HeadDotsModel" "HeadDotsModel" "thrown" "I") ∈ bigW := bw 917 (by decide +kernel) (by decide +kernel)
theorem wd_919 : (Cond.lays "HeadDotsModel" "HeadDotsModel" "waits" "I") ∈ bigW := bw 919 (by decide +kernel) (by decide +kernel)
theorem wd_921 : (Cond.lays "HeadDotsModel" "HeadDotsModel" "dark" "I") ∈ bigW := bw 921 (by decide +kernel) (by decide +kernel)
theorem wd_923 : (Cond.lays "HeadDotsModel" "HeadDotsModel" "hottest" "I") ∈ bigW := bw 923 (by decide +kernel) (by decide +kernel)
theorem wd_925 : (Cond.laysFinal "HeadDotsModel" "HeadDotsModel" "buffer" "[I") ∈ bigW := bw 925 (by decide +kernel) (by decide +kernel)
theorem wd_927 : (Cond.lays "HeadDotsModel" "HeadDotsModel" "length" "I") ∈ bigW := bw 927 (by decide +kernel) (by decide +kernel)
theorem wd_929 : (Cond.lays "HeadDotsModel" "HeadDotsModel" "spot" "I") ∈ bigW := bw 929 (by decide +kernel) (by decide +kernel)
theorem wd_931 : (Cond.lays "HeadDotsModel" "HeadDotsModel" "parts" "I") ∈ bigW := bw 931 (by decide +kernel) (by decide +kernel)
theorem wd_933 : (Cond.laysFinal "HeadDotsModel" "HeadDotsModel" "kind" "[I") ∈ bigW := bw 933 (by decide +kernel) (by decide +kernel)
theorem wd_935 : (Cond.laysFinal "HeadDotsModel" "HeadDotsModel" "what" "[I") ∈ bigW := bw 935 (by decide +kernel) (by decide +kernel)
theorem wd_937 : (Cond.laysFinal "HeadDotsModel" "HeadDotsModel" "times" "[I") ∈ bigW := bw 937 (by decide +kernel) (by decide +kernel)
theorem wd_939 : (Cond.lays "HeadDotsModel" "HeadDotsModel" "hash" "J") ∈ bigW := bw 939 (by decide +kernel) (by decide +kernel)
theorem nf_0 {G : GT} {s : State} {H : Heap} (h : KN G s H) : va_Nw (.fieldLinkNest RX2 18 RX5 "SETTING_FIRST" "[I" "HeadDots") s := h.2.1.1 (RX2, 18, RX5, "SETTING_FIRST", "[I", "HeadDots") (List.mem_of_getElem? (i := 0) rfl)
theorem nf_1 {G : GT} {s : State} {H : Heap} (h : KN G s H) : va_Nw (.fieldLinkNest RX2 67 RX3 "size" "I" "HeadDots") s := h.2.1.1 (RX2, 67, RX3, "size", "I", "HeadDots") (List.mem_of_getElem? (i := 1) rfl)
theorem nf_2 {G : GT} {s : State} {H : Heap} (h : KN G s H) : va_Nw (.fieldLinkNest RX5 101 RX3 "size" "I" "HeadDots") s := h.2.1.1 (RX5, 101, RX3, "size", "I", "HeadDots") (List.mem_of_getElem? (i := 2) rfl)
theorem nf_3 {G : GT} {s : State} {H : Heap} (h : KN G s H) : va_Nw (.fieldLinkNest RX2 166 RX4 "dotsOf" "[I" "HeadDots") s := h.2.1.1 (RX2, 166, RX4, "dotsOf", "[I", "HeadDots") (List.mem_of_getElem? (i := 3) rfl)
theorem nf_4 {G : GT} {s : State} {H : Heap} (h : KN G s H) : va_Nw (.fieldLinkNest RX2 169 RX4 "faintOf" "[I" "HeadDots") s := h.2.1.1 (RX2, 169, RX4, "faintOf", "[I", "HeadDots") (List.mem_of_getElem? (i := 4) rfl)
theorem nf_5 {G : GT} {s : State} {H : Heap} (h : KN G s H) : va_Nw (.fieldLinkNest RX2 74 RX4 "time" "I" "HeadDots") s := h.2.1.1 (RX2, 74, RX4, "time", "I", "HeadDots") (List.mem_of_getElem? (i := 5) rfl)
theorem nf_6 {G : GT} {s : State} {H : Heap} (h : KN G s H) : va_Nw (.fieldLinkNest RX5 283 RX4 "time" "I" "HeadDots") s := h.2.1.1 (RX5, 283, RX4, "time", "I", "HeadDots") (List.mem_of_getElem? (i := 6) rfl)
theorem nf_7 {G : GT} {s : State} {H : Heap} (h : KN G s H) : va_Nw (.fieldLinkNest RX5 158 RX4 "lines" "I" "HeadDots") s := h.2.1.1 (RX5, 158, RX4, "lines", "I", "HeadDots") (List.mem_of_getElem? (i := 7) rfl)
theorem nf_8 {G : GT} {s : State} {H : Heap} (h : KN G s H) : va_Nw (.fieldLinkNest RX5 285 RX4 "parts" "I" "HeadDots") s := h.2.1.1 (RX5, 285, RX4, "parts", "I", "HeadDots") (List.mem_of_getElem? (i := 8) rfl)
theorem nf_9 {G : GT} {s : State} {H : Heap} (h : KN G s H) : va_Nw (.fieldLinkNest RX2 100 RX4 "waits" "I" "HeadDots") s := h.2.1.1 (RX2, 100, RX4, "waits", "I", "HeadDots") (List.mem_of_getElem? (i := 9) rfl)
theorem nf_10 {G : GT} {s : State} {H : Heap} (h : KN G s H) : va_Nw (.fieldLinkNest RX5 288 RX4 "waits" "I" "HeadDots") s := h.2.1.1 (RX5, 288, RX4, "waits", "I", "HeadDots") (List.mem_of_getElem? (i := 10) rfl)
theorem nf_11 {G : GT} {s : State} {H : Heap} (h : KN G s H) : va_Nw (.fieldLinkNest RX5 291 RX4 "dots" "I" "HeadDots") s := h.2.1.1 (RX5, 291, RX4, "dots", "I", "HeadDots") (List.mem_of_getElem? (i := 11) rfl)
theorem nf_12 {G : GT} {s : State} {H : Heap} (h : KN G s H) : va_Nw (.fieldLinkNest RX5 76 RX4 "faint" "I" "HeadDots") s := h.2.1.1 (RX5, 76, RX4, "faint", "I", "HeadDots") (List.mem_of_getElem? (i := 12) rfl)
theorem nf_13 {G : GT} {s : State} {H : Heap} (h : KN G s H) : va_Nw (.fieldLinkNest RX2 130 RX4 "hottest" "I" "HeadDots") s := h.2.1.1 (RX2, 130, RX4, "hottest", "I", "HeadDots") (List.mem_of_getElem? (i := 13) rfl)
theorem nf_14 {G : GT} {s : State} {H : Heap} (h : KN G s H) : va_Nw (.fieldLinkNest RX5 295 RX4 "hottest" "I" "HeadDots") s := h.2.1.1 (RX5, 295, RX4, "hottest", "I", "HeadDots") (List.mem_of_getElem? (i := 14) rfl)
theorem nf_15 {G : GT} {s : State} {H : Heap} (h : KN G s H) : va_Nw (.fieldLinkNest RX5 97 RX2 "strip" "LHeadDots$Strip;" "HeadDots") s := h.2.1.1 (RX5, 97, RX2, "strip", "LHeadDots$Strip;", "HeadDots") (List.mem_of_getElem? (i := 15) rfl)
theorem nf_16 {G : GT} {s : State} {H : Heap} (h : KN G s H) : va_Nw (.fieldLinkNest RX5 72 RX2 "totals" "LHeadDots$Totals;" "HeadDots") s := h.2.1.1 (RX5, 72, RX2, "totals", "LHeadDots$Totals;", "HeadDots") (List.mem_of_getElem? (i := 16) rfl)
theorem nf_17 {G : GT} {s : State} {H : Heap} (h : KN G s H) : va_Nw (.fieldLinkNest RX5 298 RX2 "paperKind" "I" "HeadDots") s := h.2.1.1 (RX5, 298, RX2, "paperKind", "I", "HeadDots") (List.mem_of_getElem? (i := 17) rfl)
theorem nf_18 {G : GT} {s : State} {H : Heap} (h : KN G s H) : va_Nw (.fieldLinkNest RX1 48 RX0 "length" "I" "HeadDots") s := h.2.1.1 (RX1, 48, RX0, "length", "I", "HeadDots") (List.mem_of_getElem? (i := 18) rfl)
theorem nf_19 {G : GT} {s : State} {H : Heap} (h : KN G s H) : va_Nw (.fieldLinkNest RX5 146 RX0 "length" "I" "HeadDots") s := h.2.1.1 (RX5, 146, RX0, "length", "I", "HeadDots") (List.mem_of_getElem? (i := 19) rfl)
theorem nf_20 {G : GT} {s : State} {H : Heap} (h : KN G s H) : va_Nw (.fieldLinkNest RX5 267 RX1 "kind" "I" "HeadDots") s := h.2.1.1 (RX5, 267, RX1, "kind", "I", "HeadDots") (List.mem_of_getElem? (i := 20) rfl)
theorem nf_21 {G : GT} {s : State} {H : Heap} (h : KN G s H) : va_Nw (.fieldLinkNest RX5 270 RX1 "dots" "I" "HeadDots") s := h.2.1.1 (RX5, 270, RX1, "dots", "I", "HeadDots") (List.mem_of_getElem? (i := 21) rfl)
theorem nf_22 {G : GT} {s : State} {H : Heap} (h : KN G s H) : va_Nw (.fieldLinkNest RX5 280 RX1 "paperKind" "I" "HeadDots") s := h.2.1.1 (RX5, 280, RX1, "paperKind", "I", "HeadDots") (List.mem_of_getElem? (i := 22) rfl)
theorem nf_23 {G : GT} {s : State} {H : Heap} (h : KN G s H) : va_Nw (.fieldLinkNest RX5 272 RX1 "number" "I" "HeadDots") s := h.2.1.1 (RX5, 272, RX1, "number", "I", "HeadDots") (List.mem_of_getElem? (i := 23) rfl)
theorem nf_24 {G : GT} {s : State} {H : Heap} (h : KN G s H) : va_Nw (.fieldLinkNest RX2 137 RX5 "PAPER_PULSE" "[I" "HeadDots") s := h.2.1.1 (RX2, 137, RX5, "PAPER_PULSE", "[I", "HeadDots") (List.mem_of_getElem? (i := 24) rfl)
theorem nf_25 {G : GT} {s : State} {H : Heap} (h : KN G s H) : va_Nw (.fieldLinkNest RX2 140 RX5 "PAPER_DARK" "[I" "HeadDots") s := h.2.1.1 (RX2, 140, RX5, "PAPER_DARK", "[I", "HeadDots") (List.mem_of_getElem? (i := 25) rfl)
theorem nf_26 {G : GT} {s : State} {H : Heap} (h : KN G s H) : va_Nw (.fieldLinkNest RX2 153 RX5 "SETTING_MOST" "[I" "HeadDots") s := h.2.1.1 (RX2, 153, RX5, "SETTING_MOST", "[I", "HeadDots") (List.mem_of_getElem? (i := 26) rfl)
theorem nf_27 {G : GT} {s : State} {H : Heap} (h : KN G s H) : va_Nw (.fieldLinkNest RX2 156 RX5 "SETTING_LEAST" "[I" "HeadDots") s := h.2.1.1 (RX2, 156, RX5, "SETTING_LEAST", "[I", "HeadDots") (List.mem_of_getElem? (i := 27) rfl)
theorem nm_0 {G : GT} {s : State} {H : Heap} (h : KN G s H) : va_Nw (.methodLinkNest RX2 24 yX5_copyRow "HeadDots") s := h.2.1.2 (RX2, 24, yX5_copyRow, "HeadDots") (List.mem_of_getElem? (i := 0) rfl)
theorem nm_1 {G : GT} {s : State} {H : Heap} (h : KN G s H) : va_Nw (.methodLinkNest RX0 23 yX5_at "HeadDots") s := h.2.1.2 (RX0, 23, yX5_at, "HeadDots") (List.mem_of_getElem? (i := 1) rfl)
theorem nm_2 {G : GT} {s : State} {H : Heap} (h : KN G s H) : va_Nw (.methodLinkNest RX1 124 yX5_isWithin "HeadDots") s := h.2.1.2 (RX1, 124, yX5_isWithin, "HeadDots") (List.mem_of_getElem? (i := 2) rfl)
theorem nm_3 {G : GT} {s : State} {H : Heap} (h : KN G s H) : va_Nw (.methodLinkNest RX3 25 yX5_copyRow "HeadDots") s := h.2.1.2 (RX3, 25, yX5_copyRow, "HeadDots") (List.mem_of_getElem? (i := 3) rfl)
theorem nm_4 {G : GT} {s : State} {H : Heap} (h : KN G s H) : va_Nw (.methodLinkNest RX4 40 yX5_copyRow "HeadDots") s := h.2.1.2 (RX4, 40, yX5_copyRow, "HeadDots") (List.mem_of_getElem? (i := 4) rfl)
theorem nm_5 {G : GT} {s : State} {H : Heap} (h : KN G s H) : va_Nw (.methodLinkNest RX2 59 yX5_at "HeadDots") s := h.2.1.2 (RX2, 59, yX5_at, "HeadDots") (List.mem_of_getElem? (i := 5) rfl)
theorem nm_6 {G : GT} {s : State} {H : Heap} (h : KN G s H) : va_Nw (.methodLinkNest RX2 124 yX5_bitOf "HeadDots") s := h.2.1.2 (RX2, 124, yX5_bitOf, "HeadDots") (List.mem_of_getElem? (i := 6) rfl)
theorem nm_7 {G : GT} {s : State} {H : Heap} (h : KN G s H) : va_Nw (.methodLinkNest RX3 43 yX5_at "HeadDots") s := h.2.1.2 (RX3, 43, yX5_at, "HeadDots") (List.mem_of_getElem? (i := 7) rfl)
theorem nm_8 {G : GT} {s : State} {H : Heap} (h : KN G s H) : va_Nw (.methodLinkNest RX3 54 yX5_bitOf "HeadDots") s := h.2.1.2 (RX3, 54, yX5_bitOf, "HeadDots") (List.mem_of_getElem? (i := 8) rfl)
theorem nm_9 {G : GT} {s : State} {H : Heap} (h : KN G s H) : va_Nw (.methodLinkNest RX2 63 yX5_put "HeadDots") s := h.2.1.2 (RX2, 63, yX5_put, "HeadDots") (List.mem_of_getElem? (i := 9) rfl)
theorem nm_10 {G : GT} {s : State} {H : Heap} (h : KN G s H) : va_Nw (.methodLinkNest RX3 39 yX5_put "HeadDots") s := h.2.1.2 (RX3, 39, yX5_put, "HeadDots") (List.mem_of_getElem? (i := 10) rfl)
theorem nm_11 {G : GT} {s : State} {H : Heap} (h : KN G s H) : va_Nw (.methodLinkNest RX4 54 yX5_bitOf "HeadDots") s := h.2.1.2 (RX4, 54, yX5_bitOf, "HeadDots") (List.mem_of_getElem? (i := 11) rfl)
theorem nm_12 {G : GT} {s : State} {H : Heap} (h : KN G s H) : va_Nw (.methodLinkNest RX0 17 yX5_put "HeadDots") s := h.2.1.2 (RX0, 17, yX5_put, "HeadDots") (List.mem_of_getElem? (i := 12) rfl)
theorem fwX0 : FW RX0 TX0 2 tyX0 := ⟨(show ∀ w ∈ u_ws RX0 TX0 2, w ∈ bigW from List.forall_mem_cons.mpr ⟨wd_155, List.forall_mem_cons.mpr ⟨wd_157, List.forall_mem_nil _⟩⟩), tyX0_ok, nmX0⟩
theorem fwX1 : FW RX1 TX1 10 tyX1 := ⟨(show ∀ w ∈ u_ws RX1 TX1 10, w ∈ bigW from List.forall_mem_cons.mpr ⟨wd_181, List.forall_mem_cons.mpr ⟨wd_183, List.forall_mem_cons.mpr ⟨wd_185, List.forall_mem_cons.mpr ⟨wd_187, List.forall_mem_cons.mpr ⟨wd_189, List.forall_mem_cons.mpr ⟨wd_191, List.forall_mem_cons.mpr ⟨wd_193, List.forall_mem_cons.mpr ⟨wd_195, List.forall_mem_cons.mpr ⟨wd_197, List.forall_mem_cons.mpr ⟨wd_199, List.forall_mem_nil _⟩⟩⟩⟩⟩⟩⟩⟩⟩⟩), tyX1_ok, nmX1⟩
theorem fwX2 : FW RX2 TX2 8 tyX2 := ⟨(show ∀ w ∈ u_ws RX2 TX2 8, w ∈ bigW from List.forall_mem_cons.mpr ⟨wd_127, List.forall_mem_cons.mpr ⟨wd_129, List.forall_mem_cons.mpr ⟨wd_131, List.forall_mem_cons.mpr ⟨wd_133, List.forall_mem_cons.mpr ⟨wd_135, List.forall_mem_cons.mpr ⟨wd_137, List.forall_mem_cons.mpr ⟨wd_139, List.forall_mem_cons.mpr ⟨wd_141, List.forall_mem_nil _⟩⟩⟩⟩⟩⟩⟩⟩), tyX2_ok, nmX2⟩
theorem fwX3 : FW RX3 TX3 4 tyX3 := ⟨(show ∀ w ∈ u_ws RX3 TX3 4, w ∈ bigW from List.forall_mem_cons.mpr ⟨wd_60, List.forall_mem_cons.mpr ⟨wd_62, List.forall_mem_cons.mpr ⟨wd_64, List.forall_mem_cons.mpr ⟨wd_66, List.forall_mem_nil _⟩⟩⟩⟩), tyX3_ok, nmX3⟩
theorem fwX4 : FW RX4 TX4 9 tyX4 := ⟨(show ∀ w ∈ u_ws RX4 TX4 9, w ∈ bigW from List.forall_mem_cons.mpr ⟨wd_97, List.forall_mem_cons.mpr ⟨wd_99, List.forall_mem_cons.mpr ⟨wd_101, List.forall_mem_cons.mpr ⟨wd_103, List.forall_mem_cons.mpr ⟨wd_105, List.forall_mem_cons.mpr ⟨wd_107, List.forall_mem_cons.mpr ⟨wd_109, List.forall_mem_cons.mpr ⟨wd_111, List.forall_mem_cons.mpr ⟨wd_113, List.forall_mem_nil _⟩⟩⟩⟩⟩⟩⟩⟩⟩), tyX4_ok, nmX4⟩
theorem fwX5 : FW RX5 TX5 8 tyX5 := ⟨(show ∀ w ∈ u_ws RX5 TX5 8, w ∈ bigW from List.forall_mem_cons.mpr ⟨wd_211, List.forall_mem_cons.mpr ⟨wd_213, List.forall_mem_cons.mpr ⟨wd_215, List.forall_mem_cons.mpr ⟨wd_217, List.forall_mem_cons.mpr ⟨wd_219, List.forall_mem_cons.mpr ⟨wd_221, List.forall_mem_cons.mpr ⟨wd_223, List.forall_mem_cons.mpr ⟨wd_225, List.forall_mem_nil _⟩⟩⟩⟩⟩⟩⟩⟩), tyX5_ok, nmX5⟩
theorem fwX6 : FW RX6 TX6 18 tyX6 := ⟨(show ∀ w ∈ u_ws RX6 TX6 18, w ∈ bigW from List.forall_mem_cons.mpr ⟨wd_905, List.forall_mem_cons.mpr ⟨wd_907, List.forall_mem_cons.mpr ⟨wd_909, List.forall_mem_cons.mpr ⟨wd_911, List.forall_mem_cons.mpr ⟨wd_913, List.forall_mem_cons.mpr ⟨wd_915, List.forall_mem_cons.mpr ⟨wd_917, List.forall_mem_cons.mpr ⟨wd_919, List.forall_mem_cons.mpr ⟨wd_921, List.forall_mem_cons.mpr ⟨wd_923, List.forall_mem_cons.mpr ⟨wd_925, List.forall_mem_cons.mpr ⟨wd_927, List.forall_mem_cons.mpr ⟨wd_929, List.forall_mem_cons.mpr ⟨wd_931, List.forall_mem_cons.mpr ⟨wd_933, List.forall_mem_cons.mpr ⟨wd_935, List.forall_mem_cons.mpr ⟨wd_937, List.forall_mem_cons.mpr ⟨wd_939, List.forall_mem_nil _⟩⟩⟩⟩⟩⟩⟩⟩⟩⟩⟩⟩⟩⟩⟩⟩⟩⟩), tyX6_ok, nmX6⟩
theorem mwX5_at : MW yX5_at cX5_at 2 (some .int) 2 := ⟨wd_250, wd_1, by decide, by decide, by decide +kernel⟩
theorem mwX5_bitOf : MW yX5_bitOf cX5_bitOf 2 (some .int) 2 := ⟨wd_434, wd_1, by decide, by decide, by decide +kernel⟩
theorem mwX5_isWithin : MW yX5_isWithin cX5_isWithin 3 (some .boolean) 3 := ⟨wd_344, wd_1, by decide, by decide, by decide +kernel⟩
theorem mwX5_isLine : MW yX5_isLine cX5_isLine 1 (some .boolean) 1 := ⟨wd_607, wd_1, by decide, by decide, by decide +kernel⟩
theorem mwX5_isDot : MW yX5_isDot cX5_isDot 1 (some .boolean) 1 := ⟨wd_833, wd_1, by decide, by decide, by decide +kernel⟩
theorem mwX2_cooled : MW yX2_cooled cX2_cooled 3 (some .int) 2 := ⟨wd_456, wd_2, by decide, by decide, by decide +kernel⟩
theorem mwX2_setting : MW yX2_setting cX2_setting 2 (some .int) 1 := ⟨wd_418, wd_2, by decide, by decide, by decide +kernel⟩
theorem mwX2_dotsAtOnce : MW yX2_dotsAtOnce cX2_dotsAtOnce 2 (some .int) 0 := ⟨wd_501, wd_2, by decide, by decide, by decide +kernel⟩
theorem mwX2_pulseIn : MW yX2_pulseIn cX2_pulseIn 5 (some .int) 3 := ⟨wd_442, wd_2, by decide, by decide, by decide +kernel⟩
theorem mwX2_pulseAlone : MW yX2_pulseAlone cX2_pulseAlone 3 (some .int) 2 := ⟨wd_438, wd_2, by decide, by decide, by decide +kernel⟩
theorem mwX2_cooledFor : MW yX2_cooledFor cX2_cooledFor 6 (some .int) 2 := ⟨wd_527, wd_2, by decide, by decide, by decide +kernel⟩
theorem mwX2_timeDownTo : MW yX2_timeDownTo cX2_timeDownTo 6 (some .int) 2 := ⟨wd_452, wd_2, by decide, by decide, by decide +kernel⟩
theorem mwX2_waitFor : MW yX2_waitFor cX2_waitFor 3 (some .int) 2 := ⟨wd_448, wd_2, by decide, by decide, by decide +kernel⟩
theorem mwX2_isDark : MW yX2_isDark cX2_isDark 2 (some .boolean) 1 := ⟨wd_535, wd_2, by decide, by decide, by decide +kernel⟩
theorem mwX2_hottestDot : MW yX2_hottestDot cX2_hottestDot 3 (some .int) 0 := ⟨wd_411, wd_2, by decide, by decide, by decide +kernel⟩
theorem mwX2_timeUntilCool : MW yX2_timeUntilCool cX2_timeUntilCool 2 (some .int) 1 := ⟨wd_572, wd_2, by decide, by decide, by decide +kernel⟩
theorem mwX2_leastDarkSetting : MW yX2_leastDarkSetting cX2_leastDarkSetting 6 (some .int) 1 := ⟨wd_577, wd_2, by decide, by decide, by decide +kernel⟩
theorem mwX2_dotsOfPart : MW yX2_dotsOfPart cX2_dotsOfPart 10 (some .int) 4 := ⟨wd_515, wd_2, by decide, by decide, by decide +kernel⟩
theorem mwX2_waitOfPart : MW yX2_waitOfPart cX2_waitOfPart 5 (some .int) 1 := ⟨wd_519, wd_2, by decide, by decide, by decide +kernel⟩
theorem mwX2_longestPulse : MW yX2_longestPulse cX2_longestPulse 4 (some .int) 1 := ⟨wd_541, wd_2, by decide, by decide, by decide +kernel⟩
theorem mwX2_numberOfDot : MW yX2_numberOfDot cX2_numberOfDot 3 (some .int) 2 := ⟨wd_431, wd_2, by decide, by decide, by decide +kernel⟩
theorem mwX3_numberOfLine : MW yX3_numberOfLine cX3_numberOfLine 3 (some .int) 2 := ⟨wd_464, wd_5, by decide, by decide, by decide +kernel⟩
theorem mwX3_textLength : MW yX3_textLength cX3_textLength 2 (some .int) 1 := ⟨wd_469, wd_5, by decide, by decide, by decide +kernel⟩
theorem mwX3_sign : MW yX3_sign cX3_sign 3 (some .int) 2 := ⟨wd_474, wd_5, by decide, by decide, by decide +kernel⟩
theorem mwX4_dotByDot : MW yX4_dotByDot cX4_dotByDot 3 (some .int) 0 := ⟨wd_407, wd_6, by decide, by decide, by decide +kernel⟩
theorem mwX5_put : MW yX5_put cX5_put 3 none 3 := ⟨wd_493, wd_1, by decide, by decide, by decide +kernel⟩
theorem mwX3_pushFront : MW yX3_pushFront cX3_pushFront 3 none 2 := ⟨wd_548, wd_5, by decide, by decide, by decide +kernel⟩
theorem mwX4_addDots : MW yX4_addDots cX4_addDots 3 none 2 := ⟨wd_558, wd_6, by decide, by decide, by decide +kernel⟩
theorem mwX2_preparePulses : MW yX2_preparePulses cX2_preparePulses 4 none 1 := ⟨wd_511, wd_2, by decide, by decide, by decide +kernel⟩
theorem mwX2_heatPart : MW yX2_heatPart cX2_heatPart 4 (some .int) 1 := ⟨wd_531, wd_2, by decide, by decide, by decide +kernel⟩
theorem mwX2_passTime : MW yX2_passTime cX2_passTime 3 none 1 := ⟨wd_523, wd_2, by decide, by decide, by decide +kernel⟩
theorem mwX2_changePaper : MW yX2_changePaper cX2_changePaper 2 none 1 := ⟨wd_721, wd_2, by decide, by decide, by decide +kernel⟩
theorem mwX2_changeSetting : MW yX2_changeSetting cX2_changeSetting 3 none 2 := ⟨wd_490, wd_2, by decide, by decide, by decide +kernel⟩
theorem iwX2_setting : IW yX2_setting := ⟨wd_416, wd_417⟩
theorem iwX2_dotsAtOnce : IW yX2_dotsAtOnce := ⟨wd_500, bws 19 (by decide +kernel) (by decide +kernel)⟩
theorem iwX2_pulseIn : IW yX2_pulseIn := ⟨wd_441, bws 13 (by decide +kernel) (by decide +kernel)⟩
theorem iwX2_pulseAlone : IW yX2_pulseAlone := ⟨wd_437, bws 12 (by decide +kernel) (by decide +kernel)⟩
theorem iwX2_cooledFor : IW yX2_cooledFor := ⟨wd_526, bws 23 (by decide +kernel) (by decide +kernel)⟩
theorem iwX2_timeDownTo : IW yX2_timeDownTo := ⟨wd_451, bws 15 (by decide +kernel) (by decide +kernel)⟩
theorem iwX2_waitFor : IW yX2_waitFor := ⟨wd_447, bws 14 (by decide +kernel) (by decide +kernel)⟩
theorem iwX2_isDark : IW yX2_isDark := ⟨wd_534, bws 25 (by decide +kernel) (by decide +kernel)⟩
theorem iwX2_hottestDot : IW yX2_hottestDot := ⟨wd_409, wd_410⟩
theorem iwX2_timeUntilCool : IW yX2_timeUntilCool := ⟨wd_570, wd_571⟩
theorem iwX2_leastDarkSetting : IW yX2_leastDarkSetting := ⟨wd_575, wd_576⟩
theorem iwX2_dotsOfPart : IW yX2_dotsOfPart := ⟨wd_514, bws 21 (by decide +kernel) (by decide +kernel)⟩
theorem iwX2_waitOfPart : IW yX2_waitOfPart := ⟨wd_518, bws 22 (by decide +kernel) (by decide +kernel)⟩
theorem iwX2_longestPulse : IW yX2_longestPulse := ⟨wd_540, bws 26 (by decide +kernel) (by decide +kernel)⟩
theorem iwX2_numberOfDot : IW yX2_numberOfDot := ⟨wd_429, wd_430⟩
theorem iwX3_numberOfLine : IW yX3_numberOfLine := ⟨wd_462, wd_463⟩
theorem iwX3_textLength : IW yX3_textLength := ⟨wd_467, wd_468⟩
theorem iwX3_sign : IW yX3_sign := ⟨wd_472, wd_473⟩
theorem iwX4_dotByDot : IW yX4_dotByDot := ⟨wd_405, wd_406⟩
theorem iwX2_preparePulses : IW yX2_preparePulses := ⟨wd_510, bws 20 (by decide +kernel) (by decide +kernel)⟩
theorem iwX2_heatPart : IW yX2_heatPart := ⟨wd_530, bws 24 (by decide +kernel) (by decide +kernel)⟩
theorem iwX2_passTime : IW yX2_passTime := ⟨wd_521, wd_522⟩
theorem iwX2_changePaper : IW yX2_changePaper := ⟨wd_719, wd_720⟩
theorem iwX2_changeSetting : IW yX2_changeSetting := ⟨wd_488, wd_489⟩
