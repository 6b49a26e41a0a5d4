def bigW : List Cond := lw_tbl.filter goodWord
theorem bw_in {w : Cond} (h : w ∈ tables_1) (hg : goodWord w = true) : w ∈ bigW := List.mem_filter.mpr ⟨List.mem_append_right _ h, hg⟩
theorem bws {w : Cond} (i : Nat) (h : (k2_sels lw_privs)[i]? = some w) (hg : goodWord w = true) : w ∈ bigW := List.mem_filter.mpr ⟨List.mem_append_left _ (List.mem_of_getElem? h), hg⟩
theorem bw1 {w : Cond} (i : Nat) (h : tables_1_1[i]? = some w) (hg : goodWord w = true) : w ∈ bigW := bw_in (List.mem_append_left _ (List.mem_of_getElem? h)) hg
theorem bw2 {w : Cond} (i : Nat) (h : tables_1_2[i]? = some w) (hg : goodWord w = true) : w ∈ bigW := bw_in (List.mem_append_right _ (List.mem_append_left _ (List.mem_of_getElem? h))) hg
theorem bw3 {w : Cond} (i : Nat) (h : tables_1_3[i]? = some w) (hg : goodWord w = true) : w ∈ bigW := bw_in (List.mem_append_right _ (List.mem_append_right _ (List.mem_of_getElem? h))) hg
set_option maxRecDepth 20000 in
theorem wd_0 : (Cond.initialized "HeadDotsLaw") ∈ bigW := bw1 0 rfl rfl
set_option maxRecDepth 20000 in
theorem wd_1 : (Cond.initialized "HeadDots") ∈ bigW := bw1 1 rfl rfl
set_option maxRecDepth 20000 in
theorem wd_2 : (Cond.initialized "HeadDots$State") ∈ bigW := bw1 2 rfl rfl
set_option maxRecDepth 20000 in
theorem wd_3 : (Cond.initialized "java/lang/Math") ∈ bigW := bw1 3 rfl rfl
set_option maxRecDepth 20000 in
theorem wd_4 : (Cond.initialized "java/lang/System") ∈ bigW := bw1 4 rfl rfl
set_option maxRecDepth 20000 in
theorem wd_5 : (Cond.initialized "HeadDots$Strip") ∈ bigW := bw1 5 rfl rfl
set_option maxRecDepth 20000 in
theorem wd_6 : (Cond.initialized "HeadDots$Totals") ∈ bigW := bw1 6 rfl rfl
set_option maxRecDepth 20000 in
theorem wd_7 : (Cond.initialized "HeadDots$Buffer") ∈ bigW := bw1 7 rfl rfl
set_option maxRecDepth 20000 in
theorem wd_8 : (Cond.initialized "HeadDots$Reader") ∈ bigW := bw1 8 rfl rfl
set_option maxRecDepth 20000 in
theorem wd_12 : (Cond.initialized "java/lang/IndexOutOfBoundsException") ∈ bigW := bw1 12 rfl rfl
set_option maxRecDepth 20000 in
theorem wd_13 : (Cond.initialized "java/lang/IllegalArgumentException") ∈ bigW := bw1 13 rfl rfl
set_option maxRecDepth 20000 in
theorem wd_14 : (Cond.initialized "java/lang/Integer") ∈ bigW := bw1 14 rfl rfl
set_option maxRecDepth 20000 in
theorem wd_15 : (Cond.classLink "HeadDotsLaw" 36 "HeadDots") ∈ bigW := bw1 15 rfl rfl
set_option maxRecDepth 20000 in
theorem wd_16 : (Cond.instantiable "HeadDots" 8) ∈ bigW := bw1 16 rfl rfl
set_option maxRecDepth 20000 in
theorem wd_17 : (Cond.methodLink "HeadDotsLaw" 104 ({ cls := "HeadDots", name := "<init>", desc := "()V" } : MethodName)) ∈ bigW := bw1 17 rfl rfl
set_option maxRecDepth 20000 in
theorem wd_18 : (Cond.instanceMethod ({ cls := "HeadDots", name := "<init>", desc := "()V" } : MethodName)) ∈ bigW := bw1 18 rfl rfl
set_option maxRecDepth 20000 in
theorem wd_19 : (Cond.code ({ cls := "HeadDots", name := "<init>", desc := "()V" } : MethodName) prog_1_method_1_code 2 (Option.none : Option ClassFile.FieldType)) ∈ bigW := bw1 19 rfl rfl
set_option maxRecDepth 20000 in
theorem wd_20 : (Cond.methodLink "HeadDots" 1 ({ cls := "java/lang/Object", name := "<init>", desc := "()V" } : MethodName)) ∈ bigW := bw1 20 rfl rfl
set_option maxRecDepth 20000 in
theorem wd_21 : (Cond.instanceMethod ({ cls := "java/lang/Object", name := "<init>", desc := "()V" } : MethodName)) ∈ bigW := bw1 21 rfl rfl
set_option maxRecDepth 20000 in
theorem wd_22 : (Cond.code ({ cls := "java/lang/Object", name := "<init>", desc := "()V" } : MethodName) object_method_1_code 1 (Option.none : Option ClassFile.FieldType)) ∈ bigW := bw1 22 rfl rfl
set_option maxRecDepth 20000 in
theorem wd_23 : (Cond.classLink "HeadDots" 7 "HeadDots$State") ∈ bigW := bw1 23 rfl rfl
set_option maxRecDepth 20000 in
theorem wd_24 : (Cond.instantiable "HeadDots$State" 8) ∈ bigW := bw1 24 rfl rfl
set_option maxRecDepth 20000 in
theorem wd_25 : (Cond.methodLink "HeadDots" 9 ({ cls := "HeadDots$State", name := "<init>", desc := "()V" } : MethodName)) ∈ bigW := bw1 25 rfl rfl
set_option maxRecDepth 20000 in
theorem wd_26 : (Cond.instanceMethod ({ cls := "HeadDots$State", name := "<init>", desc := "()V" } : MethodName)) ∈ bigW := bw1 26 rfl rfl
set_option maxRecDepth 20000 in
theorem wd_27 : (Cond.code ({ cls := "HeadDots$State", name := "<init>", desc := "()V" } : MethodName) prog_4_method_1_code 1 (Option.none : Option ClassFile.FieldType)) ∈ bigW := bw1 27 rfl rfl
set_option maxRecDepth 20000 in
theorem wd_28 : (Cond.methodLink "HeadDots$State" 3 ({ cls := "java/lang/Object", name := "<init>", desc := "()V" } : MethodName)) ∈ bigW := bw1 28 rfl rfl
set_option maxRecDepth 20000 in
theorem wd_32 : (Cond.static ({ cls := "HeadDots", name := "copyRow", desc := "([I[I)V" } : MethodName)) ∈ bigW := bw1 32 rfl rfl
set_option maxRecDepth 20000 in
theorem wd_33 : (Cond.code ({ cls := "HeadDots", name := "copyRow", desc := "([I[I)V" } : MethodName) prog_1_method_46_code 2 (Option.none : Option ClassFile.FieldType)) ∈ bigW := bw1 33 rfl rfl
set_option maxRecDepth 20000 in
theorem wd_34 : (Cond.methodLink "HeadDots" 313 Lib.Math.min.name) ∈ bigW := bw1 34 (by decide +kernel) (by decide +kernel)
set_option maxRecDepth 20000 in
theorem wd_35 : (Cond.static Lib.Math.min.name) ∈ bigW := bw1 35 (by decide +kernel) (by decide +kernel)
set_option maxRecDepth 20000 in
theorem wd_36 : (Cond.code Lib.Math.min.name Lib.Math.min.code 2 (some .int)) ∈ bigW := bw1 36 (by decide +kernel) (by decide +kernel)
set_option maxRecDepth 20000 in
theorem wd_37 : (Cond.methodLink "HeadDots" 316 ({ cls := "java/lang/System", name := "arraycopy", desc := "(Ljava/lang/Object;ILjava/lang/Object;II)V" } : MethodName)) ∈ bigW := bw1 37 rfl rfl
set_option maxRecDepth 20000 in
theorem wd_38 : (Cond.static ({ cls := "java/lang/System", name := "arraycopy", desc := "(Ljava/lang/Object;ILjava/lang/Object;II)V" } : MethodName)) ∈ bigW := bw1 38 rfl rfl
set_option maxRecDepth 20000 in
theorem wd_39 : (Cond.native ({ cls := "java/lang/System", name := "arraycopy", desc := "(Ljava/lang/Object;ILjava/lang/Object;II)V" } : MethodName)) ∈ bigW := bw1 39 rfl rfl
set_option maxRecDepth 20000 in
theorem wd_40 : (Cond.classLink "HeadDots$State" 28 "HeadDots$Strip") ∈ bigW := bw1 40 rfl rfl
set_option maxRecDepth 20000 in
theorem wd_41 : (Cond.instantiable "HeadDots$Strip" 4) ∈ bigW := bw1 41 rfl rfl
set_option maxRecDepth 20000 in
theorem wd_42 : (Cond.methodLink "HeadDots$State" 30 ({ cls := "HeadDots$Strip", name := "<init>", desc := "()V" } : MethodName)) ∈ bigW := bw1 42 rfl rfl
set_option maxRecDepth 20000 in
theorem wd_43 : (Cond.instanceMethod ({ cls := "HeadDots$Strip", name := "<init>", desc := "()V" } : MethodName)) ∈ bigW := bw1 43 rfl rfl
set_option maxRecDepth 20000 in
theorem wd_44 : (Cond.code ({ cls := "HeadDots$Strip", name := "<init>", desc := "()V" } : MethodName) prog_5_method_1_code 1 (Option.none : Option ClassFile.FieldType)) ∈ bigW := bw1 44 rfl rfl
set_option maxRecDepth 20000 in
theorem wd_45 : (Cond.methodLink "HeadDots$Strip" 3 ({ cls := "java/lang/Object", name := "<init>", desc := "()V" } : MethodName)) ∈ bigW := bw1 45 rfl rfl
set_option maxRecDepth 20000 in
theorem wd_46 : (Cond.fieldLink "HeadDots$Strip" 11 "HeadDots$Strip" "dark" "[I") ∈ bigW := bw1 46 rfl rfl
set_option maxRecDepth 20000 in
theorem wd_47 : (Cond.fieldLink "HeadDots$Strip" 15 "HeadDots$Strip" "faint" "[I") ∈ bigW := bw1 47 rfl rfl
set_option maxRecDepth 20000 in
theorem wd_48 : (Cond.fieldLink "HeadDots$Strip" 18 "HeadDots$Strip" "parts" "[I") ∈ bigW := bw1 48 rfl rfl
set_option maxRecDepth 20000 in
theorem wd_49 : (Cond.fieldLink "HeadDots$Strip" 21 "HeadDots$Strip" "size" "I") ∈ bigW := bw1 49 rfl rfl
set_option maxRecDepth 20000 in
theorem wd_52 : (Cond.laysFinal "HeadDots$Strip" "HeadDots$Strip" "dark" "[I") ∈ bigW := bw1 52 rfl rfl
set_option maxRecDepth 20000 in
theorem wd_54 : (Cond.laysFinal "HeadDots$Strip" "HeadDots$Strip" "faint" "[I") ∈ bigW := bw1 54 rfl rfl
set_option maxRecDepth 20000 in
theorem wd_56 : (Cond.laysFinal "HeadDots$Strip" "HeadDots$Strip" "parts" "[I") ∈ bigW := bw1 56 rfl rfl
set_option maxRecDepth 20000 in
theorem wd_58 : (Cond.lays "HeadDots$Strip" "HeadDots$Strip" "size" "I") ∈ bigW := bw1 58 rfl rfl
set_option maxRecDepth 20000 in
theorem wd_61 : (Cond.arrayClass ClassFile.FieldType.int) ∈ bigW := bw1 61 rfl rfl
set_option maxRecDepth 20000 in
theorem wd_62 : (Cond.classLink "HeadDots$State" 35 "HeadDots$Totals") ∈ bigW := bw1 62 rfl rfl
set_option maxRecDepth 20000 in
theorem wd_63 : (Cond.instantiable "HeadDots$Totals" 9) ∈ bigW := bw1 63 rfl rfl
set_option maxRecDepth 20000 in
theorem wd_64 : (Cond.methodLink "HeadDots$State" 37 ({ cls := "HeadDots$Totals", name := "<init>", desc := "()V" } : MethodName)) ∈ bigW := bw1 64 rfl rfl
set_option maxRecDepth 20000 in
theorem wd_65 : (Cond.instanceMethod ({ cls := "HeadDots$Totals", name := "<init>", desc := "()V" } : MethodName)) ∈ bigW := bw1 65 rfl rfl
set_option maxRecDepth 20000 in
theorem wd_66 : (Cond.code ({ cls := "HeadDots$Totals", name := "<init>", desc := "()V" } : MethodName) prog_6_method_1_code 1 (Option.none : Option ClassFile.FieldType)) ∈ bigW := bw1 66 rfl rfl
set_option maxRecDepth 20000 in
theorem wd_67 : (Cond.methodLink "HeadDots$Totals" 3 ({ cls := "java/lang/Object", name := "<init>", desc := "()V" } : MethodName)) ∈ bigW := bw1 67 rfl rfl
set_option maxRecDepth 20000 in
theorem wd_68 : (Cond.fieldLink "HeadDots$Totals" 9 "HeadDots$Totals" "dotsOf" "[I") ∈ bigW := bw1 68 rfl rfl
set_option maxRecDepth 20000 in
theorem wd_70 : (Cond.fieldLink "HeadDots$Totals" 15 "HeadDots$Totals" "faintOf" "[I") ∈ bigW := bw1 70 rfl rfl
set_option maxRecDepth 20000 in
theorem wd_72 : (Cond.fieldLink "HeadDots$Totals" 18 "HeadDots$Totals" "time" "I") ∈ bigW := bw1 72 rfl rfl
set_option maxRecDepth 20000 in
theorem wd_75 : (Cond.fieldLink "HeadDots$Totals" 22 "HeadDots$Totals" "lines" "I") ∈ bigW := bw1 75 rfl rfl
set_option maxRecDepth 20000 in
theorem wd_77 : (Cond.fieldLink "HeadDots$Totals" 25 "HeadDots$Totals" "parts" "I") ∈ bigW := bw1 77 rfl rfl
set_option maxRecDepth 20000 in
theorem wd_79 : (Cond.fieldLink "HeadDots$Totals" 28 "HeadDots$Totals" "waits" "I") ∈ bigW := bw1 79 rfl rfl
set_option maxRecDepth 20000 in
theorem wd_82 : (Cond.fieldLink "HeadDots$Totals" 31 "HeadDots$Totals" "dots" "I") ∈ bigW := bw1 82 rfl rfl
set_option maxRecDepth 20000 in
theorem wd_84 : (Cond.fieldLink "HeadDots$Totals" 34 "HeadDots$Totals" "faint" "I") ∈ bigW := bw1 84 rfl rfl
set_option maxRecDepth 20000 in
theorem wd_86 : (Cond.fieldLink "HeadDots$Totals" 37 "HeadDots$Totals" "hottest" "I") ∈ bigW := bw1 86 rfl rfl
set_option maxRecDepth 20000 in
theorem wd_89 : (Cond.laysFinal "HeadDots$Totals" "HeadDots$Totals" "dotsOf" "[I") ∈ bigW := bw1 89 rfl rfl
set_option maxRecDepth 20000 in
theorem wd_91 : (Cond.laysFinal "HeadDots$Totals" "HeadDots$Totals" "faintOf" "[I") ∈ bigW := bw1 91 rfl rfl
set_option maxRecDepth 20000 in
theorem wd_93 : (Cond.lays "HeadDots$Totals" "HeadDots$Totals" "time" "I") ∈ bigW := bw1 93 rfl rfl
set_option maxRecDepth 20000 in
theorem wd_95 : (Cond.lays "HeadDots$Totals" "HeadDots$Totals" "lines" "I") ∈ bigW := bw1 95 rfl rfl
set_option maxRecDepth 20000 in
theorem wd_97 : (Cond.lays "HeadDots$Totals" "HeadDots$Totals" "parts" "I") ∈ bigW := bw1 97 rfl rfl
set_option maxRecDepth 20000 in
theorem wd_99 : (Cond.lays "HeadDots$Totals" "HeadDots$Totals" "waits" "I") ∈ bigW := bw1 99 rfl rfl
set_option maxRecDepth 20000 in
theorem wd_101 : (Cond.lays "HeadDots$Totals" "HeadDots$Totals" "dots" "I") ∈ bigW := bw1 101 rfl rfl
set_option maxRecDepth 20000 in
theorem wd_103 : (Cond.lays "HeadDots$Totals" "HeadDots$Totals" "faint" "I") ∈ bigW := bw1 103 rfl rfl
set_option maxRecDepth 20000 in
theorem wd_105 : (Cond.lays "HeadDots$Totals" "HeadDots$Totals" "hottest" "I") ∈ bigW := bw1 105 rfl rfl
set_option maxRecDepth 20000 in
theorem wd_108 : (Cond.fieldLink "HeadDots$State" 9 "HeadDots$State" "heat" "[I") ∈ bigW := bw1 108 rfl rfl
set_option maxRecDepth 20000 in
theorem wd_109 : (Cond.fieldLink "HeadDots$State" 15 "HeadDots$State" "pulses" "[I") ∈ bigW := bw1 109 rfl rfl
set_option maxRecDepth 20000 in
theorem wd_110 : (Cond.fieldLink "HeadDots$State" 21 "HeadDots$State" "settings" "[I") ∈ bigW := bw1 110 rfl rfl
set_option maxRecDepth 20000 in
theorem wd_111 : (Cond.fieldLink "HeadDots$State" 31 "HeadDots$State" "strip" "LHeadDots$Strip;") ∈ bigW := bw1 111 rfl rfl
set_option maxRecDepth 20000 in
theorem wd_113 : (Cond.fieldLink "HeadDots$State" 38 "HeadDots$State" "totals" "LHeadDots$Totals;") ∈ bigW := bw1 113 rfl rfl
set_option maxRecDepth 20000 in
theorem wd_115 : (Cond.fieldLink "HeadDots$State" 42 "HeadDots$State" "lastLine" "I") ∈ bigW := bw1 115 rfl rfl
set_option maxRecDepth 20000 in
theorem wd_116 : (Cond.fieldLink "HeadDots$State" 46 "HeadDots$State" "lineBefore" "I") ∈ bigW := bw1 116 rfl rfl
set_option maxRecDepth 20000 in
theorem wd_117 : (Cond.fieldLink "HeadDots$State" 49 "HeadDots$State" "paperKind" "I") ∈ bigW := bw1 117 rfl rfl
set_option maxRecDepth 20000 in
theorem wd_119 : (Cond.laysFinal "HeadDots$State" "HeadDots$State" "heat" "[I") ∈ bigW := bw1 119 rfl rfl
set_option maxRecDepth 20000 in
theorem wd_121 : (Cond.laysFinal "HeadDots$State" "HeadDots$State" "pulses" "[I") ∈ bigW := bw1 121 rfl rfl
set_option maxRecDepth 20000 in
theorem wd_123 : (Cond.laysFinal "HeadDots$State" "HeadDots$State" "settings" "[I") ∈ bigW := bw1 123 rfl rfl
set_option maxRecDepth 20000 in
theorem wd_125 : (Cond.laysFinal "HeadDots$State" "HeadDots$State" "strip" "LHeadDots$Strip;") ∈ bigW := bw1 125 rfl rfl
set_option maxRecDepth 20000 in
theorem wd_127 : (Cond.laysFinal "HeadDots$State" "HeadDots$State" "totals" "LHeadDots$Totals;") ∈ bigW := bw1 127 rfl rfl
set_option maxRecDepth 20000 in
theorem wd_129 : (Cond.lays "HeadDots$State" "HeadDots$State" "lastLine" "I") ∈ bigW := bw1 129 rfl rfl
set_option maxRecDepth 20000 in
theorem wd_131 : (Cond.lays "HeadDots$State" "HeadDots$State" "lineBefore" "I") ∈ bigW := bw1 131 rfl rfl
set_option maxRecDepth 20000 in
theorem wd_133 : (Cond.lays "HeadDots$State" "HeadDots$State" "paperKind" "I") ∈ bigW := bw1 133 rfl rfl
set_option maxRecDepth 20000 in
theorem wd_137 : (Cond.classLink "HeadDots" 26 "HeadDots$Buffer") ∈ bigW := bw1 137 rfl rfl
set_option maxRecDepth 20000 in
theorem wd_138 : (Cond.instantiable "HeadDots$Buffer" 2) ∈ bigW := bw1 138 rfl rfl
set_option maxRecDepth 20000 in
theorem wd_139 : (Cond.methodLink "HeadDots" 28 ({ cls := "HeadDots$Buffer", name := "<init>", desc := "()V" } : MethodName)) ∈ bigW := bw1 139 rfl rfl
set_option maxRecDepth 20000 in
theorem wd_140 : (Cond.instanceMethod ({ cls := "HeadDots$Buffer", name := "<init>", desc := "()V" } : MethodName)) ∈ bigW := bw1 140 rfl rfl
set_option maxRecDepth 20000 in
theorem wd_141 : (Cond.code ({ cls := "HeadDots$Buffer", name := "<init>", desc := "()V" } : MethodName) prog_2_method_1_code 1 (Option.none : Option ClassFile.FieldType)) ∈ bigW := bw1 141 rfl rfl
set_option maxRecDepth 20000 in
theorem wd_142 : (Cond.methodLink "HeadDots$Buffer" 1 ({ cls := "java/lang/Object", name := "<init>", desc := "()V" } : MethodName)) ∈ bigW := bw1 142 rfl rfl
set_option maxRecDepth 20000 in
theorem wd_143 : (Cond.fieldLink "HeadDots$Buffer" 9 "HeadDots$Buffer" "codes" "[I") ∈ bigW := bw1 143 rfl rfl
set_option maxRecDepth 20000 in
theorem wd_144 : (Cond.fieldLink "HeadDots$Buffer" 13 "HeadDots$Buffer" "length" "I") ∈ bigW := bw1 144 rfl rfl
set_option maxRecDepth 20000 in
theorem wd_145 : (Cond.laysFinal "HeadDots$Buffer" "HeadDots$Buffer" "codes" "[I") ∈ bigW := bw1 145 rfl rfl
set_option maxRecDepth 20000 in
theorem wd_147 : (Cond.lays "HeadDots$Buffer" "HeadDots$Buffer" "length" "I") ∈ bigW := bw1 147 rfl rfl
set_option maxRecDepth 20000 in
theorem wd_150 : (Cond.classLink "HeadDots" 33 "HeadDots$Reader") ∈ bigW := bw1 150 rfl rfl
set_option maxRecDepth 20000 in
theorem wd_151 : (Cond.instantiable "HeadDots$Reader" 10) ∈ bigW := bw1 151 rfl rfl
set_option maxRecDepth 20000 in
theorem wd_152 : (Cond.methodLink "HeadDots" 35 ({ cls := "HeadDots$Reader", name := "<init>", desc := "()V" } : MethodName)) ∈ bigW := bw1 152 rfl rfl
set_option maxRecDepth 20000 in
theorem wd_153 : (Cond.instanceMethod ({ cls := "HeadDots$Reader", name := "<init>", desc := "()V" } : MethodName)) ∈ bigW := bw1 153 rfl rfl
set_option maxRecDepth 20000 in
theorem wd_154 : (Cond.code ({ cls := "HeadDots$Reader", name := "<init>", desc := "()V" } : MethodName) prog_3_method_1_code 1 (Option.none : Option ClassFile.FieldType)) ∈ bigW := bw1 154 rfl rfl
set_option maxRecDepth 20000 in
theorem wd_155 : (Cond.methodLink "HeadDots$Reader" 3 ({ cls := "java/lang/Object", name := "<init>", desc := "()V" } : MethodName)) ∈ bigW := bw1 155 rfl rfl
set_option maxRecDepth 20000 in
theorem wd_157 : (Cond.fieldLink "HeadDots$Reader" 21 "HeadDots$Reader" "mode" "I") ∈ bigW := bw1 157 rfl rfl
set_option maxRecDepth 20000 in
theorem wd_158 : (Cond.fieldLink "HeadDots$Reader" 24 "HeadDots$Reader" "modeBehindWord" "I") ∈ bigW := bw1 158 rfl rfl
set_option maxRecDepth 20000 in
theorem wd_159 : (Cond.fieldLink "HeadDots$Reader" 11 "HeadDots$Reader" "word" "Ljava/lang/String;") ∈ bigW := bw1 159 rfl rfl
set_option maxRecDepth 20000 in
theorem wd_160 : (Cond.fieldLink "HeadDots$Reader" 17 "HeadDots$Reader" "wordAt" "I") ∈ bigW := bw1 160 rfl rfl
set_option maxRecDepth 20000 in
theorem wd_161 : (Cond.fieldLink "HeadDots$Reader" 27 "HeadDots$Reader" "kind" "I") ∈ bigW := bw1 161 rfl rfl
set_option maxRecDepth 20000 in
theorem wd_162 : (Cond.fieldLink "HeadDots$Reader" 30 "HeadDots$Reader" "dots" "I") ∈ bigW := bw1 162 rfl rfl
set_option maxRecDepth 20000 in
theorem wd_163 : (Cond.fieldLink "HeadDots$Reader" 33 "HeadDots$Reader" "dotsDigits" "I") ∈ bigW := bw1 163 rfl rfl
set_option maxRecDepth 20000 in
theorem wd_164 : (Cond.fieldLink "HeadDots$Reader" 36 "HeadDots$Reader" "paperKind" "I") ∈ bigW := bw1 164 rfl rfl
set_option maxRecDepth 20000 in
theorem wd_165 : (Cond.fieldLink "HeadDots$Reader" 39 "HeadDots$Reader" "number" "I") ∈ bigW := bw1 165 rfl rfl
set_option maxRecDepth 20000 in
theorem wd_166 : (Cond.fieldLink "HeadDots$Reader" 42 "HeadDots$Reader" "numberMost" "I") ∈ bigW := bw1 166 rfl rfl
set_option maxRecDepth 20000 in
theorem wd_167 : (Cond.lays "HeadDots$Reader" "HeadDots$Reader" "mode" "I") ∈ bigW := bw1 167 rfl rfl
set_option maxRecDepth 20000 in
theorem wd_169 : (Cond.lays "HeadDots$Reader" "HeadDots$Reader" "modeBehindWord" "I") ∈ bigW := bw1 169 rfl rfl
set_option maxRecDepth 20000 in
theorem wd_171 : (Cond.lays "HeadDots$Reader" "HeadDots$Reader" "word" "Ljava/lang/String;") ∈ bigW := bw1 171 rfl rfl
set_option maxRecDepth 20000 in
theorem wd_173 : (Cond.lays "HeadDots$Reader" "HeadDots$Reader" "wordAt" "I") ∈ bigW := bw1 173 rfl rfl
set_option maxRecDepth 20000 in
theorem wd_175 : (Cond.lays "HeadDots$Reader" "HeadDots$Reader" "kind" "I") ∈ bigW := bw1 175 rfl rfl
set_option maxRecDepth 20000 in
theorem wd_177 : (Cond.lays "HeadDots$Reader" "HeadDots$Reader" "dots" "I") ∈ bigW := bw1 177 rfl rfl
set_option maxRecDepth 20000 in
theorem wd_179 : (Cond.lays "HeadDots$Reader" "HeadDots$Reader" "dotsDigits" "I") ∈ bigW := bw1 179 rfl rfl
set_option maxRecDepth 20000 in
theorem wd_181 : (Cond.lays "HeadDots$Reader" "HeadDots$Reader" "paperKind" "I") ∈ bigW := bw1 181 rfl rfl
set_option maxRecDepth 20000 in
theorem wd_183 : (Cond.lays "HeadDots$Reader" "HeadDots$Reader" "number" "I") ∈ bigW := bw1 183 rfl rfl
set_option maxRecDepth 20000 in
theorem wd_185 : (Cond.lays "HeadDots$Reader" "HeadDots$Reader" "numberMost" "I") ∈ bigW := bw1 185 rfl rfl
set_option maxRecDepth 20000 in
theorem wd_188 : (Cond.arrayClass ClassFile.FieldType.byte) ∈ bigW := bw1 188 rfl rfl
set_option maxRecDepth 20000 in
theorem wd_189 : (Cond.fieldLink "HeadDots" 10 "HeadDots" "now" "LHeadDots$State;") ∈ bigW := bw1 189 rfl rfl
set_option maxRecDepth 20000 in
theorem wd_190 : (Cond.fieldLink "HeadDots" 16 "HeadDots" "snapshot" "LHeadDots$State;") ∈ bigW := bw1 190 rfl rfl
set_option maxRecDepth 20000 in
theorem wd_191 : (Cond.fieldLink "HeadDots" 19 "HeadDots" "trial" "LHeadDots$State;") ∈ bigW := bw1 191 rfl rfl
set_option maxRecDepth 20000 in
theorem wd_192 : (Cond.fieldLink "HeadDots" 22 "HeadDots" "saved" "[LHeadDots$State;") ∈ bigW := bw1 192 rfl rfl
set_option maxRecDepth 20000 in
theorem wd_193 : (Cond.fieldLink "HeadDots" 29 "HeadDots" "buffer" "LHeadDots$Buffer;") ∈ bigW := bw1 193 rfl rfl
set_option maxRecDepth 20000 in
theorem wd_194 : (Cond.fieldLink "HeadDots" 36 "HeadDots" "reader" "LHeadDots$Reader;") ∈ bigW := bw1 194 rfl rfl
set_option maxRecDepth 20000 in
theorem wd_195 : (Cond.fieldLink "HeadDots" 40 "HeadDots" "savedCount" "I") ∈ bigW := bw1 195 rfl rfl
set_option maxRecDepth 20000 in
theorem wd_196 : (Cond.fieldLink "HeadDots" 44 "HeadDots" "hasSnapshot" "Z") ∈ bigW := bw1 196 rfl rfl
set_option maxRecDepth 20000 in
theorem wd_197 : (Cond.laysFinal "HeadDots" "HeadDots" "now" "LHeadDots$State;") ∈ bigW := bw1 197 rfl rfl
set_option maxRecDepth 20000 in
theorem wd_199 : (Cond.laysFinal "HeadDots" "HeadDots" "snapshot" "LHeadDots$State;") ∈ bigW := bw1 199 rfl rfl
set_option maxRecDepth 20000 in
theorem wd_201 : (Cond.laysFinal "HeadDots" "HeadDots" "trial" "LHeadDots$State;") ∈ bigW := bw1 201 rfl rfl
set_option maxRecDepth 20000 in
theorem wd_203 : (Cond.laysFinal "HeadDots" "HeadDots" "saved" "[LHeadDots$State;") ∈ bigW := bw1 203 rfl rfl
set_option maxRecDepth 20000 in
theorem wd_205 : (Cond.laysFinal "HeadDots" "HeadDots" "buffer" "LHeadDots$Buffer;") ∈ bigW := bw1 205 rfl rfl
set_option maxRecDepth 20000 in
theorem wd_207 : (Cond.laysFinal "HeadDots" "HeadDots" "reader" "LHeadDots$Reader;") ∈ bigW := bw1 207 rfl rfl
set_option maxRecDepth 20000 in
theorem wd_209 : (Cond.lays "HeadDots" "HeadDots" "savedCount" "I") ∈ bigW := bw1 209 rfl rfl
set_option maxRecDepth 20000 in
theorem wd_211 : (Cond.lays "HeadDots" "HeadDots" "hasSnapshot" "Z") ∈ bigW := bw1 211 rfl rfl
set_option maxRecDepth 20000 in
theorem wd_214 : (Cond.methodLink "HeadDotsLaw" 113 ({ cls := "HeadDotsLaw", name := "cell", desc := "([II)I" } : MethodName)) ∈ bigW := bw1 214 rfl rfl
set_option maxRecDepth 20000 in
theorem wd_215 : (Cond.static ({ cls := "HeadDotsLaw", name := "cell", desc := "([II)I" } : MethodName)) ∈ bigW := bw1 215 rfl rfl
set_option maxRecDepth 20000 in
theorem wd_216 : (Cond.code ({ cls := "HeadDotsLaw", name := "cell", desc := "([II)I" } : MethodName) method_2_code 2 (Option.some ClassFile.FieldType.int)) ∈ bigW := bw1 216 rfl rfl
set_option maxRecDepth 20000 in
theorem wd_217 : (Cond.constant "HeadDotsLaw" 7 (1799596469 : Int32)) ∈ bigW := bw1 217 rfl rfl
set_option maxRecDepth 20000 in
theorem wd_218 : (Cond.methodLink "HeadDotsLaw" 78 ({ cls := "HeadDotsLaw", name := "low", desc := "(II)I" } : MethodName)) ∈ bigW := bw1 218 rfl rfl
set_option maxRecDepth 20000 in
theorem wd_219 : (Cond.static ({ cls := "HeadDotsLaw", name := "low", desc := "(II)I" } : MethodName)) ∈ bigW := bw1 219 rfl rfl
set_option maxRecDepth 20000 in
theorem wd_220 : (Cond.code ({ cls := "HeadDotsLaw", name := "low", desc := "(II)I" } : MethodName) method_3_code 2 (Option.some ClassFile.FieldType.int)) ∈ bigW := bw1 220 rfl rfl
set_option maxRecDepth 20000 in
theorem wd_221 : (Cond.constant "HeadDotsLaw" 8 (2147483647 : Int32)) ∈ bigW := bw1 221 rfl rfl
set_option maxRecDepth 20000 in
theorem wd_222 : (Cond.methodLink "HeadDotsLaw" 105 ({ cls := "HeadDotsLaw", name := "areDots", desc := "(LHeadDots;[I[I[I[I)Z" } : MethodName)) ∈ bigW := bw1 222 rfl rfl
set_option maxRecDepth 20000 in
theorem wd_223 : (Cond.static ({ cls := "HeadDotsLaw", name := "areDots", desc := "(LHeadDots;[I[I[I[I)Z" } : MethodName)) ∈ bigW := bw1 223 rfl rfl
set_option maxRecDepth 20000 in
theorem wd_224 : (Cond.code ({ cls := "HeadDotsLaw", name := "areDots", desc := "(LHeadDots;[I[I[I[I)Z" } : MethodName) method_11_code 14 (Option.some ClassFile.FieldType.boolean)) ∈ bigW := bw1 224 rfl rfl
set_option maxRecDepth 20000 in
theorem wd_225 : (Cond.methodLink "HeadDotsLaw" 23 ({ cls := "HeadDotsLaw", name := "pulse", desc := "([IIII)I" } : MethodName)) ∈ bigW := bw1 225 rfl rfl
set_option maxRecDepth 20000 in
theorem wd_226 : (Cond.static ({ cls := "HeadDotsLaw", name := "pulse", desc := "([IIII)I" } : MethodName)) ∈ bigW := bw1 226 rfl rfl
set_option maxRecDepth 20000 in
theorem wd_227 : (Cond.code ({ cls := "HeadDotsLaw", name := "pulse", desc := "([IIII)I" } : MethodName) method_6_code 5 (Option.some ClassFile.FieldType.int)) ∈ bigW := bw1 227 rfl rfl
set_option maxRecDepth 20000 in
theorem wd_228 : (Cond.methodLink "HeadDotsLaw" 9 ({ cls := "HeadDotsLaw", name := "less", desc := "(II)I" } : MethodName)) ∈ bigW := bw1 228 rfl rfl
set_option maxRecDepth 20000 in
theorem wd_229 : (Cond.static ({ cls := "HeadDotsLaw", name := "less", desc := "(II)I" } : MethodName)) ∈ bigW := bw1 229 rfl rfl
set_option maxRecDepth 20000 in
theorem wd_230 : (Cond.code ({ cls := "HeadDotsLaw", name := "less", desc := "(II)I" } : MethodName) method_4_code 3 (Option.some ClassFile.FieldType.int)) ∈ bigW := bw1 230 rfl rfl
set_option maxRecDepth 20000 in
theorem wd_231 : (Cond.methodLink "HeadDotsLaw" 35 ({ cls := "HeadDots", name := "dot", desc := "(II)I" } : MethodName)) ∈ bigW := bw1 231 rfl rfl
set_option maxRecDepth 20000 in
theorem wd_232 : (Cond.instanceMethod ({ cls := "HeadDots", name := "dot", desc := "(II)I" } : MethodName)) ∈ bigW := bw1 232 rfl rfl
set_option maxRecDepth 20000 in
theorem wd_233 : (Cond.selects "HeadDots" ({ cls := "HeadDots", name := "dot", desc := "(II)I" } : MethodName) ({ cls := "HeadDots", name := "dot", desc := "(II)I" } : MethodName)) ∈ bigW := bw1 233 rfl rfl
set_option maxRecDepth 20000 in
theorem wd_234 : (Cond.code ({ cls := "HeadDots", name := "dot", desc := "(II)I" } : MethodName) prog_1_method_15_code 3 (Option.some ClassFile.FieldType.int)) ∈ bigW := bw1 234 rfl rfl
set_option maxRecDepth 20000 in
theorem wd_235 : (Cond.methodLink "HeadDots" 191 ({ cls := "HeadDots", name := "isDot", desc := "(I)Z" } : MethodName)) ∈ bigW := bw1 235 rfl rfl
set_option maxRecDepth 20000 in
theorem wd_236 : (Cond.static ({ cls := "HeadDots", name := "isDot", desc := "(I)Z" } : MethodName)) ∈ bigW := bw1 236 rfl rfl
set_option maxRecDepth 20000 in
theorem wd_237 : (Cond.code ({ cls := "HeadDots", name := "isDot", desc := "(I)Z" } : MethodName) prog_1_method_42_code 1 (Option.some ClassFile.FieldType.boolean)) ∈ bigW := bw1 237 rfl rfl
set_option maxRecDepth 20000 in
theorem wd_238 : (Cond.methodLink "HeadDots" 66 ({ cls := "HeadDots", name := "isWithin", desc := "(III)Z" } : MethodName)) ∈ bigW := bw1 238 rfl rfl
set_option maxRecDepth 20000 in
theorem wd_239 : (Cond.static ({ cls := "HeadDots", name := "isWithin", desc := "(III)Z" } : MethodName)) ∈ bigW := bw1 239 rfl rfl
set_option maxRecDepth 20000 in
theorem wd_240 : (Cond.code ({ cls := "HeadDots", name := "isWithin", desc := "(III)Z" } : MethodName) prog_1_method_40_code 3 (Option.some ClassFile.FieldType.boolean)) ∈ bigW := bw2 0 rfl rfl
set_option maxRecDepth 20000 in
theorem wd_241 : (Cond.classLink "HeadDots" 109 "java/lang/IndexOutOfBoundsException") ∈ bigW := bw2 1 rfl rfl
set_option maxRecDepth 20000 in
theorem wd_242 : (Cond.instantiable "java/lang/IndexOutOfBoundsException" 6) ∈ bigW := bw2 2 rfl rfl
set_option maxRecDepth 20000 in
theorem wd_282 : (Cond.methodLink "HeadDots" 113 ({ cls := "java/lang/IndexOutOfBoundsException", name := "<init>", desc := "(Ljava/lang/String;)V" } : MethodName)) ∈ bigW := bw2 42 rfl rfl
set_option maxRecDepth 20000 in
theorem wd_283 : (Cond.instanceMethod ({ cls := "java/lang/IndexOutOfBoundsException", name := "<init>", desc := "(Ljava/lang/String;)V" } : MethodName)) ∈ bigW := bw2 43 rfl rfl
set_option maxRecDepth 20000 in
theorem wd_284 : (Cond.code ({ cls := "java/lang/IndexOutOfBoundsException", name := "<init>", desc := "(Ljava/lang/String;)V" } : MethodName) prog_11_method_2_code 2 (Option.none : Option ClassFile.FieldType)) ∈ bigW := bw2 44 rfl rfl
set_option maxRecDepth 20000 in
theorem wd_307 : (Cond.classLink "HeadDots" 52 "java/lang/IllegalArgumentException") ∈ bigW := bw2 67 rfl rfl
set_option maxRecDepth 20000 in
theorem wd_308 : (Cond.instantiable "java/lang/IllegalArgumentException" 6) ∈ bigW := bw2 68 rfl rfl
set_option maxRecDepth 20000 in
theorem wd_317 : (Cond.methodLink "HeadDots" 56 ({ cls := "java/lang/IllegalArgumentException", name := "<init>", desc := "(Ljava/lang/String;)V" } : MethodName)) ∈ bigW := bw2 77 rfl rfl
set_option maxRecDepth 20000 in
theorem wd_318 : (Cond.instanceMethod ({ cls := "java/lang/IllegalArgumentException", name := "<init>", desc := "(Ljava/lang/String;)V" } : MethodName)) ∈ bigW := bw2 78 rfl rfl
set_option maxRecDepth 20000 in
theorem wd_319 : (Cond.code ({ cls := "java/lang/IllegalArgumentException", name := "<init>", desc := "(Ljava/lang/String;)V" } : MethodName) prog_10_method_2_code 2 (Option.none : Option ClassFile.FieldType)) ∈ bigW := bw2 79 rfl rfl
set_option maxRecDepth 20000 in
theorem wd_323 : (Cond.methodLink "HeadDots" 198 ({ cls := "HeadDots$State", name := "numberOfDot", desc := "(II)I" } : MethodName)) ∈ bigW := bw2 83 rfl rfl
set_option maxRecDepth 20000 in
theorem wd_324 : (Cond.instanceMethod ({ cls := "HeadDots$State", name := "numberOfDot", desc := "(II)I" } : MethodName)) ∈ bigW := bw2 84 rfl rfl
set_option maxRecDepth 20000 in
theorem wd_325 : (Cond.selects "HeadDots$State" ({ cls := "HeadDots$State", name := "numberOfDot", desc := "(II)I" } : MethodName) ({ cls := "HeadDots$State", name := "numberOfDot", desc := "(II)I" } : MethodName)) ∈ bigW := bw2 85 rfl rfl
set_option maxRecDepth 20000 in
theorem wd_326 : (Cond.code ({ cls := "HeadDots$State", name := "numberOfDot", desc := "(II)I" } : MethodName) prog_4_method_26_code 3 (Option.some ClassFile.FieldType.int)) ∈ bigW := bw2 86 rfl rfl
set_option maxRecDepth 20000 in
theorem wd_328 : (Cond.static ({ cls := "HeadDots", name := "at", desc := "([II)I" } : MethodName)) ∈ bigW := bw2 88 rfl rfl
set_option maxRecDepth 20000 in
theorem wd_329 : (Cond.code ({ cls := "HeadDots", name := "at", desc := "([II)I" } : MethodName) prog_1_method_44_code 2 (Option.some ClassFile.FieldType.int)) ∈ bigW := bw2 89 rfl rfl
set_option maxRecDepth 20000 in
theorem wd_331 : (Cond.static ({ cls := "HeadDots", name := "bitOf", desc := "(II)I" } : MethodName)) ∈ bigW := bw2 91 rfl rfl
set_option maxRecDepth 20000 in
theorem wd_332 : (Cond.code ({ cls := "HeadDots", name := "bitOf", desc := "(II)I" } : MethodName) prog_1_method_43_code 2 (Option.some ClassFile.FieldType.int)) ∈ bigW := bw2 92 rfl rfl
set_option maxRecDepth 20000 in
theorem wd_333 : (Cond.methodLink "HeadDots$State" 159 ({ cls := "HeadDots$State", name := "pulseAlone", desc := "(II)I" } : MethodName)) ∈ bigW := bw2 93 rfl rfl
set_option maxRecDepth 20000 in
theorem wd_335 : (Cond.instanceMethod ({ cls := "HeadDots$State", name := "pulseAlone", desc := "(II)I" } : MethodName)) ∈ bigW := bw2 95 rfl rfl
set_option maxRecDepth 20000 in
theorem wd_336 : (Cond.code ({ cls := "HeadDots$State", name := "pulseAlone", desc := "(II)I" } : MethodName) prog_4_method_15_code 3 (Option.some ClassFile.FieldType.int)) ∈ bigW := bw2 96 rfl rfl
set_option maxRecDepth 20000 in
theorem wd_337 : (Cond.methodLink "HeadDots$State" 120 ({ cls := "HeadDots$State", name := "pulseIn", desc := "(III)I" } : MethodName)) ∈ bigW := bw2 97 rfl rfl
set_option maxRecDepth 20000 in
theorem wd_339 : (Cond.instanceMethod ({ cls := "HeadDots$State", name := "pulseIn", desc := "(III)I" } : MethodName)) ∈ bigW := bw2 99 rfl rfl
set_option maxRecDepth 20000 in
theorem wd_340 : (Cond.code ({ cls := "HeadDots$State", name := "pulseIn", desc := "(III)I" } : MethodName) prog_4_method_14_code 5 (Option.some ClassFile.FieldType.int)) ∈ bigW := bw2 100 rfl rfl
set_option maxRecDepth 20000 in
theorem wd_343 : (Cond.methodLink "HeadDots$State" 114 Lib.Math.max.name) ∈ bigW := bw2 103 (by decide +kernel) (by decide +kernel)
set_option maxRecDepth 20000 in
theorem wd_344 : (Cond.static Lib.Math.max.name) ∈ bigW := bw2 104 (by decide +kernel) (by decide +kernel)
set_option maxRecDepth 20000 in
theorem wd_345 : (Cond.code Lib.Math.max.name Lib.Math.max.code 2 (some .int)) ∈ bigW := bw2 105 (by decide +kernel) (by decide +kernel)
set_option maxRecDepth 20000 in
theorem wd_346 : (Cond.methodLink "HeadDots$State" 162 ({ cls := "HeadDots$State", name := "waitFor", desc := "(II)I" } : MethodName)) ∈ bigW := bw2 106 rfl rfl
set_option maxRecDepth 20000 in
theorem wd_348 : (Cond.instanceMethod ({ cls := "HeadDots$State", name := "waitFor", desc := "(II)I" } : MethodName)) ∈ bigW := bw2 108 rfl rfl
set_option maxRecDepth 20000 in
theorem wd_349 : (Cond.code ({ cls := "HeadDots$State", name := "waitFor", desc := "(II)I" } : MethodName) prog_4_method_16_code 3 (Option.some ClassFile.FieldType.int)) ∈ bigW := bw2 109 rfl rfl
set_option maxRecDepth 20000 in
theorem wd_350 : (Cond.methodLink "HeadDots$State" 127 ({ cls := "HeadDots$State", name := "timeDownTo", desc := "(II)I" } : MethodName)) ∈ bigW := bw2 110 rfl rfl
set_option maxRecDepth 20000 in
theorem wd_352 : (Cond.instanceMethod ({ cls := "HeadDots$State", name := "timeDownTo", desc := "(II)I" } : MethodName)) ∈ bigW := bw2 112 rfl rfl
set_option maxRecDepth 20000 in
theorem wd_353 : (Cond.code ({ cls := "HeadDots$State", name := "timeDownTo", desc := "(II)I" } : MethodName) prog_4_method_20_code 6 (Option.some ClassFile.FieldType.int)) ∈ bigW := bw2 113 rfl rfl
set_option maxRecDepth 20000 in
theorem wd_354 : (Cond.constant "HeadDots$State" 149 (1000000 : Int32)) ∈ bigW := bw2 114 rfl rfl
set_option maxRecDepth 20000 in
theorem wd_355 : (Cond.methodLink "HeadDots$State" 146 ({ cls := "HeadDots$State", name := "cooled", desc := "(II)I" } : MethodName)) ∈ bigW := bw2 115 rfl rfl
set_option maxRecDepth 20000 in
theorem wd_356 : (Cond.static ({ cls := "HeadDots$State", name := "cooled", desc := "(II)I" } : MethodName)) ∈ bigW := bw2 116 rfl rfl
set_option maxRecDepth 20000 in
theorem wd_357 : (Cond.code ({ cls := "HeadDots$State", name := "cooled", desc := "(II)I" } : MethodName) prog_4_method_21_code 3 (Option.some ClassFile.FieldType.int)) ∈ bigW := bw2 117 rfl rfl
set_option maxRecDepth 20000 in
theorem wd_358 : (Cond.methodLink "HeadDotsLaw" 40 ({ cls := "HeadDots", name := "count", desc := "(I)I" } : MethodName)) ∈ bigW := bw2 118 rfl rfl
set_option maxRecDepth 20000 in
theorem wd_359 : (Cond.instanceMethod ({ cls := "HeadDots", name := "count", desc := "(I)I" } : MethodName)) ∈ bigW := bw2 119 rfl rfl
set_option maxRecDepth 20000 in
theorem wd_360 : (Cond.selects "HeadDots" ({ cls := "HeadDots", name := "count", desc := "(I)I" } : MethodName) ({ cls := "HeadDots", name := "count", desc := "(I)I" } : MethodName)) ∈ bigW := bw2 120 rfl rfl
set_option maxRecDepth 20000 in
theorem wd_361 : (Cond.code ({ cls := "HeadDots", name := "count", desc := "(I)I" } : MethodName) prog_1_method_17_code 2 (Option.some ClassFile.FieldType.int)) ∈ bigW := bw2 121 rfl rfl
set_option maxRecDepth 20000 in
theorem wd_362 : (Cond.methodLink "HeadDots" 206 ({ cls := "HeadDots", name := "counted", desc := "(I)I" } : MethodName)) ∈ bigW := bw2 122 rfl rfl
set_option maxRecDepth 20000 in
theorem wd_364 : (Cond.instanceMethod ({ cls := "HeadDots", name := "counted", desc := "(I)I" } : MethodName)) ∈ bigW := bw2 124 rfl rfl
set_option maxRecDepth 20000 in
theorem wd_365 : (Cond.code ({ cls := "HeadDots", name := "counted", desc := "(I)I" } : MethodName) prog_1_method_29_code 3 (Option.some ClassFile.FieldType.int)) ∈ bigW := bw2 125 rfl rfl
set_option maxRecDepth 20000 in
theorem wd_366 : (Cond.methodLink "HeadDots" 292 ({ cls := "HeadDots$Totals", name := "dotByDot", desc := "()I" } : MethodName)) ∈ bigW := bw2 126 rfl rfl
set_option maxRecDepth 20000 in
theorem wd_367 : (Cond.instanceMethod ({ cls := "HeadDots$Totals", name := "dotByDot", desc := "()I" } : MethodName)) ∈ bigW := bw2 127 rfl rfl
set_option maxRecDepth 20000 in
theorem wd_368 : (Cond.selects "HeadDots$Totals" ({ cls := "HeadDots$Totals", name := "dotByDot", desc := "()I" } : MethodName) ({ cls := "HeadDots$Totals", name := "dotByDot", desc := "()I" } : MethodName)) ∈ bigW := bw2 128 rfl rfl
set_option maxRecDepth 20000 in
theorem wd_369 : (Cond.code ({ cls := "HeadDots$Totals", name := "dotByDot", desc := "()I" } : MethodName) prog_6_method_5_code 3 (Option.some ClassFile.FieldType.int)) ∈ bigW := bw2 129 rfl rfl
set_option maxRecDepth 20000 in
theorem wd_370 : (Cond.methodLink "HeadDots" 91 ({ cls := "HeadDots$State", name := "hottestDot", desc := "()I" } : MethodName)) ∈ bigW := bw2 130 rfl rfl
set_option maxRecDepth 20000 in
theorem wd_371 : (Cond.instanceMethod ({ cls := "HeadDots$State", name := "hottestDot", desc := "()I" } : MethodName)) ∈ bigW := bw2 131 rfl rfl
set_option maxRecDepth 20000 in
theorem wd_372 : (Cond.selects "HeadDots$State" ({ cls := "HeadDots$State", name := "hottestDot", desc := "()I" } : MethodName) ({ cls := "HeadDots$State", name := "hottestDot", desc := "()I" } : MethodName)) ∈ bigW := bw2 132 rfl rfl
set_option maxRecDepth 20000 in
theorem wd_373 : (Cond.code ({ cls := "HeadDots$State", name := "hottestDot", desc := "()I" } : MethodName) prog_4_method_23_code 3 (Option.some ClassFile.FieldType.int)) ∈ bigW := bw2 133 rfl rfl
set_option maxRecDepth 20000 in
theorem wd_374 : (Cond.methodLink "HeadDots" 127 ({ cls := "HeadDots$State", name := "setting", desc := "(I)I" } : MethodName)) ∈ bigW := bw2 134 rfl rfl
set_option maxRecDepth 20000 in
theorem wd_375 : (Cond.instanceMethod ({ cls := "HeadDots$State", name := "setting", desc := "(I)I" } : MethodName)) ∈ bigW := bw2 135 rfl rfl
set_option maxRecDepth 20000 in
theorem wd_376 : (Cond.selects "HeadDots$State" ({ cls := "HeadDots$State", name := "setting", desc := "(I)I" } : MethodName) ({ cls := "HeadDots$State", name := "setting", desc := "(I)I" } : MethodName)) ∈ bigW := bw2 136 rfl rfl
set_option maxRecDepth 20000 in
theorem wd_377 : (Cond.code ({ cls := "HeadDots$State", name := "setting", desc := "(I)I" } : MethodName) prog_4_method_3_code 2 (Option.some ClassFile.FieldType.int)) ∈ bigW := bw2 137 rfl rfl
set_option maxRecDepth 20000 in
theorem wd_378 : (Cond.methodLink "HeadDotsLaw" 43 ({ cls := "HeadDots", name := "darkness", desc := "()D" } : MethodName)) ∈ bigW := bw2 138 rfl rfl
set_option maxRecDepth 20000 in
theorem wd_379 : (Cond.instanceMethod ({ cls := "HeadDots", name := "darkness", desc := "()D" } : MethodName)) ∈ bigW := bw2 139 rfl rfl
set_option maxRecDepth 20000 in
theorem wd_380 : (Cond.selects "HeadDots" ({ cls := "HeadDots", name := "darkness", desc := "()D" } : MethodName) ({ cls := "HeadDots", name := "darkness", desc := "()D" } : MethodName)) ∈ bigW := bw2 140 rfl rfl
set_option maxRecDepth 20000 in
theorem wd_381 : (Cond.code ({ cls := "HeadDots", name := "darkness", desc := "()D" } : MethodName) prog_1_method_22_code 1 (Option.some ClassFile.FieldType.double)) ∈ bigW := bw2 141 rfl rfl
set_option maxRecDepth 20000 in
theorem wd_382 : (Cond.methodLink "HeadDots" 228 ({ cls := "HeadDots$Totals", name := "darkShare", desc := "()D" } : MethodName)) ∈ bigW := bw2 142 rfl rfl
set_option maxRecDepth 20000 in
theorem wd_383 : (Cond.instanceMethod ({ cls := "HeadDots$Totals", name := "darkShare", desc := "()D" } : MethodName)) ∈ bigW := bw2 143 rfl rfl
set_option maxRecDepth 20000 in
theorem wd_384 : (Cond.selects "HeadDots$Totals" ({ cls := "HeadDots$Totals", name := "darkShare", desc := "()D" } : MethodName) ({ cls := "HeadDots$Totals", name := "darkShare", desc := "()D" } : MethodName)) ∈ bigW := bw2 144 rfl rfl
set_option maxRecDepth 20000 in
theorem wd_385 : (Cond.code ({ cls := "HeadDots$Totals", name := "darkShare", desc := "()D" } : MethodName) prog_6_method_6_code 1 (Option.some ClassFile.FieldType.double)) ∈ bigW := bw2 145 rfl rfl
set_option maxRecDepth 20000 in
theorem wd_386 : (Cond.methodLink "HeadDotsLaw" 47 ({ cls := "HeadDots", name := "meanHeat", desc := "()F" } : MethodName)) ∈ bigW := bw2 146 rfl rfl
set_option maxRecDepth 20000 in
theorem wd_387 : (Cond.instanceMethod ({ cls := "HeadDots", name := "meanHeat", desc := "()F" } : MethodName)) ∈ bigW := bw2 147 rfl rfl
set_option maxRecDepth 20000 in
theorem wd_388 : (Cond.selects "HeadDots" ({ cls := "HeadDots", name := "meanHeat", desc := "()F" } : MethodName) ({ cls := "HeadDots", name := "meanHeat", desc := "()F" } : MethodName)) ∈ bigW := bw2 148 rfl rfl
set_option maxRecDepth 20000 in
theorem wd_389 : (Cond.code ({ cls := "HeadDots", name := "meanHeat", desc := "()F" } : MethodName) prog_1_method_23_code 1 (Option.some ClassFile.FieldType.float)) ∈ bigW := bw2 149 rfl rfl
set_option maxRecDepth 20000 in
theorem wd_390 : (Cond.methodLink "HeadDots" 232 ({ cls := "HeadDots$State", name := "mean", desc := "()F" } : MethodName)) ∈ bigW := bw2 150 rfl rfl
set_option maxRecDepth 20000 in
theorem wd_391 : (Cond.instanceMethod ({ cls := "HeadDots$State", name := "mean", desc := "()F" } : MethodName)) ∈ bigW := bw2 151 rfl rfl
set_option maxRecDepth 20000 in
theorem wd_392 : (Cond.selects "HeadDots$State" ({ cls := "HeadDots$State", name := "mean", desc := "()F" } : MethodName) ({ cls := "HeadDots$State", name := "mean", desc := "()F" } : MethodName)) ∈ bigW := bw2 152 rfl rfl
set_option maxRecDepth 20000 in
theorem wd_393 : (Cond.code ({ cls := "HeadDots$State", name := "mean", desc := "()F" } : MethodName) prog_4_method_25_code 3 (Option.some ClassFile.FieldType.float)) ∈ bigW := bw2 153 rfl rfl
set_option maxRecDepth 20000 in
theorem wd_394 : (Cond.constantFloat "HeadDots$State" 165 (1103101952 : UInt32)) ∈ bigW := bw2 154 rfl rfl
set_option maxRecDepth 20000 in
theorem wd_395 : (Cond.constantFloat "HeadDotsLaw" 51 (1103101952 : UInt32)) ∈ bigW := bw2 155 rfl rfl
set_option maxRecDepth 20000 in
theorem wd_396 : (Cond.methodLink "HeadDotsLaw" 109 ({ cls := "HeadDotsLaw", name := "isStrip", desc := "(LHeadDots;[I[I)Z" } : MethodName)) ∈ bigW := bw2 156 rfl rfl
set_option maxRecDepth 20000 in
theorem wd_397 : (Cond.static ({ cls := "HeadDotsLaw", name := "isStrip", desc := "(LHeadDots;[I[I)Z" } : MethodName)) ∈ bigW := bw2 157 rfl rfl
set_option maxRecDepth 20000 in
theorem wd_398 : (Cond.code ({ cls := "HeadDotsLaw", name := "isStrip", desc := "(LHeadDots;[I[I)Z" } : MethodName) method_12_code 7 (Option.some ClassFile.FieldType.boolean)) ∈ bigW := bw2 158 rfl rfl
set_option maxRecDepth 20000 in
theorem wd_399 : (Cond.methodLink "HeadDotsLaw" 52 ({ cls := "HeadDots", name := "kept", desc := "(II)I" } : MethodName)) ∈ bigW := bw2 159 rfl rfl
set_option maxRecDepth 20000 in
theorem wd_400 : (Cond.instanceMethod ({ cls := "HeadDots", name := "kept", desc := "(II)I" } : MethodName)) ∈ bigW := bw2 160 rfl rfl
set_option maxRecDepth 20000 in
theorem wd_401 : (Cond.selects "HeadDots" ({ cls := "HeadDots", name := "kept", desc := "(II)I" } : MethodName) ({ cls := "HeadDots", name := "kept", desc := "(II)I" } : MethodName)) ∈ bigW := bw2 161 rfl rfl
set_option maxRecDepth 20000 in
theorem wd_402 : (Cond.code ({ cls := "HeadDots", name := "kept", desc := "(II)I" } : MethodName) prog_1_method_16_code 3 (Option.some ClassFile.FieldType.int)) ∈ bigW := bw2 162 rfl rfl
set_option maxRecDepth 20000 in
theorem wd_404 : (Cond.methodLink "HeadDots" 203 ({ cls := "HeadDots$Strip", name := "numberOfLine", desc := "(II)I" } : MethodName)) ∈ bigW := bw2 164 rfl rfl
set_option maxRecDepth 20000 in
theorem wd_405 : (Cond.instanceMethod ({ cls := "HeadDots$Strip", name := "numberOfLine", desc := "(II)I" } : MethodName)) ∈ bigW := bw2 165 rfl rfl
set_option maxRecDepth 20000 in
theorem wd_406 : (Cond.selects "HeadDots$Strip" ({ cls := "HeadDots$Strip", name := "numberOfLine", desc := "(II)I" } : MethodName) ({ cls := "HeadDots$Strip", name := "numberOfLine", desc := "(II)I" } : MethodName)) ∈ bigW := bw2 166 rfl rfl
set_option maxRecDepth 20000 in
theorem wd_407 : (Cond.code ({ cls := "HeadDots$Strip", name := "numberOfLine", desc := "(II)I" } : MethodName) prog_5_method_5_code 3 (Option.some ClassFile.FieldType.int)) ∈ bigW := bw2 167 rfl rfl
set_option maxRecDepth 20000 in
theorem wd_409 : (Cond.methodLink "HeadDotsLaw" 55 ({ cls := "HeadDots", name := "told", desc := "(II)I" } : MethodName)) ∈ bigW := bw2 169 rfl rfl
set_option maxRecDepth 20000 in
theorem wd_410 : (Cond.instanceMethod ({ cls := "HeadDots", name := "told", desc := "(II)I" } : MethodName)) ∈ bigW := bw2 170 rfl rfl
set_option maxRecDepth 20000 in
theorem wd_411 : (Cond.selects "HeadDots" ({ cls := "HeadDots", name := "told", desc := "(II)I" } : MethodName) ({ cls := "HeadDots", name := "told", desc := "(II)I" } : MethodName)) ∈ bigW := bw2 171 rfl rfl
set_option maxRecDepth 20000 in
theorem wd_412 : (Cond.code ({ cls := "HeadDots", name := "told", desc := "(II)I" } : MethodName) prog_1_method_11_code 3 (Option.some ClassFile.FieldType.int)) ∈ bigW := bw2 172 rfl rfl
set_option maxRecDepth 20000 in
theorem wd_414 : (Cond.methodLink "HeadDots" 175 ({ cls := "HeadDots$Strip", name := "sign", desc := "(II)I" } : MethodName)) ∈ bigW := bw2 174 rfl rfl
set_option maxRecDepth 20000 in
theorem wd_415 : (Cond.instanceMethod ({ cls := "HeadDots$Strip", name := "sign", desc := "(II)I" } : MethodName)) ∈ bigW := bw2 175 rfl rfl
set_option maxRecDepth 20000 in
theorem wd_416 : (Cond.selects "HeadDots$Strip" ({ cls := "HeadDots$Strip", name := "sign", desc := "(II)I" } : MethodName) ({ cls := "HeadDots$Strip", name := "sign", desc := "(II)I" } : MethodName)) ∈ bigW := bw2 176 rfl rfl
set_option maxRecDepth 20000 in
theorem wd_417 : (Cond.code ({ cls := "HeadDots$Strip", name := "sign", desc := "(II)I" } : MethodName) prog_5_method_7_code 3 (Option.some ClassFile.FieldType.int)) ∈ bigW := bw2 177 rfl rfl
set_option maxRecDepth 20000 in
theorem wd_418 : (Cond.methodLink "HeadDots$Strip" 50 ({ cls := "HeadDots$Strip", name := "textLength", desc := "(I)I" } : MethodName)) ∈ bigW := bw2 178 rfl rfl
set_option maxRecDepth 20000 in
theorem wd_419 : (Cond.instanceMethod ({ cls := "HeadDots$Strip", name := "textLength", desc := "(I)I" } : MethodName)) ∈ bigW := bw2 179 rfl rfl
set_option maxRecDepth 20000 in
theorem wd_420 : (Cond.selects "HeadDots$Strip" ({ cls := "HeadDots$Strip", name := "textLength", desc := "(I)I" } : MethodName) ({ cls := "HeadDots$Strip", name := "textLength", desc := "(I)I" } : MethodName)) ∈ bigW := bw2 180 rfl rfl
set_option maxRecDepth 20000 in
theorem wd_421 : (Cond.code ({ cls := "HeadDots$Strip", name := "textLength", desc := "(I)I" } : MethodName) prog_5_method_6_code 2 (Option.some ClassFile.FieldType.int)) ∈ bigW := bw2 181 rfl rfl
set_option maxRecDepth 20000 in
theorem wd_422 : (Cond.methodLink "HeadDots$Strip" 47 Lib.Math.max.name) ∈ bigW := bw2 182 (by decide +kernel) (by decide +kernel)
set_option maxRecDepth 20000 in
theorem wd_424 : (Cond.methodLink "HeadDotsLaw" 125 ({ cls := "HeadDotsLaw", name := "would", desc := "(LHeadDots;[I[II)Z" } : MethodName)) ∈ bigW := bw2 184 rfl rfl
set_option maxRecDepth 20000 in
theorem wd_425 : (Cond.static ({ cls := "HeadDotsLaw", name := "would", desc := "(LHeadDots;[I[II)Z" } : MethodName)) ∈ bigW := bw2 185 rfl rfl
set_option maxRecDepth 20000 in
theorem wd_426 : (Cond.code ({ cls := "HeadDotsLaw", name := "would", desc := "(LHeadDots;[I[II)Z" } : MethodName) method_14_code 13 (Option.some ClassFile.FieldType.boolean)) ∈ bigW := bw2 186 rfl rfl
set_option maxRecDepth 20000 in
theorem wd_427 : (Cond.methodLink "HeadDotsLaw" 58 ({ cls := "HeadDotsLaw", name := "copy", desc := "([I[I)V" } : MethodName)) ∈ bigW := bw2 187 rfl rfl
set_option maxRecDepth 20000 in
theorem wd_428 : (Cond.static ({ cls := "HeadDotsLaw", name := "copy", desc := "([I[I)V" } : MethodName)) ∈ bigW := bw2 188 rfl rfl
set_option maxRecDepth 20000 in
theorem wd_429 : (Cond.code ({ cls := "HeadDotsLaw", name := "copy", desc := "([I[I)V" } : MethodName) method_13_code 3 (Option.none : Option ClassFile.FieldType)) ∈ bigW := bw2 189 rfl rfl
set_option maxRecDepth 20000 in
theorem wd_430 : (Cond.methodLink "HeadDotsLaw" 62 ({ cls := "HeadDotsLaw", name := "prints", desc := "([I[I[I[I[II)V" } : MethodName)) ∈ bigW := bw2 190 rfl rfl
set_option maxRecDepth 20000 in
theorem wd_431 : (Cond.static ({ cls := "HeadDotsLaw", name := "prints", desc := "([I[I[I[I[II)V" } : MethodName)) ∈ bigW := bw2 191 rfl rfl
set_option maxRecDepth 20000 in
theorem wd_432 : (Cond.code ({ cls := "HeadDotsLaw", name := "prints", desc := "([I[I[I[I[II)V" } : MethodName) method_10_code 15 (Option.none : Option ClassFile.FieldType)) ∈ bigW := bw2 192 rfl rfl
set_option maxRecDepth 20000 in
theorem wd_433 : (Cond.methodLink "HeadDotsLaw" 15 ({ cls := "HeadDotsLaw", name := "ones", desc := "(I)I" } : MethodName)) ∈ bigW := bw2 193 rfl rfl
set_option maxRecDepth 20000 in
theorem wd_434 : (Cond.static ({ cls := "HeadDotsLaw", name := "ones", desc := "(I)I" } : MethodName)) ∈ bigW := bw2 194 rfl rfl
set_option maxRecDepth 20000 in
theorem wd_435 : (Cond.code ({ cls := "HeadDotsLaw", name := "ones", desc := "(I)I" } : MethodName) method_8_code 3 (Option.some ClassFile.FieldType.int)) ∈ bigW := bw2 195 rfl rfl
set_option maxRecDepth 20000 in
theorem wd_436 : (Cond.methodLink "HeadDotsLaw" 19 ({ cls := "HeadDotsLaw", name := "partOf", desc := "([III)I" } : MethodName)) ∈ bigW := bw2 196 rfl rfl
set_option maxRecDepth 20000 in
theorem wd_437 : (Cond.static ({ cls := "HeadDotsLaw", name := "partOf", desc := "([III)I" } : MethodName)) ∈ bigW := bw2 197 rfl rfl
set_option maxRecDepth 20000 in
theorem wd_438 : (Cond.code ({ cls := "HeadDotsLaw", name := "partOf", desc := "([III)I" } : MethodName) method_9_code 6 (Option.some ClassFile.FieldType.int)) ∈ bigW := bw2 198 rfl rfl
set_option maxRecDepth 20000 in
theorem wd_439 : (Cond.methodLink "HeadDotsLaw" 27 ({ cls := "HeadDotsLaw", name := "passes", desc := "([I[II)V" } : MethodName)) ∈ bigW := bw2 199 rfl rfl
set_option maxRecDepth 20000 in
theorem wd_440 : (Cond.static ({ cls := "HeadDotsLaw", name := "passes", desc := "([I[II)V" } : MethodName)) ∈ bigW := bw2 200 rfl rfl
set_option maxRecDepth 20000 in
theorem wd_441 : (Cond.code ({ cls := "HeadDotsLaw", name := "passes", desc := "([I[II)V" } : MethodName) method_5_code 5 (Option.none : Option ClassFile.FieldType)) ∈ bigW := bw2 201 rfl rfl
set_option maxRecDepth 20000 in
theorem wd_442 : (Cond.methodLink "HeadDotsLaw" 31 ({ cls := "HeadDotsLaw", name := "dark", desc := "([I)I" } : MethodName)) ∈ bigW := bw2 202 rfl rfl
set_option maxRecDepth 20000 in
theorem wd_443 : (Cond.static ({ cls := "HeadDotsLaw", name := "dark", desc := "([I)I" } : MethodName)) ∈ bigW := bw2 203 rfl rfl
set_option maxRecDepth 20000 in
theorem wd_444 : (Cond.code ({ cls := "HeadDotsLaw", name := "dark", desc := "([I)I" } : MethodName) method_7_code 1 (Option.some ClassFile.FieldType.int)) ∈ bigW := bw2 204 rfl rfl
set_option maxRecDepth 20000 in
theorem wd_445 : (Cond.methodLink "HeadDotsLaw" 66 ({ cls := "HeadDots", name := "ifPrinted", desc := "(II)I" } : MethodName)) ∈ bigW := bw2 205 rfl rfl
set_option maxRecDepth 20000 in
theorem wd_446 : (Cond.instanceMethod ({ cls := "HeadDots", name := "ifPrinted", desc := "(II)I" } : MethodName)) ∈ bigW := bw2 206 rfl rfl
set_option maxRecDepth 20000 in
theorem wd_447 : (Cond.selects "HeadDots" ({ cls := "HeadDots", name := "ifPrinted", desc := "(II)I" } : MethodName) ({ cls := "HeadDots", name := "ifPrinted", desc := "(II)I" } : MethodName)) ∈ bigW := bw2 207 rfl rfl
set_option maxRecDepth 20000 in
theorem wd_448 : (Cond.code ({ cls := "HeadDots", name := "ifPrinted", desc := "(II)I" } : MethodName) prog_1_method_18_code 3 (Option.some ClassFile.FieldType.int)) ∈ bigW := bw2 208 rfl rfl
set_option maxRecDepth 20000 in
theorem wd_449 : (Cond.methodLink "HeadDots" 48 ({ cls := "HeadDots", name := "isLine", desc := "(I)Z" } : MethodName)) ∈ bigW := bw2 209 rfl rfl
set_option maxRecDepth 20000 in
theorem wd_450 : (Cond.static ({ cls := "HeadDots", name := "isLine", desc := "(I)Z" } : MethodName)) ∈ bigW := bw2 210 rfl rfl
set_option maxRecDepth 20000 in
theorem wd_451 : (Cond.code ({ cls := "HeadDots", name := "isLine", desc := "(I)Z" } : MethodName) prog_1_method_41_code 1 (Option.some ClassFile.FieldType.boolean)) ∈ bigW := bw2 211 rfl rfl
set_option maxRecDepth 20000 in
theorem wd_452 : (Cond.constant "HeadDots" 302 (16777215 : Int32)) ∈ bigW := bw2 212 rfl rfl
set_option maxRecDepth 20000 in
theorem wd_454 : (Cond.methodLink "HeadDots" 211 ({ cls := "HeadDots", name := "tryLine", desc := "(II)V" } : MethodName)) ∈ bigW := bw2 214 rfl rfl
set_option maxRecDepth 20000 in
theorem wd_456 : (Cond.instanceMethod ({ cls := "HeadDots", name := "tryLine", desc := "(II)V" } : MethodName)) ∈ bigW := bw2 216 rfl rfl
set_option maxRecDepth 20000 in
theorem wd_457 : (Cond.code ({ cls := "HeadDots", name := "tryLine", desc := "(II)V" } : MethodName) prog_1_method_30_code 3 (Option.none : Option ClassFile.FieldType)) ∈ bigW := bw2 217 rfl rfl
set_option maxRecDepth 20000 in
theorem wd_458 : (Cond.methodLink "HeadDots" 185 ({ cls := "HeadDots$State", name := "copyFrom", desc := "(LHeadDots$State;)V" } : MethodName)) ∈ bigW := bw2 218 rfl rfl
set_option maxRecDepth 20000 in
theorem wd_459 : (Cond.instanceMethod ({ cls := "HeadDots$State", name := "copyFrom", desc := "(LHeadDots$State;)V" } : MethodName)) ∈ bigW := bw2 219 rfl rfl
set_option maxRecDepth 20000 in
theorem wd_460 : (Cond.selects "HeadDots$State" ({ cls := "HeadDots$State", name := "copyFrom", desc := "(LHeadDots$State;)V" } : MethodName) ({ cls := "HeadDots$State", name := "copyFrom", desc := "(LHeadDots$State;)V" } : MethodName)) ∈ bigW := bw2 220 rfl rfl
set_option maxRecDepth 20000 in
theorem wd_461 : (Cond.code ({ cls := "HeadDots$State", name := "copyFrom", desc := "(LHeadDots$State;)V" } : MethodName) prog_4_method_2_code 2 (Option.none : Option ClassFile.FieldType)) ∈ bigW := bw2 221 rfl rfl
set_option maxRecDepth 20000 in
theorem wd_462 : (Cond.methodLink "HeadDots$State" 52 ({ cls := "HeadDots$Strip", name := "copyFrom", desc := "(LHeadDots$Strip;)V" } : MethodName)) ∈ bigW := bw2 222 rfl rfl
set_option maxRecDepth 20000 in
theorem wd_463 : (Cond.instanceMethod ({ cls := "HeadDots$Strip", name := "copyFrom", desc := "(LHeadDots$Strip;)V" } : MethodName)) ∈ bigW := bw2 223 rfl rfl
set_option maxRecDepth 20000 in
theorem wd_464 : (Cond.selects "HeadDots$Strip" ({ cls := "HeadDots$Strip", name := "copyFrom", desc := "(LHeadDots$Strip;)V" } : MethodName) ({ cls := "HeadDots$Strip", name := "copyFrom", desc := "(LHeadDots$Strip;)V" } : MethodName)) ∈ bigW := bw2 224 rfl rfl
set_option maxRecDepth 20000 in
theorem wd_465 : (Cond.code ({ cls := "HeadDots$Strip", name := "copyFrom", desc := "(LHeadDots$Strip;)V" } : MethodName) prog_5_method_2_code 2 (Option.none : Option ClassFile.FieldType)) ∈ bigW := bw2 225 rfl rfl
set_option maxRecDepth 20000 in
theorem wd_467 : (Cond.methodLink "HeadDots$State" 56 ({ cls := "HeadDots$Totals", name := "copyFrom", desc := "(LHeadDots$Totals;)V" } : MethodName)) ∈ bigW := bw2 227 rfl rfl
set_option maxRecDepth 20000 in
theorem wd_468 : (Cond.instanceMethod ({ cls := "HeadDots$Totals", name := "copyFrom", desc := "(LHeadDots$Totals;)V" } : MethodName)) ∈ bigW := bw2 228 rfl rfl
set_option maxRecDepth 20000 in
theorem wd_469 : (Cond.selects "HeadDots$Totals" ({ cls := "HeadDots$Totals", name := "copyFrom", desc := "(LHeadDots$Totals;)V" } : MethodName) ({ cls := "HeadDots$Totals", name := "copyFrom", desc := "(LHeadDots$Totals;)V" } : MethodName)) ∈ bigW := bw2 229 rfl rfl
set_option maxRecDepth 20000 in
theorem wd_470 : (Cond.code ({ cls := "HeadDots$Totals", name := "copyFrom", desc := "(LHeadDots$Totals;)V" } : MethodName) prog_6_method_2_code 2 (Option.none : Option ClassFile.FieldType)) ∈ bigW := bw2 230 rfl rfl
set_option maxRecDepth 20000 in
theorem wd_472 : (Cond.methodLink "HeadDots" 129 ({ cls := "HeadDots$State", name := "changeSetting", desc := "(II)V" } : MethodName)) ∈ bigW := bw2 232 rfl rfl
set_option maxRecDepth 20000 in
theorem wd_473 : (Cond.instanceMethod ({ cls := "HeadDots$State", name := "changeSetting", desc := "(II)V" } : MethodName)) ∈ bigW := bw2 233 rfl rfl
set_option maxRecDepth 20000 in
theorem wd_474 : (Cond.selects "HeadDots$State" ({ cls := "HeadDots$State", name := "changeSetting", desc := "(II)V" } : MethodName) ({ cls := "HeadDots$State", name := "changeSetting", desc := "(II)V" } : MethodName)) ∈ bigW := bw2 234 rfl rfl
set_option maxRecDepth 20000 in
theorem wd_475 : (Cond.code ({ cls := "HeadDots$State", name := "changeSetting", desc := "(II)V" } : MethodName) prog_4_method_4_code 3 (Option.none : Option ClassFile.FieldType)) ∈ bigW := bw2 235 rfl rfl
set_option maxRecDepth 20000 in
theorem wd_477 : (Cond.static ({ cls := "HeadDots", name := "put", desc := "([III)V" } : MethodName)) ∈ bigW := bw2 237 rfl rfl
set_option maxRecDepth 20000 in
theorem wd_478 : (Cond.code ({ cls := "HeadDots", name := "put", desc := "([III)V" } : MethodName) prog_1_method_45_code 3 (Option.none : Option ClassFile.FieldType)) ∈ bigW := bw2 238 rfl rfl
set_option maxRecDepth 20000 in
theorem wd_479 : (Cond.methodLink "HeadDots" 62 ({ cls := "HeadDots$State", name := "printLine", desc := "(I)I" } : MethodName)) ∈ bigW := bw2 239 rfl rfl
set_option maxRecDepth 20000 in
theorem wd_480 : (Cond.instanceMethod ({ cls := "HeadDots$State", name := "printLine", desc := "(I)I" } : MethodName)) ∈ bigW := bw3 0 rfl rfl
set_option maxRecDepth 20000 in
theorem wd_481 : (Cond.selects "HeadDots$State" ({ cls := "HeadDots$State", name := "printLine", desc := "(I)I" } : MethodName) ({ cls := "HeadDots$State", name := "printLine", desc := "(I)I" } : MethodName)) ∈ bigW := bw3 1 rfl rfl
set_option maxRecDepth 20000 in
theorem wd_482 : (Cond.code ({ cls := "HeadDots$State", name := "printLine", desc := "(I)I" } : MethodName) prog_4_method_7_code 9 (Option.some ClassFile.FieldType.int)) ∈ bigW := bw3 2 rfl rfl
set_option maxRecDepth 20000 in
theorem wd_483 : (Cond.methodLink "HeadDots$State" 77 ({ cls := "HeadDots$State", name := "dotsAtOnce", desc := "()I" } : MethodName)) ∈ bigW := bw3 3 rfl rfl
set_option maxRecDepth 20000 in
theorem wd_485 : (Cond.instanceMethod ({ cls := "HeadDots$State", name := "dotsAtOnce", desc := "()I" } : MethodName)) ∈ bigW := bw3 5 rfl rfl
set_option maxRecDepth 20000 in
theorem wd_486 : (Cond.code ({ cls := "HeadDots$State", name := "dotsAtOnce", desc := "()I" } : MethodName) prog_4_method_8_code 2 (Option.some ClassFile.FieldType.int)) ∈ bigW := bw3 6 rfl rfl
set_option maxRecDepth 20000 in
theorem wd_487 : (Cond.methodLink "HeadDots$State" 81 ({ cls := "java/lang/Integer", name := "bitCount", desc := "(I)I" } : MethodName)) ∈ bigW := bw3 7 rfl rfl
set_option maxRecDepth 20000 in
theorem wd_488 : (Cond.static ({ cls := "java/lang/Integer", name := "bitCount", desc := "(I)I" } : MethodName)) ∈ bigW := bw3 8 rfl rfl
set_option maxRecDepth 20000 in
theorem wd_489 : (Cond.code ({ cls := "java/lang/Integer", name := "bitCount", desc := "(I)I" } : MethodName) prog_12_method_49_code 1 (Option.some ClassFile.FieldType.int)) ∈ bigW := bw3 9 rfl rfl
set_option maxRecDepth 20000 in
theorem wd_490 : (Cond.constant "java/lang/Integer" 265 (1431655765 : Int32)) ∈ bigW := bw3 10 rfl rfl
set_option maxRecDepth 20000 in
theorem wd_491 : (Cond.constant "java/lang/Integer" 266 (858993459 : Int32)) ∈ bigW := bw3 11 rfl rfl
set_option maxRecDepth 20000 in
theorem wd_492 : (Cond.constant "java/lang/Integer" 267 (252645135 : Int32)) ∈ bigW := bw3 12 rfl rfl
set_option maxRecDepth 20000 in
theorem wd_493 : (Cond.methodLink "HeadDots$State" 86 ({ cls := "HeadDots$State", name := "preparePulses", desc := "(I)V" } : MethodName)) ∈ bigW := bw3 13 rfl rfl
set_option maxRecDepth 20000 in
theorem wd_495 : (Cond.instanceMethod ({ cls := "HeadDots$State", name := "preparePulses", desc := "(I)V" } : MethodName)) ∈ bigW := bw3 15 rfl rfl
set_option maxRecDepth 20000 in
theorem wd_496 : (Cond.code ({ cls := "HeadDots$State", name := "preparePulses", desc := "(I)V" } : MethodName) prog_4_method_9_code 4 (Option.none : Option ClassFile.FieldType)) ∈ bigW := bw3 16 rfl rfl
set_option maxRecDepth 20000 in
theorem wd_497 : (Cond.methodLink "HeadDots$State" 90 ({ cls := "HeadDots$State", name := "dotsOfPart", desc := "(IIII)I" } : MethodName)) ∈ bigW := bw3 17 rfl rfl
set_option maxRecDepth 20000 in
theorem wd_499 : (Cond.instanceMethod ({ cls := "HeadDots$State", name := "dotsOfPart", desc := "(IIII)I" } : MethodName)) ∈ bigW := bw3 19 rfl rfl
set_option maxRecDepth 20000 in
theorem wd_500 : (Cond.code ({ cls := "HeadDots$State", name := "dotsOfPart", desc := "(IIII)I" } : MethodName) prog_4_method_10_code 10 (Option.some ClassFile.FieldType.int)) ∈ bigW := bw3 20 rfl rfl
set_option maxRecDepth 20000 in
theorem wd_501 : (Cond.methodLink "HeadDots$State" 94 ({ cls := "HeadDots$State", name := "waitOfPart", desc := "(I)I" } : MethodName)) ∈ bigW := bw3 21 rfl rfl
set_option maxRecDepth 20000 in
theorem wd_503 : (Cond.instanceMethod ({ cls := "HeadDots$State", name := "waitOfPart", desc := "(I)I" } : MethodName)) ∈ bigW := bw3 23 rfl rfl
set_option maxRecDepth 20000 in
theorem wd_504 : (Cond.code ({ cls := "HeadDots$State", name := "waitOfPart", desc := "(I)I" } : MethodName) prog_4_method_11_code 5 (Option.some ClassFile.FieldType.int)) ∈ bigW := bw3 24 rfl rfl
set_option maxRecDepth 20000 in
theorem wd_505 : (Cond.methodLink "HeadDots$State" 97 ({ cls := "HeadDots$State", name := "passTime", desc := "(I)V" } : MethodName)) ∈ bigW := bw3 25 rfl rfl
set_option maxRecDepth 20000 in
theorem wd_506 : (Cond.instanceMethod ({ cls := "HeadDots$State", name := "passTime", desc := "(I)V" } : MethodName)) ∈ bigW := bw3 26 rfl rfl
set_option maxRecDepth 20000 in
theorem wd_507 : (Cond.selects "HeadDots$State" ({ cls := "HeadDots$State", name := "passTime", desc := "(I)V" } : MethodName) ({ cls := "HeadDots$State", name := "passTime", desc := "(I)V" } : MethodName)) ∈ bigW := bw3 27 rfl rfl
set_option maxRecDepth 20000 in
theorem wd_508 : (Cond.code ({ cls := "HeadDots$State", name := "passTime", desc := "(I)V" } : MethodName) prog_4_method_18_code 3 (Option.none : Option ClassFile.FieldType)) ∈ bigW := bw3 28 rfl rfl
set_option maxRecDepth 20000 in
theorem wd_509 : (Cond.methodLink "HeadDots$State" 143 ({ cls := "HeadDots$State", name := "cooledFor", desc := "(II)I" } : MethodName)) ∈ bigW := bw3 29 rfl rfl
set_option maxRecDepth 20000 in
theorem wd_511 : (Cond.instanceMethod ({ cls := "HeadDots$State", name := "cooledFor", desc := "(II)I" } : MethodName)) ∈ bigW := bw3 31 rfl rfl
set_option maxRecDepth 20000 in
theorem wd_512 : (Cond.code ({ cls := "HeadDots$State", name := "cooledFor", desc := "(II)I" } : MethodName) prog_4_method_19_code 6 (Option.some ClassFile.FieldType.int)) ∈ bigW := bw3 32 rfl rfl
set_option maxRecDepth 20000 in
theorem wd_513 : (Cond.methodLink "HeadDots$State" 103 ({ cls := "HeadDots$State", name := "heatPart", desc := "(I)I" } : MethodName)) ∈ bigW := bw3 33 rfl rfl
set_option maxRecDepth 20000 in
theorem wd_515 : (Cond.instanceMethod ({ cls := "HeadDots$State", name := "heatPart", desc := "(I)I" } : MethodName)) ∈ bigW := bw3 35 rfl rfl
set_option maxRecDepth 20000 in
theorem wd_516 : (Cond.code ({ cls := "HeadDots$State", name := "heatPart", desc := "(I)I" } : MethodName) prog_4_method_12_code 4 (Option.some ClassFile.FieldType.int)) ∈ bigW := bw3 36 rfl rfl
set_option maxRecDepth 20000 in
theorem wd_517 : (Cond.methodLink "HeadDots$State" 133 ({ cls := "HeadDots$State", name := "isDark", desc := "(I)Z" } : MethodName)) ∈ bigW := bw3 37 rfl rfl
set_option maxRecDepth 20000 in
theorem wd_519 : (Cond.instanceMethod ({ cls := "HeadDots$State", name := "isDark", desc := "(I)Z" } : MethodName)) ∈ bigW := bw3 39 rfl rfl
set_option maxRecDepth 20000 in
theorem wd_520 : (Cond.code ({ cls := "HeadDots$State", name := "isDark", desc := "(I)Z" } : MethodName) prog_4_method_17_code 2 (Option.some ClassFile.FieldType.boolean)) ∈ bigW := bw3 40 rfl rfl
set_option maxRecDepth 20000 in
theorem wd_523 : (Cond.methodLink "HeadDots$State" 106 ({ cls := "HeadDots$State", name := "longestPulse", desc := "(I)I" } : MethodName)) ∈ bigW := bw3 43 rfl rfl
set_option maxRecDepth 20000 in
theorem wd_525 : (Cond.instanceMethod ({ cls := "HeadDots$State", name := "longestPulse", desc := "(I)I" } : MethodName)) ∈ bigW := bw3 45 rfl rfl
set_option maxRecDepth 20000 in
theorem wd_526 : (Cond.code ({ cls := "HeadDots$State", name := "longestPulse", desc := "(I)I" } : MethodName) prog_4_method_13_code 4 (Option.some ClassFile.FieldType.int)) ∈ bigW := bw3 46 rfl rfl
set_option maxRecDepth 20000 in
theorem wd_527 : (Cond.methodLink "HeadDots$State" 109 ({ cls := "HeadDots$Strip", name := "addLine", desc := "(III)V" } : MethodName)) ∈ bigW := bw3 47 rfl rfl
set_option maxRecDepth 20000 in
theorem wd_528 : (Cond.instanceMethod ({ cls := "HeadDots$Strip", name := "addLine", desc := "(III)V" } : MethodName)) ∈ bigW := bw3 48 rfl rfl
set_option maxRecDepth 20000 in
theorem wd_529 : (Cond.selects "HeadDots$Strip" ({ cls := "HeadDots$Strip", name := "addLine", desc := "(III)V" } : MethodName) ({ cls := "HeadDots$Strip", name := "addLine", desc := "(III)V" } : MethodName)) ∈ bigW := bw3 49 rfl rfl
set_option maxRecDepth 20000 in
theorem wd_530 : (Cond.code ({ cls := "HeadDots$Strip", name := "addLine", desc := "(III)V" } : MethodName) prog_5_method_3_code 4 (Option.none : Option ClassFile.FieldType)) ∈ bigW := bw3 50 rfl rfl
set_option maxRecDepth 20000 in
theorem wd_531 : (Cond.methodLink "HeadDots$Strip" 29 ({ cls := "HeadDots$Strip", name := "pushFront", desc := "([II)V" } : MethodName)) ∈ bigW := bw3 51 rfl rfl
set_option maxRecDepth 20000 in
theorem wd_532 : (Cond.static ({ cls := "HeadDots$Strip", name := "pushFront", desc := "([II)V" } : MethodName)) ∈ bigW := bw3 52 rfl rfl
set_option maxRecDepth 20000 in
theorem wd_533 : (Cond.code ({ cls := "HeadDots$Strip", name := "pushFront", desc := "([II)V" } : MethodName) prog_5_method_4_code 3 (Option.none : Option ClassFile.FieldType)) ∈ bigW := bw3 53 rfl rfl
set_option maxRecDepth 20000 in
theorem wd_535 : (Cond.methodLink "HeadDots$Strip" 33 Lib.Math.min.name) ∈ bigW := bw3 55 (by decide +kernel) (by decide +kernel)
set_option maxRecDepth 20000 in
theorem wd_536 : (Cond.methodLink "HeadDots$State" 113 ({ cls := "HeadDots$Totals", name := "addLine", desc := "(III)V" } : MethodName)) ∈ bigW := bw3 56 rfl rfl
set_option maxRecDepth 20000 in
theorem wd_537 : (Cond.instanceMethod ({ cls := "HeadDots$Totals", name := "addLine", desc := "(III)V" } : MethodName)) ∈ bigW := bw3 57 rfl rfl
set_option maxRecDepth 20000 in
theorem wd_538 : (Cond.selects "HeadDots$Totals" ({ cls := "HeadDots$Totals", name := "addLine", desc := "(III)V" } : MethodName) ({ cls := "HeadDots$Totals", name := "addLine", desc := "(III)V" } : MethodName)) ∈ bigW := bw3 58 rfl rfl
set_option maxRecDepth 20000 in
theorem wd_539 : (Cond.code ({ cls := "HeadDots$Totals", name := "addLine", desc := "(III)V" } : MethodName) prog_6_method_3_code 4 (Option.none : Option ClassFile.FieldType)) ∈ bigW := bw3 59 rfl rfl
set_option maxRecDepth 20000 in
theorem wd_540 : (Cond.methodLink "HeadDots$Totals" 44 ({ cls := "java/lang/Integer", name := "bitCount", desc := "(I)I" } : MethodName)) ∈ bigW := bw3 60 rfl rfl
set_option maxRecDepth 20000 in
theorem wd_541 : (Cond.methodLink "HeadDots$Totals" 50 ({ cls := "HeadDots$Totals", name := "addDots", desc := "([II)V" } : MethodName)) ∈ bigW := bw3 61 rfl rfl
set_option maxRecDepth 20000 in
theorem wd_542 : (Cond.static ({ cls := "HeadDots$Totals", name := "addDots", desc := "([II)V" } : MethodName)) ∈ bigW := bw3 62 rfl rfl
set_option maxRecDepth 20000 in
theorem wd_543 : (Cond.code ({ cls := "HeadDots$Totals", name := "addDots", desc := "([II)V" } : MethodName) prog_6_method_4_code 3 (Option.none : Option ClassFile.FieldType)) ∈ bigW := bw3 63 rfl rfl
set_option maxRecDepth 20000 in
theorem wd_545 : (Cond.methodLink "HeadDots" 214 ({ cls := "HeadDots", name := "tried", desc := "(I)I" } : MethodName)) ∈ bigW := bw3 65 rfl rfl
set_option maxRecDepth 20000 in
theorem wd_547 : (Cond.instanceMethod ({ cls := "HeadDots", name := "tried", desc := "(I)I" } : MethodName)) ∈ bigW := bw3 67 rfl rfl
set_option maxRecDepth 20000 in
theorem wd_548 : (Cond.code ({ cls := "HeadDots", name := "tried", desc := "(I)I" } : MethodName) prog_1_method_31_code 3 (Option.some ClassFile.FieldType.int)) ∈ bigW := bw3 68 rfl rfl
set_option maxRecDepth 20000 in
theorem wd_549 : (Cond.methodLink "HeadDotsLaw" 69 ({ cls := "HeadDots", name := "betterWay", desc := "(I)I" } : MethodName)) ∈ bigW := bw3 69 rfl rfl
set_option maxRecDepth 20000 in
theorem wd_550 : (Cond.instanceMethod ({ cls := "HeadDots", name := "betterWay", desc := "(I)I" } : MethodName)) ∈ bigW := bw3 70 rfl rfl
set_option maxRecDepth 20000 in
theorem wd_551 : (Cond.selects "HeadDots" ({ cls := "HeadDots", name := "betterWay", desc := "(I)I" } : MethodName) ({ cls := "HeadDots", name := "betterWay", desc := "(I)I" } : MethodName)) ∈ bigW := bw3 71 rfl rfl
set_option maxRecDepth 20000 in
theorem wd_552 : (Cond.code ({ cls := "HeadDots", name := "betterWay", desc := "(I)I" } : MethodName) prog_1_method_19_code 2 (Option.some ClassFile.FieldType.int)) ∈ bigW := bw3 72 rfl rfl
set_option maxRecDepth 20000 in
theorem wd_554 : (Cond.methodLink "HeadDots" 217 ({ cls := "HeadDots", name := "fasterWay", desc := "(I)I" } : MethodName)) ∈ bigW := bw3 74 rfl rfl
set_option maxRecDepth 20000 in
theorem wd_556 : (Cond.instanceMethod ({ cls := "HeadDots", name := "fasterWay", desc := "(I)I" } : MethodName)) ∈ bigW := bw3 76 rfl rfl
set_option maxRecDepth 20000 in
theorem wd_557 : (Cond.code ({ cls := "HeadDots", name := "fasterWay", desc := "(I)I" } : MethodName) prog_1_method_32_code 3 (Option.some ClassFile.FieldType.int)) ∈ bigW := bw3 77 rfl rfl
set_option maxRecDepth 20000 in
theorem wd_558 : (Cond.methodLink "HeadDotsLaw" 121 ({ cls := "HeadDotsLaw", name := "wouldDot", desc := "(LHeadDots;[I[III)Z" } : MethodName)) ∈ bigW := bw3 78 rfl rfl
set_option maxRecDepth 20000 in
theorem wd_559 : (Cond.static ({ cls := "HeadDotsLaw", name := "wouldDot", desc := "(LHeadDots;[I[III)Z" } : MethodName)) ∈ bigW := bw3 79 rfl rfl
set_option maxRecDepth 20000 in
theorem wd_560 : (Cond.code ({ cls := "HeadDotsLaw", name := "wouldDot", desc := "(LHeadDots;[I[III)Z" } : MethodName) method_15_code 12 (Option.some ClassFile.FieldType.boolean)) ∈ bigW := bw3 80 rfl rfl
set_option maxRecDepth 20000 in
theorem wd_561 : (Cond.methodLink "HeadDotsLaw" 72 ({ cls := "HeadDots", name := "coolIn", desc := "(I)I" } : MethodName)) ∈ bigW := bw3 81 rfl rfl
set_option maxRecDepth 20000 in
theorem wd_562 : (Cond.instanceMethod ({ cls := "HeadDots", name := "coolIn", desc := "(I)I" } : MethodName)) ∈ bigW := bw3 82 rfl rfl
set_option maxRecDepth 20000 in
theorem wd_563 : (Cond.selects "HeadDots" ({ cls := "HeadDots", name := "coolIn", desc := "(I)I" } : MethodName) ({ cls := "HeadDots", name := "coolIn", desc := "(I)I" } : MethodName)) ∈ bigW := bw3 83 rfl rfl
set_option maxRecDepth 20000 in
theorem wd_564 : (Cond.code ({ cls := "HeadDots", name := "coolIn", desc := "(I)I" } : MethodName) prog_1_method_20_code 2 (Option.some ClassFile.FieldType.int)) ∈ bigW := bw3 84 rfl rfl
set_option maxRecDepth 20000 in
theorem wd_566 : (Cond.methodLink "HeadDots" 222 ({ cls := "HeadDots$State", name := "timeUntilCool", desc := "(I)I" } : MethodName)) ∈ bigW := bw3 86 rfl rfl
set_option maxRecDepth 20000 in
theorem wd_567 : (Cond.instanceMethod ({ cls := "HeadDots$State", name := "timeUntilCool", desc := "(I)I" } : MethodName)) ∈ bigW := bw3 87 rfl rfl
set_option maxRecDepth 20000 in
theorem wd_568 : (Cond.selects "HeadDots$State" ({ cls := "HeadDots$State", name := "timeUntilCool", desc := "(I)I" } : MethodName) ({ cls := "HeadDots$State", name := "timeUntilCool", desc := "(I)I" } : MethodName)) ∈ bigW := bw3 88 rfl rfl
set_option maxRecDepth 20000 in
theorem wd_569 : (Cond.code ({ cls := "HeadDots$State", name := "timeUntilCool", desc := "(I)I" } : MethodName) prog_4_method_22_code 2 (Option.some ClassFile.FieldType.int)) ∈ bigW := bw3 89 rfl rfl
set_option maxRecDepth 20000 in
theorem wd_570 : (Cond.methodLink "HeadDots$State" 150 ({ cls := "HeadDots$State", name := "hottestDot", desc := "()I" } : MethodName)) ∈ bigW := bw3 90 rfl rfl
set_option maxRecDepth 20000 in
theorem wd_571 : (Cond.methodLink "HeadDotsLaw" 75 ({ cls := "HeadDots", name := "darkFrom", desc := "(I)I" } : MethodName)) ∈ bigW := bw3 91 rfl rfl
set_option maxRecDepth 20000 in
theorem wd_572 : (Cond.instanceMethod ({ cls := "HeadDots", name := "darkFrom", desc := "(I)I" } : MethodName)) ∈ bigW := bw3 92 rfl rfl
set_option maxRecDepth 20000 in
theorem wd_573 : (Cond.selects "HeadDots" ({ cls := "HeadDots", name := "darkFrom", desc := "(I)I" } : MethodName) ({ cls := "HeadDots", name := "darkFrom", desc := "(I)I" } : MethodName)) ∈ bigW := bw3 93 rfl rfl
set_option maxRecDepth 20000 in
theorem wd_574 : (Cond.code ({ cls := "HeadDots", name := "darkFrom", desc := "(I)I" } : MethodName) prog_1_method_21_code 2 (Option.some ClassFile.FieldType.int)) ∈ bigW := bw3 94 rfl rfl
set_option maxRecDepth 20000 in
theorem wd_575 : (Cond.methodLink "HeadDots" 225 ({ cls := "HeadDots$State", name := "leastDarkSetting", desc := "(I)I" } : MethodName)) ∈ bigW := bw3 95 rfl rfl
set_option maxRecDepth 20000 in
theorem wd_576 : (Cond.instanceMethod ({ cls := "HeadDots$State", name := "leastDarkSetting", desc := "(I)I" } : MethodName)) ∈ bigW := bw3 96 rfl rfl
set_option maxRecDepth 20000 in
theorem wd_577 : (Cond.selects "HeadDots$State" ({ cls := "HeadDots$State", name := "leastDarkSetting", desc := "(I)I" } : MethodName) ({ cls := "HeadDots$State", name := "leastDarkSetting", desc := "(I)I" } : MethodName)) ∈ bigW := bw3 97 rfl rfl
set_option maxRecDepth 20000 in
theorem wd_578 : (Cond.code ({ cls := "HeadDots$State", name := "leastDarkSetting", desc := "(I)I" } : MethodName) prog_4_method_24_code 6 (Option.some ClassFile.FieldType.int)) ∈ bigW := bw3 98 rfl rfl
set_option maxRecDepth 20000 in
theorem wd_583 : (Cond.methodLink "HeadDotsLaw" 95 ({ cls := "HeadDotsLaw", name := "dots", desc := "(I)I" } : MethodName)) ∈ bigW := bw3 103 rfl rfl
set_option maxRecDepth 20000 in
theorem wd_584 : (Cond.static ({ cls := "HeadDotsLaw", name := "dots", desc := "(I)I" } : MethodName)) ∈ bigW := bw3 104 rfl rfl
set_option maxRecDepth 20000 in
theorem wd_585 : (Cond.code ({ cls := "HeadDotsLaw", name := "dots", desc := "(I)I" } : MethodName) method_16_code 1 (Option.some ClassFile.FieldType.int)) ∈ bigW := bw3 105 rfl rfl
set_option maxRecDepth 20000 in
theorem wd_586 : (Cond.constant "HeadDotsLaw" 81 (16777215 : Int32)) ∈ bigW := bw3 106 rfl rfl
set_option maxRecDepth 20000 in
theorem wd_587 : (Cond.methodLink "HeadDotsLaw" 117 ({ cls := "HeadDotsLaw", name := "acts", desc := "(LHeadDots;[I[I[I[I[III)Z" } : MethodName)) ∈ bigW := bw3 107 rfl rfl
set_option maxRecDepth 20000 in
theorem wd_588 : (Cond.static ({ cls := "HeadDotsLaw", name := "acts", desc := "(LHeadDots;[I[I[I[I[III)Z" } : MethodName)) ∈ bigW := bw3 108 rfl rfl
set_option maxRecDepth 20000 in
theorem wd_589 : (Cond.code ({ cls := "HeadDotsLaw", name := "acts", desc := "(LHeadDots;[I[I[I[I[III)Z" } : MethodName) method_18_code 14 (Option.some ClassFile.FieldType.boolean)) ∈ bigW := bw3 109 rfl rfl
set_option maxRecDepth 20000 in
theorem wd_590 : (Cond.methodLink "HeadDotsLaw" 85 ({ cls := "HeadDotsLaw", name := "sets", desc := "(LHeadDots;[II)Z" } : MethodName)) ∈ bigW := bw3 110 rfl rfl
set_option maxRecDepth 20000 in
theorem wd_591 : (Cond.static ({ cls := "HeadDotsLaw", name := "sets", desc := "(LHeadDots;[II)Z" } : MethodName)) ∈ bigW := bw3 111 rfl rfl
set_option maxRecDepth 20000 in
theorem wd_592 : (Cond.code ({ cls := "HeadDotsLaw", name := "sets", desc := "(LHeadDots;[II)Z" } : MethodName) method_17_code 6 (Option.some ClassFile.FieldType.boolean)) ∈ bigW := bw3 112 rfl rfl
set_option maxRecDepth 20000 in
theorem wd_593 : (Cond.methodLink "HeadDotsLaw" 82 ({ cls := "HeadDots", name := "set", desc := "(II)I" } : MethodName)) ∈ bigW := bw3 113 rfl rfl
set_option maxRecDepth 20000 in
theorem wd_594 : (Cond.instanceMethod ({ cls := "HeadDots", name := "set", desc := "(II)I" } : MethodName)) ∈ bigW := bw3 114 rfl rfl
set_option maxRecDepth 20000 in
theorem wd_595 : (Cond.selects "HeadDots" ({ cls := "HeadDots", name := "set", desc := "(II)I" } : MethodName) ({ cls := "HeadDots", name := "set", desc := "(II)I" } : MethodName)) ∈ bigW := bw3 115 rfl rfl
set_option maxRecDepth 20000 in
theorem wd_596 : (Cond.code ({ cls := "HeadDots", name := "set", desc := "(II)I" } : MethodName) prog_1_method_6_code 4 (Option.some ClassFile.FieldType.int)) ∈ bigW := bw3 116 rfl rfl
set_option maxRecDepth 20000 in
theorem wd_598 : (Cond.fieldLink "HeadDots" 114 "HeadDots" "SETTING_LEAST" "[I") ∈ bigW := bw3 118 rfl rfl
set_option maxRecDepth 20000 in
theorem wd_599 : (Cond.methodLink "HeadDots" 118 ({ cls := "HeadDots", name := "at", desc := "([II)I" } : MethodName)) ∈ bigW := bw3 119 rfl rfl
set_option maxRecDepth 20000 in
theorem wd_600 : (Cond.fieldLink "HeadDots" 122 "HeadDots" "SETTING_MOST" "[I") ∈ bigW := bw3 120 rfl rfl
set_option maxRecDepth 20000 in
theorem wd_602 : (Cond.methodLink "HeadDots" 59 ({ cls := "HeadDots", name := "saveState", desc := "()V" } : MethodName)) ∈ bigW := bw3 122 rfl rfl
set_option maxRecDepth 20000 in
theorem wd_604 : (Cond.instanceMethod ({ cls := "HeadDots", name := "saveState", desc := "()V" } : MethodName)) ∈ bigW := bw3 124 rfl rfl
set_option maxRecDepth 20000 in
theorem wd_605 : (Cond.code ({ cls := "HeadDots", name := "saveState", desc := "()V" } : MethodName) prog_1_method_25_code 2 (Option.none : Option ClassFile.FieldType)) ∈ bigW := bw3 125 rfl rfl
set_option maxRecDepth 20000 in
theorem wd_606 : (Cond.methodLink "HeadDots" 264 ({ cls := "HeadDots", name := "dropOldest", desc := "()V" } : MethodName)) ∈ bigW := bw3 126 rfl rfl
set_option maxRecDepth 20000 in
theorem wd_608 : (Cond.instanceMethod ({ cls := "HeadDots", name := "dropOldest", desc := "()V" } : MethodName)) ∈ bigW := bw3 128 rfl rfl
set_option maxRecDepth 20000 in
theorem wd_609 : (Cond.code ({ cls := "HeadDots", name := "dropOldest", desc := "()V" } : MethodName) prog_1_method_26_code 3 (Option.none : Option ClassFile.FieldType)) ∈ bigW := bw3 129 rfl rfl
set_option maxRecDepth 20000 in
theorem wd_610 : (Cond.methodLink "HeadDots" 181 ({ cls := "HeadDots", name := "savedAt", desc := "(I)LHeadDots$State;" } : MethodName)) ∈ bigW := bw3 130 rfl rfl
set_option maxRecDepth 20000 in
theorem wd_612 : (Cond.instanceMethod ({ cls := "HeadDots", name := "savedAt", desc := "(I)LHeadDots$State;" } : MethodName)) ∈ bigW := bw3 132 rfl rfl
set_option maxRecDepth 20000 in
theorem wd_613 : (Cond.code ({ cls := "HeadDots", name := "savedAt", desc := "(I)LHeadDots$State;" } : MethodName) prog_1_method_27_code 2 (Option.some (ClassFile.FieldType.object "HeadDots$State"))) ∈ bigW := bw3 133 rfl rfl
set_option maxRecDepth 20000 in
theorem wd_614 : (Cond.methodLink "HeadDotsLaw" 89 ({ cls := "HeadDots", name := "paper", desc := "(I)I" } : MethodName)) ∈ bigW := bw3 134 rfl rfl
set_option maxRecDepth 20000 in
theorem wd_615 : (Cond.instanceMethod ({ cls := "HeadDots", name := "paper", desc := "(I)I" } : MethodName)) ∈ bigW := bw3 135 rfl rfl
set_option maxRecDepth 20000 in
theorem wd_616 : (Cond.selects "HeadDots" ({ cls := "HeadDots", name := "paper", desc := "(I)I" } : MethodName) ({ cls := "HeadDots", name := "paper", desc := "(I)I" } : MethodName)) ∈ bigW := bw3 136 rfl rfl
set_option maxRecDepth 20000 in
theorem wd_617 : (Cond.code ({ cls := "HeadDots", name := "paper", desc := "(I)I" } : MethodName) prog_1_method_5_code 3 (Option.some ClassFile.FieldType.int)) ∈ bigW := bw3 137 rfl rfl
set_option maxRecDepth 20000 in
theorem wd_619 : (Cond.methodLink "HeadDots" 106 ({ cls := "HeadDots$State", name := "changePaper", desc := "(I)V" } : MethodName)) ∈ bigW := bw3 139 rfl rfl
set_option maxRecDepth 20000 in
theorem wd_620 : (Cond.instanceMethod ({ cls := "HeadDots$State", name := "changePaper", desc := "(I)V" } : MethodName)) ∈ bigW := bw3 140 rfl rfl
set_option maxRecDepth 20000 in
theorem wd_621 : (Cond.selects "HeadDots$State" ({ cls := "HeadDots$State", name := "changePaper", desc := "(I)V" } : MethodName) ({ cls := "HeadDots$State", name := "changePaper", desc := "(I)V" } : MethodName)) ∈ bigW := bw3 141 rfl rfl
set_option maxRecDepth 20000 in
theorem wd_622 : (Cond.code ({ cls := "HeadDots$State", name := "changePaper", desc := "(I)V" } : MethodName) prog_4_method_5_code 2 (Option.none : Option ClassFile.FieldType)) ∈ bigW := bw3 142 rfl rfl
set_option maxRecDepth 20000 in
theorem wd_623 : (Cond.methodLink "HeadDotsLaw" 92 ({ cls := "HeadDots", name := "rest", desc := "(I)I" } : MethodName)) ∈ bigW := bw3 143 rfl rfl
set_option maxRecDepth 20000 in
theorem wd_624 : (Cond.instanceMethod ({ cls := "HeadDots", name := "rest", desc := "(I)I" } : MethodName)) ∈ bigW := bw3 144 rfl rfl
set_option maxRecDepth 20000 in
theorem wd_625 : (Cond.selects "HeadDots" ({ cls := "HeadDots", name := "rest", desc := "(I)I" } : MethodName) ({ cls := "HeadDots", name := "rest", desc := "(I)I" } : MethodName)) ∈ bigW := bw3 145 rfl rfl
set_option maxRecDepth 20000 in
theorem wd_626 : (Cond.code ({ cls := "HeadDots", name := "rest", desc := "(I)I" } : MethodName) prog_1_method_4_code 2 (Option.some ClassFile.FieldType.int)) ∈ bigW := bw3 146 rfl rfl
set_option maxRecDepth 20000 in
theorem wd_628 : (Cond.methodLink "HeadDots" 87 ({ cls := "HeadDots$State", name := "passTime", desc := "(I)V" } : MethodName)) ∈ bigW := bw3 148 rfl rfl
set_option maxRecDepth 20000 in
theorem wd_629 : (Cond.methodLink "HeadDotsLaw" 98 ({ cls := "HeadDots", name := "lines", desc := "(II)I" } : MethodName)) ∈ bigW := bw3 149 rfl rfl
set_option maxRecDepth 20000 in
theorem wd_630 : (Cond.instanceMethod ({ cls := "HeadDots", name := "lines", desc := "(II)I" } : MethodName)) ∈ bigW := bw3 150 rfl rfl
set_option maxRecDepth 20000 in
theorem wd_631 : (Cond.selects "HeadDots" ({ cls := "HeadDots", name := "lines", desc := "(II)I" } : MethodName) ({ cls := "HeadDots", name := "lines", desc := "(II)I" } : MethodName)) ∈ bigW := bw3 151 rfl rfl
set_option maxRecDepth 20000 in
theorem wd_632 : (Cond.code ({ cls := "HeadDots", name := "lines", desc := "(II)I" } : MethodName) prog_1_method_3_code 4 (Option.some ClassFile.FieldType.int)) ∈ bigW := bw3 152 rfl rfl
set_option maxRecDepth 20000 in
theorem wd_634 : (Cond.methodLink "HeadDots" 81 ({ cls := "HeadDots$State", name := "printLines", desc := "(II)V" } : MethodName)) ∈ bigW := bw3 154 rfl rfl
set_option maxRecDepth 20000 in
theorem wd_635 : (Cond.instanceMethod ({ cls := "HeadDots$State", name := "printLines", desc := "(II)V" } : MethodName)) ∈ bigW := bw3 155 rfl rfl
set_option maxRecDepth 20000 in
theorem wd_636 : (Cond.selects "HeadDots$State" ({ cls := "HeadDots$State", name := "printLines", desc := "(II)V" } : MethodName) ({ cls := "HeadDots$State", name := "printLines", desc := "(II)V" } : MethodName)) ∈ bigW := bw3 156 rfl rfl
set_option maxRecDepth 20000 in
theorem wd_637 : (Cond.code ({ cls := "HeadDots$State", name := "printLines", desc := "(II)V" } : MethodName) prog_4_method_6_code 4 (Option.none : Option ClassFile.FieldType)) ∈ bigW := bw3 157 rfl rfl
set_option maxRecDepth 20000 in
theorem wd_638 : (Cond.methodLink "HeadDots$State" 70 ({ cls := "HeadDots$State", name := "printLine", desc := "(I)I" } : MethodName)) ∈ bigW := bw3 158 rfl rfl
set_option maxRecDepth 20000 in
theorem wd_639 : (Cond.methodLink "HeadDotsLaw" 101 ({ cls := "HeadDots", name := "line", desc := "(I)I" } : MethodName)) ∈ bigW := bw3 159 rfl rfl
set_option maxRecDepth 20000 in
theorem wd_640 : (Cond.instanceMethod ({ cls := "HeadDots", name := "line", desc := "(I)I" } : MethodName)) ∈ bigW := bw3 160 rfl rfl
set_option maxRecDepth 20000 in
theorem wd_641 : (Cond.selects "HeadDots" ({ cls := "HeadDots", name := "line", desc := "(I)I" } : MethodName) ({ cls := "HeadDots", name := "line", desc := "(I)I" } : MethodName)) ∈ bigW := bw3 161 rfl rfl
set_option maxRecDepth 20000 in
theorem wd_642 : (Cond.code ({ cls := "HeadDots", name := "line", desc := "(I)I" } : MethodName) prog_1_method_2_code 2 (Option.some ClassFile.FieldType.int)) ∈ bigW := bw3 162 rfl rfl
