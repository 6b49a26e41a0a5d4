def bigW : List Cond := lw_tbl.filter goodWord
theorem bw_in {w : Cond} (h : w ∈ tables_1) (hg : goodWord w = true) : w ∈ bigW := List.mem_filter.mpr ⟨List.mem_append_right _ h, hg⟩
theorem bws {w : Cond} (i : Nat) (h : (k2_sels lw_privs)[i]? = some w) (hg : goodWord w = true) : w ∈ bigW := List.mem_filter.mpr ⟨List.mem_append_left _ (List.mem_of_getElem? h), hg⟩
theorem bw1 {w : Cond} (i : Nat) (h : tables_1_1[i]? = some w) (hg : goodWord w = true) : w ∈ bigW := bw_in (List.mem_append_left _ (List.mem_of_getElem? h)) hg
theorem bw2 {w : Cond} (i : Nat) (h : tables_1_2[i]? = some w) (hg : goodWord w = true) : w ∈ bigW := bw_in (List.mem_append_right _ (List.mem_append_left _ (List.mem_of_getElem? h))) hg
theorem bw3 {w : Cond} (i : Nat) (h : tables_1_3[i]? = some w) (hg : goodWord w = true) : w ∈ bigW := bw_in (List.mem_append_right _ (List.mem_append_right _ (List.mem_append_left _ (List.mem_of_getElem? h)))) hg
theorem bw4 {w : Cond} (i : Nat) (h : tables_1_4[i]? = some w) (hg : goodWord w = true) : w ∈ bigW := bw_in (List.mem_append_right _ (List.mem_append_right _ (List.mem_append_right _ (List.mem_append_left _ (List.mem_of_getElem? h))))) hg
theorem bw5 {w : Cond} (i : Nat) (h : tables_1_5[i]? = some w) (hg : goodWord w = true) : w ∈ bigW := bw_in (List.mem_append_right _ (List.mem_append_right _ (List.mem_append_right _ (List.mem_append_right _ (List.mem_append_left _ (List.mem_of_getElem? h)))))) hg
theorem bw6 {w : Cond} (i : Nat) (h : tables_1_6[i]? = some w) (hg : goodWord w = true) : w ∈ bigW := bw_in (List.mem_append_right _ (List.mem_append_right _ (List.mem_append_right _ (List.mem_append_right _ (List.mem_append_right _ (List.mem_of_getElem? h)))))) hg
set_option maxRecDepth 20000 in
theorem wd_0 : (Cond.initialized "HeadDotsLaw") ∈ bigW := bw1 0 rfl rfl
set_option maxRecDepth 20000 in
theorem wd_1 : (Cond.initialized "HeadDots") ∈ bigW := bw1 1 rfl rfl
set_option maxRecDepth 20000 in
theorem wd_2 : (Cond.initialized "HeadDots$State") ∈ bigW := bw1 2 rfl rfl
set_option maxRecDepth 20000 in
theorem wd_3 : (Cond.initialized "java/lang/Math") ∈ bigW := bw1 3 rfl rfl
set_option maxRecDepth 20000 in
theorem wd_4 : (Cond.initialized "java/lang/System") ∈ bigW := bw1 4 rfl rfl
set_option maxRecDepth 20000 in
theorem wd_5 : (Cond.initialized "HeadDots$Strip") ∈ bigW := bw1 5 rfl rfl
set_option maxRecDepth 20000 in
theorem wd_6 : (Cond.initialized "HeadDots$Totals") ∈ bigW := bw1 6 rfl rfl
set_option maxRecDepth 20000 in
theorem wd_7 : (Cond.initialized "HeadDots$Buffer") ∈ bigW := bw1 7 rfl rfl
set_option maxRecDepth 20000 in
theorem wd_8 : (Cond.initialized "HeadDots$Reader") ∈ bigW := bw1 8 rfl rfl
set_option maxRecDepth 20000 in
theorem wd_9 : (Cond.initialized "HeadDotsModel") ∈ bigW := bw1 9 rfl rfl
set_option maxRecDepth 20000 in
theorem wd_13 : (Cond.initialized "java/lang/IllegalArgumentException") ∈ bigW := bw1 13 rfl rfl
set_option maxRecDepth 20000 in
theorem wd_14 : (Cond.initialized "java/lang/Integer") ∈ bigW := bw1 14 rfl rfl
set_option maxRecDepth 20000 in
theorem wd_15 : (Cond.initialized "java/lang/IndexOutOfBoundsException") ∈ bigW := bw1 15 rfl rfl
set_option maxRecDepth 20000 in
theorem wd_16 : (Cond.initialized "java/lang/IllegalStateException") ∈ bigW := bw1 16 rfl rfl
set_option maxRecDepth 20000 in
theorem wd_17 : (Cond.initialized "java/lang/String") ∈ bigW := bw1 17 rfl rfl
set_option maxRecDepth 20000 in
theorem wd_18 : (Cond.initialized "java/lang/StringLatin1") ∈ bigW := bw1 18 rfl rfl
set_option maxRecDepth 20000 in
theorem wd_19 : (Cond.initialized "jdk/internal/util/Preconditions") ∈ bigW := bw1 19 rfl rfl
set_option maxRecDepth 20000 in
theorem wd_20 : (Cond.initialized "java/lang/StringUTF16") ∈ bigW := bw1 20 rfl rfl
set_option maxRecDepth 20000 in
theorem wd_21 : (Cond.initialized "java/lang/Double") ∈ bigW := bw1 21 rfl rfl
set_option maxRecDepth 20000 in
theorem wd_22 : (Cond.initialized "java/lang/Float") ∈ bigW := bw1 22 rfl rfl
set_option maxRecDepth 20000 in
theorem wd_23 : (Cond.classLink "HeadDotsLaw" 8 "HeadDots") ∈ bigW := bw1 23 rfl rfl
set_option maxRecDepth 20000 in
theorem wd_24 : (Cond.instantiable "HeadDots" 8) ∈ bigW := bw1 24 rfl rfl
set_option maxRecDepth 20000 in
theorem wd_25 : (Cond.methodLink "HeadDotsLaw" 69 ({ cls := "HeadDots", name := "<init>", desc := "()V" } : MethodName)) ∈ bigW := bw1 25 rfl rfl
set_option maxRecDepth 20000 in
theorem wd_26 : (Cond.instanceMethod ({ cls := "HeadDots", name := "<init>", desc := "()V" } : MethodName)) ∈ bigW := bw1 26 rfl rfl
set_option maxRecDepth 20000 in
theorem wd_27 : (Cond.code ({ cls := "HeadDots", name := "<init>", desc := "()V" } : MethodName) prog_1_method_1_code 2 (Option.none : Option ClassFile.FieldType)) ∈ bigW := bw1 27 rfl rfl
set_option maxRecDepth 20000 in
theorem wd_28 : (Cond.methodLink "HeadDots" 1 ({ cls := "java/lang/Object", name := "<init>", desc := "()V" } : MethodName)) ∈ bigW := bw1 28 rfl rfl
set_option maxRecDepth 20000 in
theorem wd_29 : (Cond.instanceMethod ({ cls := "java/lang/Object", name := "<init>", desc := "()V" } : MethodName)) ∈ bigW := bw1 29 rfl rfl
set_option maxRecDepth 20000 in
theorem wd_30 : (Cond.code ({ cls := "java/lang/Object", name := "<init>", desc := "()V" } : MethodName) object_method_1_code 1 (Option.none : Option ClassFile.FieldType)) ∈ bigW := bw1 30 rfl rfl
set_option maxRecDepth 20000 in
theorem wd_31 : (Cond.classLink "HeadDots" 7 "HeadDots$State") ∈ bigW := bw1 31 rfl rfl
set_option maxRecDepth 20000 in
theorem wd_32 : (Cond.instantiable "HeadDots$State" 8) ∈ bigW := bw1 32 rfl rfl
set_option maxRecDepth 20000 in
theorem wd_33 : (Cond.methodLink "HeadDots" 9 ({ cls := "HeadDots$State", name := "<init>", desc := "()V" } : MethodName)) ∈ bigW := bw1 33 rfl rfl
set_option maxRecDepth 20000 in
theorem wd_34 : (Cond.instanceMethod ({ cls := "HeadDots$State", name := "<init>", desc := "()V" } : MethodName)) ∈ bigW := bw1 34 rfl rfl
set_option maxRecDepth 20000 in
theorem wd_35 : (Cond.code ({ cls := "HeadDots$State", name := "<init>", desc := "()V" } : MethodName) prog_4_method_1_code 1 (Option.none : Option ClassFile.FieldType)) ∈ bigW := bw1 35 rfl rfl
set_option maxRecDepth 20000 in
theorem wd_36 : (Cond.methodLink "HeadDots$State" 3 ({ cls := "java/lang/Object", name := "<init>", desc := "()V" } : MethodName)) ∈ bigW := bw1 36 rfl rfl
set_option maxRecDepth 20000 in
theorem wd_40 : (Cond.static ({ cls := "HeadDots", name := "copyRow", desc := "([I[I)V" } : MethodName)) ∈ bigW := bw1 40 rfl rfl
set_option maxRecDepth 20000 in
theorem wd_41 : (Cond.code ({ cls := "HeadDots", name := "copyRow", desc := "([I[I)V" } : MethodName) prog_1_method_46_code 2 (Option.none : Option ClassFile.FieldType)) ∈ bigW := bw1 41 rfl rfl
set_option maxRecDepth 20000 in
theorem wd_42 : (Cond.methodLink "HeadDots" 313 Lib.Math.min.name) ∈ bigW := bw1 42 (by decide +kernel) (by decide +kernel)
set_option maxRecDepth 20000 in
theorem wd_43 : (Cond.static Lib.Math.min.name) ∈ bigW := bw1 43 (by decide +kernel) (by decide +kernel)
set_option maxRecDepth 20000 in
theorem wd_44 : (Cond.code Lib.Math.min.name Lib.Math.min.code 2 (some .int)) ∈ bigW := bw1 44 (by decide +kernel) (by decide +kernel)
set_option maxRecDepth 20000 in
theorem wd_45 : (Cond.methodLink "HeadDots" 316 ({ cls := "java/lang/System", name := "arraycopy", desc := "(Ljava/lang/Object;ILjava/lang/Object;II)V" } : MethodName)) ∈ bigW := bw1 45 rfl rfl
set_option maxRecDepth 20000 in
theorem wd_46 : (Cond.static ({ cls := "java/lang/System", name := "arraycopy", desc := "(Ljava/lang/Object;ILjava/lang/Object;II)V" } : MethodName)) ∈ bigW := bw1 46 rfl rfl
set_option maxRecDepth 20000 in
theorem wd_47 : (Cond.native ({ cls := "java/lang/System", name := "arraycopy", desc := "(Ljava/lang/Object;ILjava/lang/Object;II)V" } : MethodName)) ∈ bigW := bw1 47 rfl rfl
set_option maxRecDepth 20000 in
theorem wd_48 : (Cond.classLink "HeadDots$State" 28 "HeadDots$Strip") ∈ bigW := bw1 48 rfl rfl
set_option maxRecDepth 20000 in
theorem wd_49 : (Cond.instantiable "HeadDots$Strip" 4) ∈ bigW := bw1 49 rfl rfl
set_option maxRecDepth 20000 in
theorem wd_50 : (Cond.methodLink "HeadDots$State" 30 ({ cls := "HeadDots$Strip", name := "<init>", desc := "()V" } : MethodName)) ∈ bigW := bw1 50 rfl rfl
set_option maxRecDepth 20000 in
theorem wd_51 : (Cond.instanceMethod ({ cls := "HeadDots$Strip", name := "<init>", desc := "()V" } : MethodName)) ∈ bigW := bw1 51 rfl rfl
set_option maxRecDepth 20000 in
theorem wd_52 : (Cond.code ({ cls := "HeadDots$Strip", name := "<init>", desc := "()V" } : MethodName) prog_5_method_1_code 1 (Option.none : Option ClassFile.FieldType)) ∈ bigW := bw1 52 rfl rfl
set_option maxRecDepth 20000 in
theorem wd_53 : (Cond.methodLink "HeadDots$Strip" 3 ({ cls := "java/lang/Object", name := "<init>", desc := "()V" } : MethodName)) ∈ bigW := bw1 53 rfl rfl
set_option maxRecDepth 20000 in
theorem wd_54 : (Cond.fieldLink "HeadDots$Strip" 11 "HeadDots$Strip" "dark" "[I") ∈ bigW := bw1 54 rfl rfl
set_option maxRecDepth 20000 in
theorem wd_55 : (Cond.fieldLink "HeadDots$Strip" 15 "HeadDots$Strip" "faint" "[I") ∈ bigW := bw1 55 rfl rfl
set_option maxRecDepth 20000 in
theorem wd_56 : (Cond.fieldLink "HeadDots$Strip" 18 "HeadDots$Strip" "parts" "[I") ∈ bigW := bw1 56 rfl rfl
set_option maxRecDepth 20000 in
theorem wd_57 : (Cond.fieldLink "HeadDots$Strip" 21 "HeadDots$Strip" "size" "I") ∈ bigW := bw1 57 rfl rfl
set_option maxRecDepth 20000 in
theorem wd_60 : (Cond.laysFinal "HeadDots$Strip" "HeadDots$Strip" "dark" "[I") ∈ bigW := bw1 60 rfl rfl
set_option maxRecDepth 20000 in
theorem wd_62 : (Cond.laysFinal "HeadDots$Strip" "HeadDots$Strip" "faint" "[I") ∈ bigW := bw1 62 rfl rfl
set_option maxRecDepth 20000 in
theorem wd_64 : (Cond.laysFinal "HeadDots$Strip" "HeadDots$Strip" "parts" "[I") ∈ bigW := bw1 64 rfl rfl
set_option maxRecDepth 20000 in
theorem wd_66 : (Cond.lays "HeadDots$Strip" "HeadDots$Strip" "size" "I") ∈ bigW := bw1 66 rfl rfl
set_option maxRecDepth 20000 in
theorem wd_69 : (Cond.arrayClass ClassFile.FieldType.int) ∈ bigW := bw1 69 rfl rfl
set_option maxRecDepth 20000 in
theorem wd_70 : (Cond.classLink "HeadDots$State" 35 "HeadDots$Totals") ∈ bigW := bw1 70 rfl rfl
set_option maxRecDepth 20000 in
theorem wd_71 : (Cond.instantiable "HeadDots$Totals" 9) ∈ bigW := bw1 71 rfl rfl
set_option maxRecDepth 20000 in
theorem wd_72 : (Cond.methodLink "HeadDots$State" 37 ({ cls := "HeadDots$Totals", name := "<init>", desc := "()V" } : MethodName)) ∈ bigW := bw1 72 rfl rfl
set_option maxRecDepth 20000 in
theorem wd_73 : (Cond.instanceMethod ({ cls := "HeadDots$Totals", name := "<init>", desc := "()V" } : MethodName)) ∈ bigW := bw1 73 rfl rfl
set_option maxRecDepth 20000 in
theorem wd_74 : (Cond.code ({ cls := "HeadDots$Totals", name := "<init>", desc := "()V" } : MethodName) prog_6_method_1_code 1 (Option.none : Option ClassFile.FieldType)) ∈ bigW := bw1 74 rfl rfl
set_option maxRecDepth 20000 in
theorem wd_75 : (Cond.methodLink "HeadDots$Totals" 3 ({ cls := "java/lang/Object", name := "<init>", desc := "()V" } : MethodName)) ∈ bigW := bw1 75 rfl rfl
set_option maxRecDepth 20000 in
theorem wd_76 : (Cond.fieldLink "HeadDots$Totals" 9 "HeadDots$Totals" "dotsOf" "[I") ∈ bigW := bw1 76 rfl rfl
set_option maxRecDepth 20000 in
theorem wd_78 : (Cond.fieldLink "HeadDots$Totals" 15 "HeadDots$Totals" "faintOf" "[I") ∈ bigW := bw1 78 rfl rfl
set_option maxRecDepth 20000 in
theorem wd_80 : (Cond.fieldLink "HeadDots$Totals" 18 "HeadDots$Totals" "time" "I") ∈ bigW := bw1 80 rfl rfl
set_option maxRecDepth 20000 in
theorem wd_83 : (Cond.fieldLink "HeadDots$Totals" 22 "HeadDots$Totals" "lines" "I") ∈ bigW := bw1 83 rfl rfl
set_option maxRecDepth 20000 in
theorem wd_85 : (Cond.fieldLink "HeadDots$Totals" 25 "HeadDots$Totals" "parts" "I") ∈ bigW := bw1 85 rfl rfl
set_option maxRecDepth 20000 in
theorem wd_87 : (Cond.fieldLink "HeadDots$Totals" 28 "HeadDots$Totals" "waits" "I") ∈ bigW := bw1 87 rfl rfl
set_option maxRecDepth 20000 in
theorem wd_90 : (Cond.fieldLink "HeadDots$Totals" 31 "HeadDots$Totals" "dots" "I") ∈ bigW := bw1 90 rfl rfl
set_option maxRecDepth 20000 in
theorem wd_92 : (Cond.fieldLink "HeadDots$Totals" 34 "HeadDots$Totals" "faint" "I") ∈ bigW := bw1 92 rfl rfl
set_option maxRecDepth 20000 in
theorem wd_94 : (Cond.fieldLink "HeadDots$Totals" 37 "HeadDots$Totals" "hottest" "I") ∈ bigW := bw1 94 rfl rfl
set_option maxRecDepth 20000 in
theorem wd_97 : (Cond.laysFinal "HeadDots$Totals" "HeadDots$Totals" "dotsOf" "[I") ∈ bigW := bw1 97 rfl rfl
set_option maxRecDepth 20000 in
theorem wd_99 : (Cond.laysFinal "HeadDots$Totals" "HeadDots$Totals" "faintOf" "[I") ∈ bigW := bw1 99 rfl rfl
set_option maxRecDepth 20000 in
theorem wd_101 : (Cond.lays "HeadDots$Totals" "HeadDots$Totals" "time" "I") ∈ bigW := bw1 101 rfl rfl
set_option maxRecDepth 20000 in
theorem wd_103 : (Cond.lays "HeadDots$Totals" "HeadDots$Totals" "lines" "I") ∈ bigW := bw1 103 rfl rfl
set_option maxRecDepth 20000 in
theorem wd_105 : (Cond.lays "HeadDots$Totals" "HeadDots$Totals" "parts" "I") ∈ bigW := bw1 105 rfl rfl
set_option maxRecDepth 20000 in
theorem wd_107 : (Cond.lays "HeadDots$Totals" "HeadDots$Totals" "waits" "I") ∈ bigW := bw1 107 rfl rfl
set_option maxRecDepth 20000 in
theorem wd_109 : (Cond.lays "HeadDots$Totals" "HeadDots$Totals" "dots" "I") ∈ bigW := bw1 109 rfl rfl
set_option maxRecDepth 20000 in
theorem wd_111 : (Cond.lays "HeadDots$Totals" "HeadDots$Totals" "faint" "I") ∈ bigW := bw1 111 rfl rfl
set_option maxRecDepth 20000 in
theorem wd_113 : (Cond.lays "HeadDots$Totals" "HeadDots$Totals" "hottest" "I") ∈ bigW := bw1 113 rfl rfl
set_option maxRecDepth 20000 in
theorem wd_116 : (Cond.fieldLink "HeadDots$State" 9 "HeadDots$State" "heat" "[I") ∈ bigW := bw1 116 rfl rfl
set_option maxRecDepth 20000 in
theorem wd_117 : (Cond.fieldLink "HeadDots$State" 15 "HeadDots$State" "pulses" "[I") ∈ bigW := bw1 117 rfl rfl
set_option maxRecDepth 20000 in
theorem wd_118 : (Cond.fieldLink "HeadDots$State" 21 "HeadDots$State" "settings" "[I") ∈ bigW := bw1 118 rfl rfl
set_option maxRecDepth 20000 in
theorem wd_119 : (Cond.fieldLink "HeadDots$State" 31 "HeadDots$State" "strip" "LHeadDots$Strip;") ∈ bigW := bw1 119 rfl rfl
set_option maxRecDepth 20000 in
theorem wd_121 : (Cond.fieldLink "HeadDots$State" 38 "HeadDots$State" "totals" "LHeadDots$Totals;") ∈ bigW := bw1 121 rfl rfl
set_option maxRecDepth 20000 in
theorem wd_123 : (Cond.fieldLink "HeadDots$State" 42 "HeadDots$State" "lastLine" "I") ∈ bigW := bw1 123 rfl rfl
set_option maxRecDepth 20000 in
theorem wd_124 : (Cond.fieldLink "HeadDots$State" 46 "HeadDots$State" "lineBefore" "I") ∈ bigW := bw1 124 rfl rfl
set_option maxRecDepth 20000 in
theorem wd_125 : (Cond.fieldLink "HeadDots$State" 49 "HeadDots$State" "paperKind" "I") ∈ bigW := bw1 125 rfl rfl
set_option maxRecDepth 20000 in
theorem wd_127 : (Cond.laysFinal "HeadDots$State" "HeadDots$State" "heat" "[I") ∈ bigW := bw1 127 rfl rfl
set_option maxRecDepth 20000 in
theorem wd_129 : (Cond.laysFinal "HeadDots$State" "HeadDots$State" "pulses" "[I") ∈ bigW := bw1 129 rfl rfl
set_option maxRecDepth 20000 in
theorem wd_131 : (Cond.laysFinal "HeadDots$State" "HeadDots$State" "settings" "[I") ∈ bigW := bw1 131 rfl rfl
set_option maxRecDepth 20000 in
theorem wd_133 : (Cond.laysFinal "HeadDots$State" "HeadDots$State" "strip" "LHeadDots$Strip;") ∈ bigW := bw1 133 rfl rfl
set_option maxRecDepth 20000 in
theorem wd_135 : (Cond.laysFinal "HeadDots$State" "HeadDots$State" "totals" "LHeadDots$Totals;") ∈ bigW := bw1 135 rfl rfl
set_option maxRecDepth 20000 in
theorem wd_137 : (Cond.lays "HeadDots$State" "HeadDots$State" "lastLine" "I") ∈ bigW := bw1 137 rfl rfl
set_option maxRecDepth 20000 in
theorem wd_139 : (Cond.lays "HeadDots$State" "HeadDots$State" "lineBefore" "I") ∈ bigW := bw1 139 rfl rfl
set_option maxRecDepth 20000 in
theorem wd_141 : (Cond.lays "HeadDots$State" "HeadDots$State" "paperKind" "I") ∈ bigW := bw1 141 rfl rfl
set_option maxRecDepth 20000 in
theorem wd_145 : (Cond.classLink "HeadDots" 26 "HeadDots$Buffer") ∈ bigW := bw1 145 rfl rfl
set_option maxRecDepth 20000 in
theorem wd_146 : (Cond.instantiable "HeadDots$Buffer" 2) ∈ bigW := bw1 146 rfl rfl
set_option maxRecDepth 20000 in
theorem wd_147 : (Cond.methodLink "HeadDots" 28 ({ cls := "HeadDots$Buffer", name := "<init>", desc := "()V" } : MethodName)) ∈ bigW := bw1 147 rfl rfl
set_option maxRecDepth 20000 in
theorem wd_148 : (Cond.instanceMethod ({ cls := "HeadDots$Buffer", name := "<init>", desc := "()V" } : MethodName)) ∈ bigW := bw1 148 rfl rfl
set_option maxRecDepth 20000 in
theorem wd_149 : (Cond.code ({ cls := "HeadDots$Buffer", name := "<init>", desc := "()V" } : MethodName) prog_2_method_1_code 1 (Option.none : Option ClassFile.FieldType)) ∈ bigW := bw1 149 rfl rfl
set_option maxRecDepth 20000 in
theorem wd_150 : (Cond.methodLink "HeadDots$Buffer" 1 ({ cls := "java/lang/Object", name := "<init>", desc := "()V" } : MethodName)) ∈ bigW := bw1 150 rfl rfl
set_option maxRecDepth 20000 in
theorem wd_151 : (Cond.fieldLink "HeadDots$Buffer" 9 "HeadDots$Buffer" "codes" "[I") ∈ bigW := bw1 151 rfl rfl
set_option maxRecDepth 20000 in
theorem wd_152 : (Cond.fieldLink "HeadDots$Buffer" 13 "HeadDots$Buffer" "length" "I") ∈ bigW := bw1 152 rfl rfl
set_option maxRecDepth 20000 in
theorem wd_155 : (Cond.laysFinal "HeadDots$Buffer" "HeadDots$Buffer" "codes" "[I") ∈ bigW := bw1 155 rfl rfl
set_option maxRecDepth 20000 in
theorem wd_157 : (Cond.lays "HeadDots$Buffer" "HeadDots$Buffer" "length" "I") ∈ bigW := bw1 157 rfl rfl
set_option maxRecDepth 20000 in
theorem wd_160 : (Cond.classLink "HeadDots" 33 "HeadDots$Reader") ∈ bigW := bw1 160 rfl rfl
set_option maxRecDepth 20000 in
theorem wd_161 : (Cond.instantiable "HeadDots$Reader" 10) ∈ bigW := bw1 161 rfl rfl
set_option maxRecDepth 20000 in
theorem wd_162 : (Cond.methodLink "HeadDots" 35 ({ cls := "HeadDots$Reader", name := "<init>", desc := "()V" } : MethodName)) ∈ bigW := bw1 162 rfl rfl
set_option maxRecDepth 20000 in
theorem wd_163 : (Cond.instanceMethod ({ cls := "HeadDots$Reader", name := "<init>", desc := "()V" } : MethodName)) ∈ bigW := bw1 163 rfl rfl
set_option maxRecDepth 20000 in
theorem wd_164 : (Cond.code ({ cls := "HeadDots$Reader", name := "<init>", desc := "()V" } : MethodName) prog_3_method_1_code 1 (Option.none : Option ClassFile.FieldType)) ∈ bigW := bw1 164 rfl rfl
set_option maxRecDepth 20000 in
theorem wd_165 : (Cond.methodLink "HeadDots$Reader" 3 ({ cls := "java/lang/Object", name := "<init>", desc := "()V" } : MethodName)) ∈ bigW := bw1 165 rfl rfl
set_option maxRecDepth 20000 in
theorem wd_167 : (Cond.fieldLink "HeadDots$Reader" 21 "HeadDots$Reader" "mode" "I") ∈ bigW := bw1 167 rfl rfl
set_option maxRecDepth 20000 in
theorem wd_168 : (Cond.fieldLink "HeadDots$Reader" 24 "HeadDots$Reader" "modeBehindWord" "I") ∈ bigW := bw1 168 rfl rfl
set_option maxRecDepth 20000 in
theorem wd_169 : (Cond.fieldLink "HeadDots$Reader" 11 "HeadDots$Reader" "word" "Ljava/lang/String;") ∈ bigW := bw1 169 rfl rfl
set_option maxRecDepth 20000 in
theorem wd_170 : (Cond.fieldLink "HeadDots$Reader" 17 "HeadDots$Reader" "wordAt" "I") ∈ bigW := bw1 170 rfl rfl
set_option maxRecDepth 20000 in
theorem wd_171 : (Cond.fieldLink "HeadDots$Reader" 27 "HeadDots$Reader" "kind" "I") ∈ bigW := bw1 171 rfl rfl
set_option maxRecDepth 20000 in
theorem wd_173 : (Cond.fieldLink "HeadDots$Reader" 30 "HeadDots$Reader" "dots" "I") ∈ bigW := bw1 173 rfl rfl
set_option maxRecDepth 20000 in
theorem wd_175 : (Cond.fieldLink "HeadDots$Reader" 33 "HeadDots$Reader" "dotsDigits" "I") ∈ bigW := bw1 175 rfl rfl
set_option maxRecDepth 20000 in
theorem wd_176 : (Cond.fieldLink "HeadDots$Reader" 36 "HeadDots$Reader" "paperKind" "I") ∈ bigW := bw1 176 rfl rfl
set_option maxRecDepth 20000 in
theorem wd_178 : (Cond.fieldLink "HeadDots$Reader" 39 "HeadDots$Reader" "number" "I") ∈ bigW := bw1 178 rfl rfl
set_option maxRecDepth 20000 in
theorem wd_180 : (Cond.fieldLink "HeadDots$Reader" 42 "HeadDots$Reader" "numberMost" "I") ∈ bigW := bw1 180 rfl rfl
set_option maxRecDepth 20000 in
theorem wd_181 : (Cond.lays "HeadDots$Reader" "HeadDots$Reader" "mode" "I") ∈ bigW := bw1 181 rfl rfl
set_option maxRecDepth 20000 in
theorem wd_183 : (Cond.lays "HeadDots$Reader" "HeadDots$Reader" "modeBehindWord" "I") ∈ bigW := bw1 183 rfl rfl
set_option maxRecDepth 20000 in
theorem wd_185 : (Cond.lays "HeadDots$Reader" "HeadDots$Reader" "word" "Ljava/lang/String;") ∈ bigW := bw1 185 rfl rfl
set_option maxRecDepth 20000 in
theorem wd_187 : (Cond.lays "HeadDots$Reader" "HeadDots$Reader" "wordAt" "I") ∈ bigW := bw1 187 rfl rfl
set_option maxRecDepth 20000 in
theorem wd_189 : (Cond.lays "HeadDots$Reader" "HeadDots$Reader" "kind" "I") ∈ bigW := bw1 189 rfl rfl
set_option maxRecDepth 20000 in
theorem wd_191 : (Cond.lays "HeadDots$Reader" "HeadDots$Reader" "dots" "I") ∈ bigW := bw1 191 rfl rfl
set_option maxRecDepth 20000 in
theorem wd_193 : (Cond.lays "HeadDots$Reader" "HeadDots$Reader" "dotsDigits" "I") ∈ bigW := bw1 193 rfl rfl
set_option maxRecDepth 20000 in
theorem wd_195 : (Cond.lays "HeadDots$Reader" "HeadDots$Reader" "paperKind" "I") ∈ bigW := bw1 195 rfl rfl
set_option maxRecDepth 20000 in
theorem wd_197 : (Cond.lays "HeadDots$Reader" "HeadDots$Reader" "number" "I") ∈ bigW := bw1 197 rfl rfl
set_option maxRecDepth 20000 in
theorem wd_199 : (Cond.lays "HeadDots$Reader" "HeadDots$Reader" "numberMost" "I") ∈ bigW := bw1 199 rfl rfl
set_option maxRecDepth 20000 in
theorem wd_202 : (Cond.arrayClass ClassFile.FieldType.byte) ∈ bigW := bw1 202 rfl rfl
set_option maxRecDepth 20000 in
theorem wd_203 : (Cond.fieldLink "HeadDots" 10 "HeadDots" "now" "LHeadDots$State;") ∈ bigW := bw1 203 rfl rfl
set_option maxRecDepth 20000 in
theorem wd_204 : (Cond.fieldLink "HeadDots" 16 "HeadDots" "snapshot" "LHeadDots$State;") ∈ bigW := bw1 204 rfl rfl
set_option maxRecDepth 20000 in
theorem wd_205 : (Cond.fieldLink "HeadDots" 19 "HeadDots" "trial" "LHeadDots$State;") ∈ bigW := bw1 205 rfl rfl
set_option maxRecDepth 20000 in
theorem wd_206 : (Cond.fieldLink "HeadDots" 22 "HeadDots" "saved" "[LHeadDots$State;") ∈ bigW := bw1 206 rfl rfl
set_option maxRecDepth 20000 in
theorem wd_207 : (Cond.fieldLink "HeadDots" 29 "HeadDots" "buffer" "LHeadDots$Buffer;") ∈ bigW := bw1 207 rfl rfl
set_option maxRecDepth 20000 in
theorem wd_208 : (Cond.fieldLink "HeadDots" 36 "HeadDots" "reader" "LHeadDots$Reader;") ∈ bigW := bw1 208 rfl rfl
set_option maxRecDepth 20000 in
theorem wd_209 : (Cond.fieldLink "HeadDots" 40 "HeadDots" "savedCount" "I") ∈ bigW := bw1 209 rfl rfl
set_option maxRecDepth 20000 in
theorem wd_210 : (Cond.fieldLink "HeadDots" 44 "HeadDots" "hasSnapshot" "Z") ∈ bigW := bw1 210 rfl rfl
set_option maxRecDepth 20000 in
theorem wd_211 : (Cond.laysFinal "HeadDots" "HeadDots" "now" "LHeadDots$State;") ∈ bigW := bw1 211 rfl rfl
set_option maxRecDepth 20000 in
theorem wd_213 : (Cond.laysFinal "HeadDots" "HeadDots" "snapshot" "LHeadDots$State;") ∈ bigW := bw1 213 rfl rfl
set_option maxRecDepth 20000 in
theorem wd_215 : (Cond.laysFinal "HeadDots" "HeadDots" "trial" "LHeadDots$State;") ∈ bigW := bw1 215 rfl rfl
set_option maxRecDepth 20000 in
theorem wd_217 : (Cond.laysFinal "HeadDots" "HeadDots" "saved" "[LHeadDots$State;") ∈ bigW := bw1 217 rfl rfl
set_option maxRecDepth 20000 in
theorem wd_219 : (Cond.laysFinal "HeadDots" "HeadDots" "buffer" "LHeadDots$Buffer;") ∈ bigW := bw1 219 rfl rfl
set_option maxRecDepth 20000 in
theorem wd_221 : (Cond.laysFinal "HeadDots" "HeadDots" "reader" "LHeadDots$Reader;") ∈ bigW := bw1 221 rfl rfl
set_option maxRecDepth 20000 in
theorem wd_223 : (Cond.lays "HeadDots" "HeadDots" "savedCount" "I") ∈ bigW := bw1 223 rfl rfl
set_option maxRecDepth 20000 in
theorem wd_225 : (Cond.lays "HeadDots" "HeadDots" "hasSnapshot" "Z") ∈ bigW := bw1 225 rfl rfl
set_option maxRecDepth 20000 in
theorem wd_228 : (Cond.methodLink "HeadDotsLaw" 98 ({ cls := "HeadDots", name := "clearBuffer", desc := "()I" } : MethodName)) ∈ bigW := bw1 228 rfl rfl
set_option maxRecDepth 20000 in
theorem wd_229 : (Cond.instanceMethod ({ cls := "HeadDots", name := "clearBuffer", desc := "()I" } : MethodName)) ∈ bigW := bw1 229 rfl rfl
set_option maxRecDepth 20000 in
theorem wd_230 : (Cond.selects "HeadDots" ({ cls := "HeadDots", name := "clearBuffer", desc := "()I" } : MethodName) ({ cls := "HeadDots", name := "clearBuffer", desc := "()I" } : MethodName)) ∈ bigW := bw1 230 rfl rfl
set_option maxRecDepth 20000 in
theorem wd_231 : (Cond.code ({ cls := "HeadDots", name := "clearBuffer", desc := "()I" } : MethodName) prog_1_method_8_code 2 (Option.some ClassFile.FieldType.int)) ∈ bigW := bw1 231 rfl rfl
set_option maxRecDepth 20000 in
theorem wd_232 : (Cond.methodLink "HeadDotsLaw" 102 ({ cls := "HeadDots", name := "firstError", desc := "()I" } : MethodName)) ∈ bigW := bw1 232 rfl rfl
set_option maxRecDepth 20000 in
theorem wd_233 : (Cond.instanceMethod ({ cls := "HeadDots", name := "firstError", desc := "()I" } : MethodName)) ∈ bigW := bw1 233 rfl rfl
set_option maxRecDepth 20000 in
theorem wd_234 : (Cond.selects "HeadDots" ({ cls := "HeadDots", name := "firstError", desc := "()I" } : MethodName) ({ cls := "HeadDots", name := "firstError", desc := "()I" } : MethodName)) ∈ bigW := bw1 234 rfl rfl
set_option maxRecDepth 20000 in
theorem wd_235 : (Cond.code ({ cls := "HeadDots", name := "firstError", desc := "()I" } : MethodName) prog_1_method_9_code 1 (Option.some ClassFile.FieldType.int)) ∈ bigW := bw1 235 rfl rfl
set_option maxRecDepth 20000 in
theorem wd_236 : (Cond.methodLink "HeadDots" 149 ({ cls := "HeadDots$Reader", name := "readUntilError", desc := "(LHeadDots$Buffer;)I" } : MethodName)) ∈ bigW := bw1 236 rfl rfl
set_option maxRecDepth 20000 in
theorem wd_237 : (Cond.instanceMethod ({ cls := "HeadDots$Reader", name := "readUntilError", desc := "(LHeadDots$Buffer;)I" } : MethodName)) ∈ bigW := bw1 237 rfl rfl
set_option maxRecDepth 20000 in
theorem wd_238 : (Cond.selects "HeadDots$Reader" ({ cls := "HeadDots$Reader", name := "readUntilError", desc := "(LHeadDots$Buffer;)I" } : MethodName) ({ cls := "HeadDots$Reader", name := "readUntilError", desc := "(LHeadDots$Buffer;)I" } : MethodName)) ∈ bigW := bw1 238 rfl rfl
set_option maxRecDepth 20000 in
theorem wd_239 : (Cond.code ({ cls := "HeadDots$Reader", name := "readUntilError", desc := "(LHeadDots$Buffer;)I" } : MethodName) prog_3_method_3_code 3 (Option.some ClassFile.FieldType.int)) ∈ bigW := bw1 239 rfl rfl
set_option maxRecDepth 20000 in
theorem wd_240 : (Cond.methodLink "HeadDots$Reader" 45 ({ cls := "HeadDots$Reader", name := "beginPart", desc := "()V" } : MethodName)) ∈ bigW := bw2 0 rfl rfl
set_option maxRecDepth 20000 in
theorem wd_241 : (Cond.instanceMethod ({ cls := "HeadDots$Reader", name := "beginPart", desc := "()V" } : MethodName)) ∈ bigW := bw2 1 rfl rfl
set_option maxRecDepth 20000 in
theorem wd_242 : (Cond.selects "HeadDots$Reader" ({ cls := "HeadDots$Reader", name := "beginPart", desc := "()V" } : MethodName) ({ cls := "HeadDots$Reader", name := "beginPart", desc := "()V" } : MethodName)) ∈ bigW := bw2 2 rfl rfl
set_option maxRecDepth 20000 in
theorem wd_243 : (Cond.code ({ cls := "HeadDots$Reader", name := "beginPart", desc := "()V" } : MethodName) prog_3_method_2_code 1 (Option.none : Option ClassFile.FieldType)) ∈ bigW := bw2 3 rfl rfl
set_option maxRecDepth 20000 in
theorem wd_244 : (Cond.methodLink "HeadDots$Reader" 53 ({ cls := "HeadDots$Buffer", name := "codeAt", desc := "(I)I" } : MethodName)) ∈ bigW := bw2 4 rfl rfl
set_option maxRecDepth 20000 in
theorem wd_245 : (Cond.instanceMethod ({ cls := "HeadDots$Buffer", name := "codeAt", desc := "(I)I" } : MethodName)) ∈ bigW := bw2 5 rfl rfl
set_option maxRecDepth 20000 in
theorem wd_246 : (Cond.selects "HeadDots$Buffer" ({ cls := "HeadDots$Buffer", name := "codeAt", desc := "(I)I" } : MethodName) ({ cls := "HeadDots$Buffer", name := "codeAt", desc := "(I)I" } : MethodName)) ∈ bigW := bw2 6 rfl rfl
set_option maxRecDepth 20000 in
theorem wd_247 : (Cond.code ({ cls := "HeadDots$Buffer", name := "codeAt", desc := "(I)I" } : MethodName) prog_2_method_4_code 2 (Option.some ClassFile.FieldType.int)) ∈ bigW := bw2 7 rfl rfl
set_option maxRecDepth 20000 in
theorem wd_249 : (Cond.static ({ cls := "HeadDots", name := "at", desc := "([II)I" } : MethodName)) ∈ bigW := bw2 9 rfl rfl
set_option maxRecDepth 20000 in
theorem wd_250 : (Cond.code ({ cls := "HeadDots", name := "at", desc := "([II)I" } : MethodName) prog_1_method_44_code 2 (Option.some ClassFile.FieldType.int)) ∈ bigW := bw2 10 rfl rfl
set_option maxRecDepth 20000 in
theorem wd_251 : (Cond.methodLink "HeadDots$Reader" 57 ({ cls := "HeadDots$Reader", name := "take", desc := "(I)Z" } : MethodName)) ∈ bigW := bw2 11 rfl rfl
set_option maxRecDepth 20000 in
theorem wd_252 : (Cond.instanceMethod ({ cls := "HeadDots$Reader", name := "take", desc := "(I)Z" } : MethodName)) ∈ bigW := bw2 12 rfl rfl
set_option maxRecDepth 20000 in
theorem wd_253 : (Cond.selects "HeadDots$Reader" ({ cls := "HeadDots$Reader", name := "take", desc := "(I)Z" } : MethodName) ({ cls := "HeadDots$Reader", name := "take", desc := "(I)Z" } : MethodName)) ∈ bigW := bw2 13 rfl rfl
set_option maxRecDepth 20000 in
theorem wd_254 : (Cond.code ({ cls := "HeadDots$Reader", name := "take", desc := "(I)Z" } : MethodName) prog_3_method_5_code 2 (Option.some ClassFile.FieldType.boolean)) ∈ bigW := bw2 14 rfl rfl
set_option maxRecDepth 20000 in
theorem wd_255 : (Cond.methodLink "HeadDots$Reader" 61 ({ cls := "HeadDots$Reader", name := "takeBetween", desc := "()Z" } : MethodName)) ∈ bigW := bw2 15 rfl rfl
set_option maxRecDepth 20000 in
theorem wd_257 : (Cond.instanceMethod ({ cls := "HeadDots$Reader", name := "takeBetween", desc := "()Z" } : MethodName)) ∈ bigW := bw2 17 rfl rfl
set_option maxRecDepth 20000 in
theorem wd_258 : (Cond.code ({ cls := "HeadDots$Reader", name := "takeBetween", desc := "()Z" } : MethodName) prog_3_method_6_code 1 (Option.some ClassFile.FieldType.boolean)) ∈ bigW := bw2 18 rfl rfl
set_option maxRecDepth 20000 in
theorem wd_259 : (Cond.methodLink "HeadDots$Reader" 80 ({ cls := "HeadDots$Reader", name := "isComplete", desc := "()Z" } : MethodName)) ∈ bigW := bw2 19 rfl rfl
set_option maxRecDepth 20000 in
theorem wd_260 : (Cond.instanceMethod ({ cls := "HeadDots$Reader", name := "isComplete", desc := "()Z" } : MethodName)) ∈ bigW := bw2 20 rfl rfl
set_option maxRecDepth 20000 in
theorem wd_261 : (Cond.selects "HeadDots$Reader" ({ cls := "HeadDots$Reader", name := "isComplete", desc := "()Z" } : MethodName) ({ cls := "HeadDots$Reader", name := "isComplete", desc := "()Z" } : MethodName)) ∈ bigW := bw2 21 rfl rfl
set_option maxRecDepth 20000 in
theorem wd_262 : (Cond.code ({ cls := "HeadDots$Reader", name := "isComplete", desc := "()Z" } : MethodName) prog_3_method_4_code 1 (Option.some ClassFile.FieldType.boolean)) ∈ bigW := bw2 22 rfl rfl
set_option maxRecDepth 20000 in
theorem wd_263 : (Cond.methodLink "HeadDots$Reader" 65 ({ cls := "HeadDots$Reader", name := "takeFirst", desc := "(I)Z" } : MethodName)) ∈ bigW := bw2 23 rfl rfl
set_option maxRecDepth 20000 in
theorem wd_265 : (Cond.instanceMethod ({ cls := "HeadDots$Reader", name := "takeFirst", desc := "(I)Z" } : MethodName)) ∈ bigW := bw2 25 rfl rfl
set_option maxRecDepth 20000 in
theorem wd_266 : (Cond.code ({ cls := "HeadDots$Reader", name := "takeFirst", desc := "(I)Z" } : MethodName) prog_3_method_7_code 2 (Option.some ClassFile.FieldType.boolean)) ∈ bigW := bw2 26 rfl rfl
set_option maxRecDepth 20000 in
theorem wd_268 : (Cond.methodLink "HeadDots$Reader" 85 ({ cls := "HeadDots$Reader", name := "beginKind", desc := "(ILjava/lang/String;I)Z" } : MethodName)) ∈ bigW := bw2 28 rfl rfl
set_option maxRecDepth 20000 in
theorem wd_270 : (Cond.instanceMethod ({ cls := "HeadDots$Reader", name := "beginKind", desc := "(ILjava/lang/String;I)Z" } : MethodName)) ∈ bigW := bw2 30 rfl rfl
set_option maxRecDepth 20000 in
theorem wd_271 : (Cond.code ({ cls := "HeadDots$Reader", name := "beginKind", desc := "(ILjava/lang/String;I)Z" } : MethodName) prog_3_method_9_code 4 (Option.some ClassFile.FieldType.boolean)) ∈ bigW := bw2 31 rfl rfl
set_option maxRecDepth 20000 in
theorem wd_272 : (Cond.methodLink "HeadDots$Reader" 105 ({ cls := "HeadDots$Reader", name := "beginWord", desc := "(Ljava/lang/String;I)Z" } : MethodName)) ∈ bigW := bw2 32 rfl rfl
set_option maxRecDepth 20000 in
theorem wd_274 : (Cond.instanceMethod ({ cls := "HeadDots$Reader", name := "beginWord", desc := "(Ljava/lang/String;I)Z" } : MethodName)) ∈ bigW := bw2 34 rfl rfl
set_option maxRecDepth 20000 in
theorem wd_275 : (Cond.code ({ cls := "HeadDots$Reader", name := "beginWord", desc := "(Ljava/lang/String;I)Z" } : MethodName) prog_3_method_11_code 3 (Option.some ClassFile.FieldType.boolean)) ∈ bigW := bw2 35 rfl rfl
set_option maxRecDepth 20000 in
theorem wd_279 : (Cond.methodLink "HeadDots$Reader" 68 ({ cls := "HeadDots$Reader", name := "takeOfWord", desc := "(I)Z" } : MethodName)) ∈ bigW := bw2 39 rfl rfl
set_option maxRecDepth 20000 in
theorem wd_281 : (Cond.instanceMethod ({ cls := "HeadDots$Reader", name := "takeOfWord", desc := "(I)Z" } : MethodName)) ∈ bigW := bw2 41 rfl rfl
set_option maxRecDepth 20000 in
theorem wd_282 : (Cond.code ({ cls := "HeadDots$Reader", name := "takeOfWord", desc := "(I)Z" } : MethodName) prog_3_method_12_code 2 (Option.some ClassFile.FieldType.boolean)) ∈ bigW := bw2 42 rfl rfl
set_option maxRecDepth 20000 in
theorem wd_283 : (Cond.methodLink "HeadDots$Reader" 109 ({ cls := "java/lang/String", name := "length", desc := "()I" } : MethodName)) ∈ bigW := bw2 43 rfl rfl
set_option maxRecDepth 20000 in
theorem wd_284 : (Cond.instanceMethod ({ cls := "java/lang/String", name := "length", desc := "()I" } : MethodName)) ∈ bigW := bw2 44 rfl rfl
set_option maxRecDepth 20000 in
theorem wd_285 : (Cond.selects "java/lang/String" ({ cls := "java/lang/String", name := "length", desc := "()I" } : MethodName) ({ cls := "java/lang/String", name := "length", desc := "()I" } : MethodName)) ∈ bigW := bw2 45 rfl rfl
set_option maxRecDepth 20000 in
theorem wd_286 : (Cond.code ({ cls := "java/lang/String", name := "length", desc := "()I" } : MethodName) prog_18_method_54_code 1 (Option.some ClassFile.FieldType.int)) ∈ bigW := bw2 46 rfl rfl
set_option maxRecDepth 20000 in
theorem wd_287 : (Cond.methodLink "java/lang/String" 335 ({ cls := "java/lang/String", name := "coder", desc := "()B" } : MethodName)) ∈ bigW := bw2 47 rfl rfl
set_option maxRecDepth 20000 in
theorem wd_288 : (Cond.instanceMethod ({ cls := "java/lang/String", name := "coder", desc := "()B" } : MethodName)) ∈ bigW := bw2 48 rfl rfl
set_option maxRecDepth 20000 in
theorem wd_289 : (Cond.selects "java/lang/String" ({ cls := "java/lang/String", name := "coder", desc := "()B" } : MethodName) ({ cls := "java/lang/String", name := "coder", desc := "()B" } : MethodName)) ∈ bigW := bw2 49 rfl rfl
set_option maxRecDepth 20000 in
theorem wd_290 : (Cond.code ({ cls := "java/lang/String", name := "coder", desc := "()B" } : MethodName) prog_18_method_152_code 1 (Option.some ClassFile.FieldType.byte)) ∈ bigW := bw2 50 rfl rfl
set_option maxRecDepth 20000 in
theorem wd_291 : (Cond.fieldLink "java/lang/String" 38 "java/lang/String" "COMPACT_STRINGS" "Z") ∈ bigW := bw2 51 rfl rfl
set_option maxRecDepth 20000 in
theorem wd_293 : (Cond.methodLink "HeadDots$Reader" 114 ({ cls := "java/lang/String", name := "charAt", desc := "(I)C" } : MethodName)) ∈ bigW := bw2 53 rfl rfl
set_option maxRecDepth 20000 in
theorem wd_294 : (Cond.instanceMethod ({ cls := "java/lang/String", name := "charAt", desc := "(I)C" } : MethodName)) ∈ bigW := bw2 54 rfl rfl
set_option maxRecDepth 20000 in
theorem wd_295 : (Cond.selects "java/lang/String" ({ cls := "java/lang/String", name := "charAt", desc := "(I)C" } : MethodName) ({ cls := "java/lang/String", name := "charAt", desc := "(I)C" } : MethodName)) ∈ bigW := bw2 55 rfl rfl
set_option maxRecDepth 20000 in
theorem wd_296 : (Cond.code ({ cls := "java/lang/String", name := "charAt", desc := "(I)C" } : MethodName) prog_18_method_56_code 2 (Option.some ClassFile.FieldType.char)) ∈ bigW := bw2 56 rfl rfl
set_option maxRecDepth 20000 in
theorem wd_297 : (Cond.methodLink "java/lang/String" 492 ({ cls := "java/lang/String", name := "isLatin1", desc := "()Z" } : MethodName)) ∈ bigW := bw2 57 rfl rfl
set_option maxRecDepth 20000 in
theorem wd_298 : (Cond.instanceMethod ({ cls := "java/lang/String", name := "isLatin1", desc := "()Z" } : MethodName)) ∈ bigW := bw2 58 rfl rfl
set_option maxRecDepth 20000 in
theorem wd_299 : (Cond.selects "java/lang/String" ({ cls := "java/lang/String", name := "isLatin1", desc := "()Z" } : MethodName) ({ cls := "java/lang/String", name := "isLatin1", desc := "()Z" } : MethodName)) ∈ bigW := bw2 59 rfl rfl
set_option maxRecDepth 20000 in
theorem wd_300 : (Cond.code ({ cls := "java/lang/String", name := "isLatin1", desc := "()Z" } : MethodName) prog_18_method_154_code 1 (Option.some ClassFile.FieldType.boolean)) ∈ bigW := bw2 60 rfl rfl
set_option maxRecDepth 20000 in
theorem wd_301 : (Cond.methodLink "java/lang/String" 495 ({ cls := "java/lang/StringLatin1", name := "charAt", desc := "([BI)C" } : MethodName)) ∈ bigW := bw2 61 rfl rfl
set_option maxRecDepth 20000 in
theorem wd_302 : (Cond.static ({ cls := "java/lang/StringLatin1", name := "charAt", desc := "([BI)C" } : MethodName)) ∈ bigW := bw2 62 rfl rfl
set_option maxRecDepth 20000 in
theorem wd_303 : (Cond.code ({ cls := "java/lang/StringLatin1", name := "charAt", desc := "([BI)C" } : MethodName) prog_19_method_2_code 2 (Option.some ClassFile.FieldType.char)) ∈ bigW := bw2 63 rfl rfl
set_option maxRecDepth 20000 in
theorem wd_304 : (Cond.methodLink "java/lang/StringLatin1" 9 ({ cls := "java/lang/String", name := "checkIndex", desc := "(II)V" } : MethodName)) ∈ bigW := bw2 64 rfl rfl
set_option maxRecDepth 20000 in
theorem wd_305 : (Cond.static ({ cls := "java/lang/String", name := "checkIndex", desc := "(II)V" } : MethodName)) ∈ bigW := bw2 65 rfl rfl
set_option maxRecDepth 20000 in
theorem wd_306 : (Cond.code ({ cls := "java/lang/String", name := "checkIndex", desc := "(II)V" } : MethodName) prog_18_method_155_code 2 (Option.none : Option ClassFile.FieldType)) ∈ bigW := bw2 66 rfl rfl
set_option maxRecDepth 20000 in
theorem wd_307 : (Cond.fieldLink "java/lang/String" 1053 "jdk/internal/util/Preconditions" "SIOOBE_FORMATTER" "Ljava/util/function/BiFunction;") ∈ bigW := bw2 67 rfl rfl
set_option maxRecDepth 20000 in
theorem wd_309 : (Cond.methodLink "java/lang/String" 1059 ({ cls := "jdk/internal/util/Preconditions", name := "checkIndex", desc := "(IILjava/util/function/BiFunction;)I" } : MethodName)) ∈ bigW := bw2 69 rfl rfl
set_option maxRecDepth 20000 in
theorem wd_310 : (Cond.static ({ cls := "jdk/internal/util/Preconditions", name := "checkIndex", desc := "(IILjava/util/function/BiFunction;)I" } : MethodName)) ∈ bigW := bw2 70 rfl rfl
set_option maxRecDepth 20000 in
theorem wd_311 : (Cond.code ({ cls := "jdk/internal/util/Preconditions", name := "checkIndex", desc := "(IILjava/util/function/BiFunction;)I" } : MethodName) prog_23_method_11_code 3 (Option.some ClassFile.FieldType.int)) ∈ bigW := bw2 71 rfl rfl
set_option maxRecDepth 20000 in
theorem wd_312 : (Cond.methodLink "java/lang/String" 498 ({ cls := "java/lang/StringUTF16", name := "charAt", desc := "([BI)C" } : MethodName)) ∈ bigW := bw2 72 rfl rfl
set_option maxRecDepth 20000 in
theorem wd_313 : (Cond.static ({ cls := "java/lang/StringUTF16", name := "charAt", desc := "([BI)C" } : MethodName)) ∈ bigW := bw2 73 rfl rfl
set_option maxRecDepth 20000 in
theorem wd_314 : (Cond.code ({ cls := "java/lang/StringUTF16", name := "charAt", desc := "([BI)C" } : MethodName) prog_20_method_83_code 2 (Option.some ClassFile.FieldType.char)) ∈ bigW := bw2 74 rfl rfl
set_option maxRecDepth 20000 in
theorem wd_315 : (Cond.methodLink "java/lang/StringUTF16" 67 ({ cls := "java/lang/StringUTF16", name := "checkIndex", desc := "(I[B)V" } : MethodName)) ∈ bigW := bw2 75 rfl rfl
set_option maxRecDepth 20000 in
theorem wd_316 : (Cond.static ({ cls := "java/lang/StringUTF16", name := "checkIndex", desc := "(I[B)V" } : MethodName)) ∈ bigW := bw2 76 rfl rfl
set_option maxRecDepth 20000 in
theorem wd_317 : (Cond.code ({ cls := "java/lang/StringUTF16", name := "checkIndex", desc := "(I[B)V" } : MethodName) prog_20_method_91_code 2 (Option.none : Option ClassFile.FieldType)) ∈ bigW := bw2 77 rfl rfl
set_option maxRecDepth 20000 in
theorem wd_318 : (Cond.methodLink "java/lang/StringUTF16" 48 ({ cls := "java/lang/StringUTF16", name := "length", desc := "([B)I" } : MethodName)) ∈ bigW := bw2 78 rfl rfl
set_option maxRecDepth 20000 in
theorem wd_319 : (Cond.static ({ cls := "java/lang/StringUTF16", name := "length", desc := "([B)I" } : MethodName)) ∈ bigW := bw2 79 rfl rfl
set_option maxRecDepth 20000 in
theorem wd_320 : (Cond.code ({ cls := "java/lang/StringUTF16", name := "length", desc := "([B)I" } : MethodName) prog_20_method_6_code 1 (Option.some ClassFile.FieldType.int)) ∈ bigW := bw2 80 rfl rfl
set_option maxRecDepth 20000 in
theorem wd_321 : (Cond.methodLink "java/lang/StringUTF16" 414 ({ cls := "java/lang/String", name := "checkIndex", desc := "(II)V" } : MethodName)) ∈ bigW := bw2 81 rfl rfl
set_option maxRecDepth 20000 in
theorem wd_322 : (Cond.methodLink "java/lang/StringUTF16" 71 ({ cls := "java/lang/StringUTF16", name := "getChar", desc := "([BI)C" } : MethodName)) ∈ bigW := bw2 82 rfl rfl
set_option maxRecDepth 20000 in
theorem wd_323 : (Cond.static ({ cls := "java/lang/StringUTF16", name := "getChar", desc := "([BI)C" } : MethodName)) ∈ bigW := bw2 83 rfl rfl
set_option maxRecDepth 20000 in
theorem wd_324 : (Cond.code ({ cls := "java/lang/StringUTF16", name := "getChar", desc := "([BI)C" } : MethodName) prog_20_method_5_code 2 (Option.some ClassFile.FieldType.char)) ∈ bigW := bw2 84 rfl rfl
set_option maxRecDepth 20000 in
theorem wd_325 : (Cond.fieldLink "java/lang/StringUTF16" 44 "java/lang/StringUTF16" "$assertionsDisabled" "Z") ∈ bigW := bw2 85 rfl rfl
set_option maxRecDepth 20000 in
theorem wd_327 : (Cond.fieldLink "java/lang/StringUTF16" 59 "java/lang/StringUTF16" "HI_BYTE_SHIFT" "I") ∈ bigW := bw2 87 rfl rfl
set_option maxRecDepth 20000 in
theorem wd_329 : (Cond.fieldLink "java/lang/StringUTF16" 63 "java/lang/StringUTF16" "LO_BYTE_SHIFT" "I") ∈ bigW := bw2 89 rfl rfl
set_option maxRecDepth 20000 in
theorem wd_331 : (Cond.methodLink "HeadDots$Reader" 71 ({ cls := "HeadDots$Reader", name := "takeOfDots", desc := "(I)Z" } : MethodName)) ∈ bigW := bw2 91 rfl rfl
set_option maxRecDepth 20000 in
theorem wd_333 : (Cond.instanceMethod ({ cls := "HeadDots$Reader", name := "takeOfDots", desc := "(I)Z" } : MethodName)) ∈ bigW := bw2 93 rfl rfl
set_option maxRecDepth 20000 in
theorem wd_334 : (Cond.code ({ cls := "HeadDots$Reader", name := "takeOfDots", desc := "(I)Z" } : MethodName) prog_3_method_13_code 3 (Option.some ClassFile.FieldType.boolean)) ∈ bigW := bw2 94 rfl rfl
set_option maxRecDepth 20000 in
theorem wd_335 : (Cond.methodLink "HeadDots$Reader" 118 ({ cls := "HeadDots$Reader", name := "takeStar", desc := "(I)Z" } : MethodName)) ∈ bigW := bw2 95 rfl rfl
set_option maxRecDepth 20000 in
theorem wd_337 : (Cond.instanceMethod ({ cls := "HeadDots$Reader", name := "takeStar", desc := "(I)Z" } : MethodName)) ∈ bigW := bw2 97 rfl rfl
set_option maxRecDepth 20000 in
theorem wd_338 : (Cond.code ({ cls := "HeadDots$Reader", name := "takeStar", desc := "(I)Z" } : MethodName) prog_3_method_14_code 2 (Option.some ClassFile.FieldType.boolean)) ∈ bigW := bw2 98 rfl rfl
set_option maxRecDepth 20000 in
theorem wd_339 : (Cond.methodLink "HeadDots$Reader" 121 ({ cls := "HeadDots$Reader", name := "hexDigit", desc := "(I)I" } : MethodName)) ∈ bigW := bw2 99 rfl rfl
set_option maxRecDepth 20000 in
theorem wd_340 : (Cond.static ({ cls := "HeadDots$Reader", name := "hexDigit", desc := "(I)I" } : MethodName)) ∈ bigW := bw2 100 rfl rfl
set_option maxRecDepth 20000 in
theorem wd_341 : (Cond.code ({ cls := "HeadDots$Reader", name := "hexDigit", desc := "(I)I" } : MethodName) prog_3_method_16_code 1 (Option.some ClassFile.FieldType.int)) ∈ bigW := bw2 101 rfl rfl
set_option maxRecDepth 20000 in
theorem wd_343 : (Cond.static ({ cls := "HeadDots", name := "isWithin", desc := "(III)Z" } : MethodName)) ∈ bigW := bw2 103 rfl rfl
set_option maxRecDepth 20000 in
theorem wd_344 : (Cond.code ({ cls := "HeadDots", name := "isWithin", desc := "(III)Z" } : MethodName) prog_1_method_40_code 3 (Option.some ClassFile.FieldType.boolean)) ∈ bigW := bw2 104 rfl rfl
set_option maxRecDepth 20000 in
theorem wd_345 : (Cond.methodLink "HeadDots$Reader" 74 ({ cls := "HeadDots$Reader", name := "takeFirstOfPaper", desc := "(I)Z" } : MethodName)) ∈ bigW := bw2 105 rfl rfl
set_option maxRecDepth 20000 in
theorem wd_347 : (Cond.instanceMethod ({ cls := "HeadDots$Reader", name := "takeFirstOfPaper", desc := "(I)Z" } : MethodName)) ∈ bigW := bw2 107 rfl rfl
set_option maxRecDepth 20000 in
theorem wd_348 : (Cond.code ({ cls := "HeadDots$Reader", name := "takeFirstOfPaper", desc := "(I)Z" } : MethodName) prog_3_method_8_code 2 (Option.some ClassFile.FieldType.boolean)) ∈ bigW := bw2 108 rfl rfl
set_option maxRecDepth 20000 in
theorem wd_350 : (Cond.methodLink "HeadDots$Reader" 97 ({ cls := "HeadDots$Reader", name := "beginPaper", desc := "(ILjava/lang/String;)Z" } : MethodName)) ∈ bigW := bw2 110 rfl rfl
set_option maxRecDepth 20000 in
theorem wd_352 : (Cond.instanceMethod ({ cls := "HeadDots$Reader", name := "beginPaper", desc := "(ILjava/lang/String;)Z" } : MethodName)) ∈ bigW := bw2 112 rfl rfl
set_option maxRecDepth 20000 in
theorem wd_353 : (Cond.code ({ cls := "HeadDots$Reader", name := "beginPaper", desc := "(ILjava/lang/String;)Z" } : MethodName) prog_3_method_10_code 3 (Option.some ClassFile.FieldType.boolean)) ∈ bigW := bw2 113 rfl rfl
set_option maxRecDepth 20000 in
theorem wd_356 : (Cond.methodLink "HeadDots$Reader" 77 ({ cls := "HeadDots$Reader", name := "takeDigit", desc := "(I)Z" } : MethodName)) ∈ bigW := bw2 116 rfl rfl
set_option maxRecDepth 20000 in
theorem wd_358 : (Cond.instanceMethod ({ cls := "HeadDots$Reader", name := "takeDigit", desc := "(I)Z" } : MethodName)) ∈ bigW := bw2 118 rfl rfl
set_option maxRecDepth 20000 in
theorem wd_359 : (Cond.code ({ cls := "HeadDots$Reader", name := "takeDigit", desc := "(I)Z" } : MethodName) prog_3_method_15_code 3 (Option.some ClassFile.FieldType.boolean)) ∈ bigW := bw2 119 rfl rfl
set_option maxRecDepth 20000 in
theorem wd_360 : (Cond.methodLink "HeadDotsLaw" 116 ({ cls := "HeadDots", name := "keep", desc := "()I" } : MethodName)) ∈ bigW := bw2 120 rfl rfl
set_option maxRecDepth 20000 in
theorem wd_361 : (Cond.instanceMethod ({ cls := "HeadDots", name := "keep", desc := "()I" } : MethodName)) ∈ bigW := bw2 121 rfl rfl
set_option maxRecDepth 20000 in
theorem wd_362 : (Cond.selects "HeadDots" ({ cls := "HeadDots", name := "keep", desc := "()I" } : MethodName) ({ cls := "HeadDots", name := "keep", desc := "()I" } : MethodName)) ∈ bigW := bw2 122 rfl rfl
set_option maxRecDepth 20000 in
theorem wd_363 : (Cond.code ({ cls := "HeadDots", name := "keep", desc := "()I" } : MethodName) prog_1_method_13_code 1 (Option.some ClassFile.FieldType.int)) ∈ bigW := bw2 123 rfl rfl
set_option maxRecDepth 20000 in
theorem wd_364 : (Cond.methodLink "HeadDots" 185 ({ cls := "HeadDots$State", name := "copyFrom", desc := "(LHeadDots$State;)V" } : MethodName)) ∈ bigW := bw2 124 rfl rfl
set_option maxRecDepth 20000 in
theorem wd_365 : (Cond.instanceMethod ({ cls := "HeadDots$State", name := "copyFrom", desc := "(LHeadDots$State;)V" } : MethodName)) ∈ bigW := bw2 125 rfl rfl
set_option maxRecDepth 20000 in
theorem wd_366 : (Cond.selects "HeadDots$State" ({ cls := "HeadDots$State", name := "copyFrom", desc := "(LHeadDots$State;)V" } : MethodName) ({ cls := "HeadDots$State", name := "copyFrom", desc := "(LHeadDots$State;)V" } : MethodName)) ∈ bigW := bw2 126 rfl rfl
set_option maxRecDepth 20000 in
theorem wd_367 : (Cond.code ({ cls := "HeadDots$State", name := "copyFrom", desc := "(LHeadDots$State;)V" } : MethodName) prog_4_method_2_code 2 (Option.none : Option ClassFile.FieldType)) ∈ bigW := bw2 127 rfl rfl
set_option maxRecDepth 20000 in
theorem wd_368 : (Cond.methodLink "HeadDots$State" 52 ({ cls := "HeadDots$Strip", name := "copyFrom", desc := "(LHeadDots$Strip;)V" } : MethodName)) ∈ bigW := bw2 128 rfl rfl
set_option maxRecDepth 20000 in
theorem wd_369 : (Cond.instanceMethod ({ cls := "HeadDots$Strip", name := "copyFrom", desc := "(LHeadDots$Strip;)V" } : MethodName)) ∈ bigW := bw2 129 rfl rfl
set_option maxRecDepth 20000 in
theorem wd_370 : (Cond.selects "HeadDots$Strip" ({ cls := "HeadDots$Strip", name := "copyFrom", desc := "(LHeadDots$Strip;)V" } : MethodName) ({ cls := "HeadDots$Strip", name := "copyFrom", desc := "(LHeadDots$Strip;)V" } : MethodName)) ∈ bigW := bw2 130 rfl rfl
set_option maxRecDepth 20000 in
theorem wd_371 : (Cond.code ({ cls := "HeadDots$Strip", name := "copyFrom", desc := "(LHeadDots$Strip;)V" } : MethodName) prog_5_method_2_code 2 (Option.none : Option ClassFile.FieldType)) ∈ bigW := bw2 131 rfl rfl
set_option maxRecDepth 20000 in
theorem wd_373 : (Cond.methodLink "HeadDots$State" 56 ({ cls := "HeadDots$Totals", name := "copyFrom", desc := "(LHeadDots$Totals;)V" } : MethodName)) ∈ bigW := bw2 133 rfl rfl
set_option maxRecDepth 20000 in
theorem wd_374 : (Cond.instanceMethod ({ cls := "HeadDots$Totals", name := "copyFrom", desc := "(LHeadDots$Totals;)V" } : MethodName)) ∈ bigW := bw2 134 rfl rfl
set_option maxRecDepth 20000 in
theorem wd_375 : (Cond.selects "HeadDots$Totals" ({ cls := "HeadDots$Totals", name := "copyFrom", desc := "(LHeadDots$Totals;)V" } : MethodName) ({ cls := "HeadDots$Totals", name := "copyFrom", desc := "(LHeadDots$Totals;)V" } : MethodName)) ∈ bigW := bw2 135 rfl rfl
set_option maxRecDepth 20000 in
theorem wd_376 : (Cond.code ({ cls := "HeadDots$Totals", name := "copyFrom", desc := "(LHeadDots$Totals;)V" } : MethodName) prog_6_method_2_code 2 (Option.none : Option ClassFile.FieldType)) ∈ bigW := bw2 136 rfl rfl
set_option maxRecDepth 20000 in
theorem wd_378 : (Cond.methodLink "HeadDotsLaw" 144 ({ cls := "HeadDots", name := "darkness", desc := "()D" } : MethodName)) ∈ bigW := bw2 138 rfl rfl
set_option maxRecDepth 20000 in
theorem wd_379 : (Cond.instanceMethod ({ cls := "HeadDots", name := "darkness", desc := "()D" } : MethodName)) ∈ bigW := bw2 139 rfl rfl
set_option maxRecDepth 20000 in
theorem wd_380 : (Cond.selects "HeadDots" ({ cls := "HeadDots", name := "darkness", desc := "()D" } : MethodName) ({ cls := "HeadDots", name := "darkness", desc := "()D" } : MethodName)) ∈ bigW := bw2 140 rfl rfl
set_option maxRecDepth 20000 in
theorem wd_381 : (Cond.code ({ cls := "HeadDots", name := "darkness", desc := "()D" } : MethodName) prog_1_method_22_code 1 (Option.some ClassFile.FieldType.double)) ∈ bigW := bw2 141 rfl rfl
set_option maxRecDepth 20000 in
theorem wd_382 : (Cond.methodLink "HeadDots" 228 ({ cls := "HeadDots$Totals", name := "darkShare", desc := "()D" } : MethodName)) ∈ bigW := bw2 142 rfl rfl
set_option maxRecDepth 20000 in
theorem wd_383 : (Cond.instanceMethod ({ cls := "HeadDots$Totals", name := "darkShare", desc := "()D" } : MethodName)) ∈ bigW := bw2 143 rfl rfl
set_option maxRecDepth 20000 in
theorem wd_384 : (Cond.selects "HeadDots$Totals" ({ cls := "HeadDots$Totals", name := "darkShare", desc := "()D" } : MethodName) ({ cls := "HeadDots$Totals", name := "darkShare", desc := "()D" } : MethodName)) ∈ bigW := bw2 144 rfl rfl
set_option maxRecDepth 20000 in
theorem wd_385 : (Cond.code ({ cls := "HeadDots$Totals", name := "darkShare", desc := "()D" } : MethodName) prog_6_method_6_code 1 (Option.some ClassFile.FieldType.double)) ∈ bigW := bw2 145 rfl rfl
set_option maxRecDepth 20000 in
theorem wd_386 : (Cond.methodLink "HeadDotsLaw" 149 ({ cls := "HeadDots", name := "meanHeat", desc := "()F" } : MethodName)) ∈ bigW := bw2 146 rfl rfl
set_option maxRecDepth 20000 in
theorem wd_387 : (Cond.instanceMethod ({ cls := "HeadDots", name := "meanHeat", desc := "()F" } : MethodName)) ∈ bigW := bw2 147 rfl rfl
set_option maxRecDepth 20000 in
theorem wd_388 : (Cond.selects "HeadDots" ({ cls := "HeadDots", name := "meanHeat", desc := "()F" } : MethodName) ({ cls := "HeadDots", name := "meanHeat", desc := "()F" } : MethodName)) ∈ bigW := bw2 148 rfl rfl
set_option maxRecDepth 20000 in
theorem wd_389 : (Cond.code ({ cls := "HeadDots", name := "meanHeat", desc := "()F" } : MethodName) prog_1_method_23_code 1 (Option.some ClassFile.FieldType.float)) ∈ bigW := bw2 149 rfl rfl
set_option maxRecDepth 20000 in
theorem wd_390 : (Cond.methodLink "HeadDots" 232 ({ cls := "HeadDots$State", name := "mean", desc := "()F" } : MethodName)) ∈ bigW := bw2 150 rfl rfl
set_option maxRecDepth 20000 in
theorem wd_391 : (Cond.instanceMethod ({ cls := "HeadDots$State", name := "mean", desc := "()F" } : MethodName)) ∈ bigW := bw2 151 rfl rfl
set_option maxRecDepth 20000 in
theorem wd_392 : (Cond.selects "HeadDots$State" ({ cls := "HeadDots$State", name := "mean", desc := "()F" } : MethodName) ({ cls := "HeadDots$State", name := "mean", desc := "()F" } : MethodName)) ∈ bigW := bw2 152 rfl rfl
set_option maxRecDepth 20000 in
theorem wd_393 : (Cond.code ({ cls := "HeadDots$State", name := "mean", desc := "()F" } : MethodName) prog_4_method_25_code 3 (Option.some ClassFile.FieldType.float)) ∈ bigW := bw2 153 rfl rfl
set_option maxRecDepth 20000 in
theorem wd_394 : (Cond.constantFloat "HeadDots$State" 165 (1103101952 : UInt32)) ∈ bigW := bw2 154 rfl rfl
set_option maxRecDepth 20000 in
theorem wd_395 : (Cond.methodLink "HeadDotsLaw" 154 ({ cls := "HeadDots", name := "digest", desc := "()J" } : MethodName)) ∈ bigW := bw2 155 rfl rfl
set_option maxRecDepth 20000 in
theorem wd_396 : (Cond.instanceMethod ({ cls := "HeadDots", name := "digest", desc := "()J" } : MethodName)) ∈ bigW := bw2 156 rfl rfl
set_option maxRecDepth 20000 in
theorem wd_397 : (Cond.selects "HeadDots" ({ cls := "HeadDots", name := "digest", desc := "()J" } : MethodName) ({ cls := "HeadDots", name := "digest", desc := "()J" } : MethodName)) ∈ bigW := bw2 157 rfl rfl
set_option maxRecDepth 20000 in
theorem wd_398 : (Cond.code ({ cls := "HeadDots", name := "digest", desc := "()J" } : MethodName) prog_1_method_24_code 4 (Option.some ClassFile.FieldType.long)) ∈ bigW := bw2 158 rfl rfl
set_option maxRecDepth 20000 in
theorem wd_399 : (Cond.constantLong "HeadDots" 236 (3833 : Int64)) ∈ bigW := bw2 159 rfl rfl
set_option maxRecDepth 20000 in
theorem wd_400 : (Cond.methodLink "HeadDots" 206 ({ cls := "HeadDots", name := "counted", desc := "(I)I" } : MethodName)) ∈ bigW := bw2 160 rfl rfl
set_option maxRecDepth 20000 in
theorem wd_402 : (Cond.instanceMethod ({ cls := "HeadDots", name := "counted", desc := "(I)I" } : MethodName)) ∈ bigW := bw2 162 rfl rfl
set_option maxRecDepth 20000 in
theorem wd_403 : (Cond.code ({ cls := "HeadDots", name := "counted", desc := "(I)I" } : MethodName) prog_1_method_29_code 3 (Option.some ClassFile.FieldType.int)) ∈ bigW := bw2 163 rfl rfl
set_option maxRecDepth 20000 in
theorem wd_404 : (Cond.methodLink "HeadDots" 292 ({ cls := "HeadDots$Totals", name := "dotByDot", desc := "()I" } : MethodName)) ∈ bigW := bw2 164 rfl rfl
set_option maxRecDepth 20000 in
theorem wd_405 : (Cond.instanceMethod ({ cls := "HeadDots$Totals", name := "dotByDot", desc := "()I" } : MethodName)) ∈ bigW := bw2 165 rfl rfl
set_option maxRecDepth 20000 in
theorem wd_406 : (Cond.selects "HeadDots$Totals" ({ cls := "HeadDots$Totals", name := "dotByDot", desc := "()I" } : MethodName) ({ cls := "HeadDots$Totals", name := "dotByDot", desc := "()I" } : MethodName)) ∈ bigW := bw2 166 rfl rfl
set_option maxRecDepth 20000 in
theorem wd_407 : (Cond.code ({ cls := "HeadDots$Totals", name := "dotByDot", desc := "()I" } : MethodName) prog_6_method_5_code 3 (Option.some ClassFile.FieldType.int)) ∈ bigW := bw2 167 rfl rfl
set_option maxRecDepth 20000 in
theorem wd_408 : (Cond.methodLink "HeadDots" 91 ({ cls := "HeadDots$State", name := "hottestDot", desc := "()I" } : MethodName)) ∈ bigW := bw2 168 rfl rfl
set_option maxRecDepth 20000 in
theorem wd_409 : (Cond.instanceMethod ({ cls := "HeadDots$State", name := "hottestDot", desc := "()I" } : MethodName)) ∈ bigW := bw2 169 rfl rfl
set_option maxRecDepth 20000 in
theorem wd_410 : (Cond.selects "HeadDots$State" ({ cls := "HeadDots$State", name := "hottestDot", desc := "()I" } : MethodName) ({ cls := "HeadDots$State", name := "hottestDot", desc := "()I" } : MethodName)) ∈ bigW := bw2 170 rfl rfl
set_option maxRecDepth 20000 in
theorem wd_411 : (Cond.code ({ cls := "HeadDots$State", name := "hottestDot", desc := "()I" } : MethodName) prog_4_method_23_code 3 (Option.some ClassFile.FieldType.int)) ∈ bigW := bw2 171 rfl rfl
set_option maxRecDepth 20000 in
theorem wd_412 : (Cond.methodLink "HeadDots$State" 114 Lib.Math.max.name) ∈ bigW := bw2 172 (by decide +kernel) (by decide +kernel)
set_option maxRecDepth 20000 in
theorem wd_413 : (Cond.static Lib.Math.max.name) ∈ bigW := bw2 173 (by decide +kernel) (by decide +kernel)
set_option maxRecDepth 20000 in
theorem wd_414 : (Cond.code Lib.Math.max.name Lib.Math.max.code 2 (some .int)) ∈ bigW := bw2 174 (by decide +kernel) (by decide +kernel)
set_option maxRecDepth 20000 in
theorem wd_415 : (Cond.methodLink "HeadDots" 127 ({ cls := "HeadDots$State", name := "setting", desc := "(I)I" } : MethodName)) ∈ bigW := bw2 175 rfl rfl
set_option maxRecDepth 20000 in
theorem wd_416 : (Cond.instanceMethod ({ cls := "HeadDots$State", name := "setting", desc := "(I)I" } : MethodName)) ∈ bigW := bw2 176 rfl rfl
set_option maxRecDepth 20000 in
theorem wd_417 : (Cond.selects "HeadDots$State" ({ cls := "HeadDots$State", name := "setting", desc := "(I)I" } : MethodName) ({ cls := "HeadDots$State", name := "setting", desc := "(I)I" } : MethodName)) ∈ bigW := bw2 177 rfl rfl
set_option maxRecDepth 20000 in
theorem wd_418 : (Cond.code ({ cls := "HeadDots$State", name := "setting", desc := "(I)I" } : MethodName) prog_4_method_3_code 2 (Option.some ClassFile.FieldType.int)) ∈ bigW := bw2 178 rfl rfl
set_option maxRecDepth 20000 in
theorem wd_420 : (Cond.methodLink "HeadDots" 238 ({ cls := "HeadDots", name := "mixed", desc := "(JJ)J" } : MethodName)) ∈ bigW := bw2 180 rfl rfl
set_option maxRecDepth 20000 in
theorem wd_421 : (Cond.static ({ cls := "HeadDots", name := "mixed", desc := "(JJ)J" } : MethodName)) ∈ bigW := bw2 181 rfl rfl
set_option maxRecDepth 20000 in
theorem wd_422 : (Cond.code ({ cls := "HeadDots", name := "mixed", desc := "(JJ)J" } : MethodName) prog_1_method_37_code 4 (Option.some ClassFile.FieldType.long)) ∈ bigW := bw2 182 rfl rfl
set_option maxRecDepth 20000 in
theorem wd_423 : (Cond.constantLong "HeadDots" 304 (31 : Int64)) ∈ bigW := bw2 183 rfl rfl
set_option maxRecDepth 20000 in
theorem wd_424 : (Cond.methodLink "HeadDots" 242 ({ cls := "HeadDots", name := "mixedDots", desc := "(J)J" } : MethodName)) ∈ bigW := bw2 184 rfl rfl
set_option maxRecDepth 20000 in
theorem wd_426 : (Cond.instanceMethod ({ cls := "HeadDots", name := "mixedDots", desc := "(J)J" } : MethodName)) ∈ bigW := bw2 186 rfl rfl
set_option maxRecDepth 20000 in
theorem wd_427 : (Cond.code ({ cls := "HeadDots", name := "mixedDots", desc := "(J)J" } : MethodName) prog_1_method_33_code 7 (Option.some ClassFile.FieldType.long)) ∈ bigW := bw2 187 rfl rfl
set_option maxRecDepth 20000 in
theorem wd_428 : (Cond.methodLink "HeadDots" 198 ({ cls := "HeadDots$State", name := "numberOfDot", desc := "(II)I" } : MethodName)) ∈ bigW := bw2 188 rfl rfl
set_option maxRecDepth 20000 in
theorem wd_429 : (Cond.instanceMethod ({ cls := "HeadDots$State", name := "numberOfDot", desc := "(II)I" } : MethodName)) ∈ bigW := bw2 189 rfl rfl
set_option maxRecDepth 20000 in
theorem wd_430 : (Cond.selects "HeadDots$State" ({ cls := "HeadDots$State", name := "numberOfDot", desc := "(II)I" } : MethodName) ({ cls := "HeadDots$State", name := "numberOfDot", desc := "(II)I" } : MethodName)) ∈ bigW := bw2 190 rfl rfl
set_option maxRecDepth 20000 in
theorem wd_431 : (Cond.code ({ cls := "HeadDots$State", name := "numberOfDot", desc := "(II)I" } : MethodName) prog_4_method_26_code 3 (Option.some ClassFile.FieldType.int)) ∈ bigW := bw2 191 rfl rfl
set_option maxRecDepth 20000 in
theorem wd_433 : (Cond.static ({ cls := "HeadDots", name := "bitOf", desc := "(II)I" } : MethodName)) ∈ bigW := bw2 193 rfl rfl
set_option maxRecDepth 20000 in
theorem wd_434 : (Cond.code ({ cls := "HeadDots", name := "bitOf", desc := "(II)I" } : MethodName) prog_1_method_43_code 2 (Option.some ClassFile.FieldType.int)) ∈ bigW := bw2 194 rfl rfl
set_option maxRecDepth 20000 in
theorem wd_435 : (Cond.methodLink "HeadDots$State" 159 ({ cls := "HeadDots$State", name := "pulseAlone", desc := "(II)I" } : MethodName)) ∈ bigW := bw2 195 rfl rfl
set_option maxRecDepth 20000 in
theorem wd_437 : (Cond.instanceMethod ({ cls := "HeadDots$State", name := "pulseAlone", desc := "(II)I" } : MethodName)) ∈ bigW := bw2 197 rfl rfl
set_option maxRecDepth 20000 in
theorem wd_438 : (Cond.code ({ cls := "HeadDots$State", name := "pulseAlone", desc := "(II)I" } : MethodName) prog_4_method_15_code 3 (Option.some ClassFile.FieldType.int)) ∈ bigW := bw2 198 rfl rfl
set_option maxRecDepth 20000 in
theorem wd_439 : (Cond.methodLink "HeadDots$State" 120 ({ cls := "HeadDots$State", name := "pulseIn", desc := "(III)I" } : MethodName)) ∈ bigW := bw2 199 rfl rfl
set_option maxRecDepth 20000 in
theorem wd_441 : (Cond.instanceMethod ({ cls := "HeadDots$State", name := "pulseIn", desc := "(III)I" } : MethodName)) ∈ bigW := bw2 201 rfl rfl
set_option maxRecDepth 20000 in
theorem wd_442 : (Cond.code ({ cls := "HeadDots$State", name := "pulseIn", desc := "(III)I" } : MethodName) prog_4_method_14_code 5 (Option.some ClassFile.FieldType.int)) ∈ bigW := bw2 202 rfl rfl
set_option maxRecDepth 20000 in
theorem wd_445 : (Cond.methodLink "HeadDots$State" 162 ({ cls := "HeadDots$State", name := "waitFor", desc := "(II)I" } : MethodName)) ∈ bigW := bw2 205 rfl rfl
set_option maxRecDepth 20000 in
theorem wd_447 : (Cond.instanceMethod ({ cls := "HeadDots$State", name := "waitFor", desc := "(II)I" } : MethodName)) ∈ bigW := bw2 207 rfl rfl
set_option maxRecDepth 20000 in
theorem wd_448 : (Cond.code ({ cls := "HeadDots$State", name := "waitFor", desc := "(II)I" } : MethodName) prog_4_method_16_code 3 (Option.some ClassFile.FieldType.int)) ∈ bigW := bw2 208 rfl rfl
set_option maxRecDepth 20000 in
theorem wd_449 : (Cond.methodLink "HeadDots$State" 127 ({ cls := "HeadDots$State", name := "timeDownTo", desc := "(II)I" } : MethodName)) ∈ bigW := bw2 209 rfl rfl
set_option maxRecDepth 20000 in
theorem wd_451 : (Cond.instanceMethod ({ cls := "HeadDots$State", name := "timeDownTo", desc := "(II)I" } : MethodName)) ∈ bigW := bw2 211 rfl rfl
set_option maxRecDepth 20000 in
theorem wd_452 : (Cond.code ({ cls := "HeadDots$State", name := "timeDownTo", desc := "(II)I" } : MethodName) prog_4_method_20_code 6 (Option.some ClassFile.FieldType.int)) ∈ bigW := bw2 212 rfl rfl
set_option maxRecDepth 20000 in
theorem wd_453 : (Cond.constant "HeadDots$State" 149 (1000000 : Int32)) ∈ bigW := bw2 213 rfl rfl
set_option maxRecDepth 20000 in
theorem wd_454 : (Cond.methodLink "HeadDots$State" 146 ({ cls := "HeadDots$State", name := "cooled", desc := "(II)I" } : MethodName)) ∈ bigW := bw2 214 rfl rfl
set_option maxRecDepth 20000 in
theorem wd_455 : (Cond.static ({ cls := "HeadDots$State", name := "cooled", desc := "(II)I" } : MethodName)) ∈ bigW := bw2 215 rfl rfl
set_option maxRecDepth 20000 in
theorem wd_456 : (Cond.code ({ cls := "HeadDots$State", name := "cooled", desc := "(II)I" } : MethodName) prog_4_method_21_code 3 (Option.some ClassFile.FieldType.int)) ∈ bigW := bw2 216 rfl rfl
set_option maxRecDepth 20000 in
theorem wd_457 : (Cond.methodLink "HeadDots" 246 ({ cls := "HeadDots", name := "mixedStrip", desc := "(J)J" } : MethodName)) ∈ bigW := bw2 217 rfl rfl
set_option maxRecDepth 20000 in
theorem wd_459 : (Cond.instanceMethod ({ cls := "HeadDots", name := "mixedStrip", desc := "(J)J" } : MethodName)) ∈ bigW := bw2 219 rfl rfl
set_option maxRecDepth 20000 in
theorem wd_460 : (Cond.code ({ cls := "HeadDots", name := "mixedStrip", desc := "(J)J" } : MethodName) prog_1_method_34_code 9 (Option.some ClassFile.FieldType.long)) ∈ bigW := bw2 220 rfl rfl
set_option maxRecDepth 20000 in
theorem wd_461 : (Cond.methodLink "HeadDots" 203 ({ cls := "HeadDots$Strip", name := "numberOfLine", desc := "(II)I" } : MethodName)) ∈ bigW := bw2 221 rfl rfl
set_option maxRecDepth 20000 in
theorem wd_462 : (Cond.instanceMethod ({ cls := "HeadDots$Strip", name := "numberOfLine", desc := "(II)I" } : MethodName)) ∈ bigW := bw2 222 rfl rfl
set_option maxRecDepth 20000 in
theorem wd_463 : (Cond.selects "HeadDots$Strip" ({ cls := "HeadDots$Strip", name := "numberOfLine", desc := "(II)I" } : MethodName) ({ cls := "HeadDots$Strip", name := "numberOfLine", desc := "(II)I" } : MethodName)) ∈ bigW := bw2 223 rfl rfl
set_option maxRecDepth 20000 in
theorem wd_464 : (Cond.code ({ cls := "HeadDots$Strip", name := "numberOfLine", desc := "(II)I" } : MethodName) prog_5_method_5_code 3 (Option.some ClassFile.FieldType.int)) ∈ bigW := bw2 224 rfl rfl
set_option maxRecDepth 20000 in
theorem wd_466 : (Cond.methodLink "HeadDots" 299 ({ cls := "HeadDots$Strip", name := "textLength", desc := "(I)I" } : MethodName)) ∈ bigW := bw2 226 rfl rfl
set_option maxRecDepth 20000 in
theorem wd_467 : (Cond.instanceMethod ({ cls := "HeadDots$Strip", name := "textLength", desc := "(I)I" } : MethodName)) ∈ bigW := bw2 227 rfl rfl
set_option maxRecDepth 20000 in
theorem wd_468 : (Cond.selects "HeadDots$Strip" ({ cls := "HeadDots$Strip", name := "textLength", desc := "(I)I" } : MethodName) ({ cls := "HeadDots$Strip", name := "textLength", desc := "(I)I" } : MethodName)) ∈ bigW := bw2 228 rfl rfl
set_option maxRecDepth 20000 in
theorem wd_469 : (Cond.code ({ cls := "HeadDots$Strip", name := "textLength", desc := "(I)I" } : MethodName) prog_5_method_6_code 2 (Option.some ClassFile.FieldType.int)) ∈ bigW := bw2 229 rfl rfl
set_option maxRecDepth 20000 in
theorem wd_470 : (Cond.methodLink "HeadDots$Strip" 47 Lib.Math.max.name) ∈ bigW := bw2 230 (by decide +kernel) (by decide +kernel)
set_option maxRecDepth 20000 in
theorem wd_471 : (Cond.methodLink "HeadDots" 175 ({ cls := "HeadDots$Strip", name := "sign", desc := "(II)I" } : MethodName)) ∈ bigW := bw2 231 rfl rfl
set_option maxRecDepth 20000 in
theorem wd_472 : (Cond.instanceMethod ({ cls := "HeadDots$Strip", name := "sign", desc := "(II)I" } : MethodName)) ∈ bigW := bw2 232 rfl rfl
set_option maxRecDepth 20000 in
theorem wd_473 : (Cond.selects "HeadDots$Strip" ({ cls := "HeadDots$Strip", name := "sign", desc := "(II)I" } : MethodName) ({ cls := "HeadDots$Strip", name := "sign", desc := "(II)I" } : MethodName)) ∈ bigW := bw2 233 rfl rfl
set_option maxRecDepth 20000 in
theorem wd_474 : (Cond.code ({ cls := "HeadDots$Strip", name := "sign", desc := "(II)I" } : MethodName) prog_5_method_7_code 3 (Option.some ClassFile.FieldType.int)) ∈ bigW := bw2 234 rfl rfl
set_option maxRecDepth 20000 in
theorem wd_475 : (Cond.methodLink "HeadDots$Strip" 50 ({ cls := "HeadDots$Strip", name := "textLength", desc := "(I)I" } : MethodName)) ∈ bigW := bw2 235 rfl rfl
set_option maxRecDepth 20000 in
theorem wd_477 : (Cond.methodLink "HeadDots" 249 ({ cls := "HeadDots", name := "mixedTrials", desc := "(J)J" } : MethodName)) ∈ bigW := bw2 237 rfl rfl
set_option maxRecDepth 20000 in
theorem wd_479 : (Cond.instanceMethod ({ cls := "HeadDots", name := "mixedTrials", desc := "(J)J" } : MethodName)) ∈ bigW := bw2 239 rfl rfl
set_option maxRecDepth 20000 in
theorem wd_480 : (Cond.code ({ cls := "HeadDots", name := "mixedTrials", desc := "(J)J" } : MethodName) prog_1_method_35_code 7 (Option.some ClassFile.FieldType.long)) ∈ bigW := bw3 0 rfl rfl
set_option maxRecDepth 20000 in
theorem wd_481 : (Cond.constant "HeadDots" 302 (16777215 : Int32)) ∈ bigW := bw3 1 rfl rfl
set_option maxRecDepth 20000 in
theorem wd_482 : (Cond.constant "HeadDots" 303 (5592405 : Int32)) ∈ bigW := bw3 2 rfl rfl
set_option maxRecDepth 20000 in
theorem wd_483 : (Cond.methodLink "HeadDots" 211 ({ cls := "HeadDots", name := "tryLine", desc := "(II)V" } : MethodName)) ∈ bigW := bw3 3 rfl rfl
set_option maxRecDepth 20000 in
theorem wd_485 : (Cond.instanceMethod ({ cls := "HeadDots", name := "tryLine", desc := "(II)V" } : MethodName)) ∈ bigW := bw3 5 rfl rfl
set_option maxRecDepth 20000 in
theorem wd_486 : (Cond.code ({ cls := "HeadDots", name := "tryLine", desc := "(II)V" } : MethodName) prog_1_method_30_code 3 (Option.none : Option ClassFile.FieldType)) ∈ bigW := bw3 6 rfl rfl
set_option maxRecDepth 20000 in
theorem wd_487 : (Cond.methodLink "HeadDots" 129 ({ cls := "HeadDots$State", name := "changeSetting", desc := "(II)V" } : MethodName)) ∈ bigW := bw3 7 rfl rfl
set_option maxRecDepth 20000 in
theorem wd_488 : (Cond.instanceMethod ({ cls := "HeadDots$State", name := "changeSetting", desc := "(II)V" } : MethodName)) ∈ bigW := bw3 8 rfl rfl
set_option maxRecDepth 20000 in
theorem wd_489 : (Cond.selects "HeadDots$State" ({ cls := "HeadDots$State", name := "changeSetting", desc := "(II)V" } : MethodName) ({ cls := "HeadDots$State", name := "changeSetting", desc := "(II)V" } : MethodName)) ∈ bigW := bw3 9 rfl rfl
set_option maxRecDepth 20000 in
theorem wd_490 : (Cond.code ({ cls := "HeadDots$State", name := "changeSetting", desc := "(II)V" } : MethodName) prog_4_method_4_code 3 (Option.none : Option ClassFile.FieldType)) ∈ bigW := bw3 10 rfl rfl
set_option maxRecDepth 20000 in
theorem wd_492 : (Cond.static ({ cls := "HeadDots", name := "put", desc := "([III)V" } : MethodName)) ∈ bigW := bw3 12 rfl rfl
set_option maxRecDepth 20000 in
theorem wd_493 : (Cond.code ({ cls := "HeadDots", name := "put", desc := "([III)V" } : MethodName) prog_1_method_45_code 3 (Option.none : Option ClassFile.FieldType)) ∈ bigW := bw3 13 rfl rfl
set_option maxRecDepth 20000 in
theorem wd_494 : (Cond.methodLink "HeadDots" 62 ({ cls := "HeadDots$State", name := "printLine", desc := "(I)I" } : MethodName)) ∈ bigW := bw3 14 rfl rfl
set_option maxRecDepth 20000 in
theorem wd_495 : (Cond.instanceMethod ({ cls := "HeadDots$State", name := "printLine", desc := "(I)I" } : MethodName)) ∈ bigW := bw3 15 rfl rfl
set_option maxRecDepth 20000 in
theorem wd_496 : (Cond.selects "HeadDots$State" ({ cls := "HeadDots$State", name := "printLine", desc := "(I)I" } : MethodName) ({ cls := "HeadDots$State", name := "printLine", desc := "(I)I" } : MethodName)) ∈ bigW := bw3 16 rfl rfl
set_option maxRecDepth 20000 in
theorem wd_497 : (Cond.code ({ cls := "HeadDots$State", name := "printLine", desc := "(I)I" } : MethodName) prog_4_method_7_code 9 (Option.some ClassFile.FieldType.int)) ∈ bigW := bw3 17 rfl rfl
set_option maxRecDepth 20000 in
theorem wd_498 : (Cond.methodLink "HeadDots$State" 77 ({ cls := "HeadDots$State", name := "dotsAtOnce", desc := "()I" } : MethodName)) ∈ bigW := bw3 18 rfl rfl
set_option maxRecDepth 20000 in
theorem wd_500 : (Cond.instanceMethod ({ cls := "HeadDots$State", name := "dotsAtOnce", desc := "()I" } : MethodName)) ∈ bigW := bw3 20 rfl rfl
set_option maxRecDepth 20000 in
theorem wd_501 : (Cond.code ({ cls := "HeadDots$State", name := "dotsAtOnce", desc := "()I" } : MethodName) prog_4_method_8_code 2 (Option.some ClassFile.FieldType.int)) ∈ bigW := bw3 21 rfl rfl
set_option maxRecDepth 20000 in
theorem wd_502 : (Cond.methodLink "HeadDots$State" 81 ({ cls := "java/lang/Integer", name := "bitCount", desc := "(I)I" } : MethodName)) ∈ bigW := bw3 22 rfl rfl
set_option maxRecDepth 20000 in
theorem wd_503 : (Cond.static ({ cls := "java/lang/Integer", name := "bitCount", desc := "(I)I" } : MethodName)) ∈ bigW := bw3 23 rfl rfl
set_option maxRecDepth 20000 in
theorem wd_504 : (Cond.code ({ cls := "java/lang/Integer", name := "bitCount", desc := "(I)I" } : MethodName) prog_15_method_49_code 1 (Option.some ClassFile.FieldType.int)) ∈ bigW := bw3 24 rfl rfl
set_option maxRecDepth 20000 in
theorem wd_505 : (Cond.constant "java/lang/Integer" 265 (1431655765 : Int32)) ∈ bigW := bw3 25 rfl rfl
set_option maxRecDepth 20000 in
theorem wd_506 : (Cond.constant "java/lang/Integer" 266 (858993459 : Int32)) ∈ bigW := bw3 26 rfl rfl
set_option maxRecDepth 20000 in
theorem wd_507 : (Cond.constant "java/lang/Integer" 267 (252645135 : Int32)) ∈ bigW := bw3 27 rfl rfl
set_option maxRecDepth 20000 in
theorem wd_508 : (Cond.methodLink "HeadDots$State" 86 ({ cls := "HeadDots$State", name := "preparePulses", desc := "(I)V" } : MethodName)) ∈ bigW := bw3 28 rfl rfl
set_option maxRecDepth 20000 in
theorem wd_510 : (Cond.instanceMethod ({ cls := "HeadDots$State", name := "preparePulses", desc := "(I)V" } : MethodName)) ∈ bigW := bw3 30 rfl rfl
set_option maxRecDepth 20000 in
theorem wd_511 : (Cond.code ({ cls := "HeadDots$State", name := "preparePulses", desc := "(I)V" } : MethodName) prog_4_method_9_code 4 (Option.none : Option ClassFile.FieldType)) ∈ bigW := bw3 31 rfl rfl
set_option maxRecDepth 20000 in
theorem wd_512 : (Cond.methodLink "HeadDots$State" 90 ({ cls := "HeadDots$State", name := "dotsOfPart", desc := "(IIII)I" } : MethodName)) ∈ bigW := bw3 32 rfl rfl
set_option maxRecDepth 20000 in
theorem wd_514 : (Cond.instanceMethod ({ cls := "HeadDots$State", name := "dotsOfPart", desc := "(IIII)I" } : MethodName)) ∈ bigW := bw3 34 rfl rfl
set_option maxRecDepth 20000 in
theorem wd_515 : (Cond.code ({ cls := "HeadDots$State", name := "dotsOfPart", desc := "(IIII)I" } : MethodName) prog_4_method_10_code 10 (Option.some ClassFile.FieldType.int)) ∈ bigW := bw3 35 rfl rfl
set_option maxRecDepth 20000 in
theorem wd_516 : (Cond.methodLink "HeadDots$State" 94 ({ cls := "HeadDots$State", name := "waitOfPart", desc := "(I)I" } : MethodName)) ∈ bigW := bw3 36 rfl rfl
set_option maxRecDepth 20000 in
theorem wd_518 : (Cond.instanceMethod ({ cls := "HeadDots$State", name := "waitOfPart", desc := "(I)I" } : MethodName)) ∈ bigW := bw3 38 rfl rfl
set_option maxRecDepth 20000 in
theorem wd_519 : (Cond.code ({ cls := "HeadDots$State", name := "waitOfPart", desc := "(I)I" } : MethodName) prog_4_method_11_code 5 (Option.some ClassFile.FieldType.int)) ∈ bigW := bw3 39 rfl rfl
set_option maxRecDepth 20000 in
theorem wd_520 : (Cond.methodLink "HeadDots$State" 97 ({ cls := "HeadDots$State", name := "passTime", desc := "(I)V" } : MethodName)) ∈ bigW := bw3 40 rfl rfl
set_option maxRecDepth 20000 in
theorem wd_521 : (Cond.instanceMethod ({ cls := "HeadDots$State", name := "passTime", desc := "(I)V" } : MethodName)) ∈ bigW := bw3 41 rfl rfl
set_option maxRecDepth 20000 in
theorem wd_522 : (Cond.selects "HeadDots$State" ({ cls := "HeadDots$State", name := "passTime", desc := "(I)V" } : MethodName) ({ cls := "HeadDots$State", name := "passTime", desc := "(I)V" } : MethodName)) ∈ bigW := bw3 42 rfl rfl
set_option maxRecDepth 20000 in
theorem wd_523 : (Cond.code ({ cls := "HeadDots$State", name := "passTime", desc := "(I)V" } : MethodName) prog_4_method_18_code 3 (Option.none : Option ClassFile.FieldType)) ∈ bigW := bw3 43 rfl rfl
set_option maxRecDepth 20000 in
theorem wd_524 : (Cond.methodLink "HeadDots$State" 143 ({ cls := "HeadDots$State", name := "cooledFor", desc := "(II)I" } : MethodName)) ∈ bigW := bw3 44 rfl rfl
set_option maxRecDepth 20000 in
theorem wd_526 : (Cond.instanceMethod ({ cls := "HeadDots$State", name := "cooledFor", desc := "(II)I" } : MethodName)) ∈ bigW := bw3 46 rfl rfl
set_option maxRecDepth 20000 in
theorem wd_527 : (Cond.code ({ cls := "HeadDots$State", name := "cooledFor", desc := "(II)I" } : MethodName) prog_4_method_19_code 6 (Option.some ClassFile.FieldType.int)) ∈ bigW := bw3 47 rfl rfl
set_option maxRecDepth 20000 in
theorem wd_528 : (Cond.methodLink "HeadDots$State" 103 ({ cls := "HeadDots$State", name := "heatPart", desc := "(I)I" } : MethodName)) ∈ bigW := bw3 48 rfl rfl
set_option maxRecDepth 20000 in
theorem wd_530 : (Cond.instanceMethod ({ cls := "HeadDots$State", name := "heatPart", desc := "(I)I" } : MethodName)) ∈ bigW := bw3 50 rfl rfl
set_option maxRecDepth 20000 in
theorem wd_531 : (Cond.code ({ cls := "HeadDots$State", name := "heatPart", desc := "(I)I" } : MethodName) prog_4_method_12_code 4 (Option.some ClassFile.FieldType.int)) ∈ bigW := bw3 51 rfl rfl
set_option maxRecDepth 20000 in
theorem wd_532 : (Cond.methodLink "HeadDots$State" 133 ({ cls := "HeadDots$State", name := "isDark", desc := "(I)Z" } : MethodName)) ∈ bigW := bw3 52 rfl rfl
set_option maxRecDepth 20000 in
theorem wd_534 : (Cond.instanceMethod ({ cls := "HeadDots$State", name := "isDark", desc := "(I)Z" } : MethodName)) ∈ bigW := bw3 54 rfl rfl
set_option maxRecDepth 20000 in
theorem wd_535 : (Cond.code ({ cls := "HeadDots$State", name := "isDark", desc := "(I)Z" } : MethodName) prog_4_method_17_code 2 (Option.some ClassFile.FieldType.boolean)) ∈ bigW := bw3 55 rfl rfl
set_option maxRecDepth 20000 in
theorem wd_538 : (Cond.methodLink "HeadDots$State" 106 ({ cls := "HeadDots$State", name := "longestPulse", desc := "(I)I" } : MethodName)) ∈ bigW := bw3 58 rfl rfl
set_option maxRecDepth 20000 in
theorem wd_540 : (Cond.instanceMethod ({ cls := "HeadDots$State", name := "longestPulse", desc := "(I)I" } : MethodName)) ∈ bigW := bw3 60 rfl rfl
set_option maxRecDepth 20000 in
theorem wd_541 : (Cond.code ({ cls := "HeadDots$State", name := "longestPulse", desc := "(I)I" } : MethodName) prog_4_method_13_code 4 (Option.some ClassFile.FieldType.int)) ∈ bigW := bw3 61 rfl rfl
set_option maxRecDepth 20000 in
theorem wd_542 : (Cond.methodLink "HeadDots$State" 109 ({ cls := "HeadDots$Strip", name := "addLine", desc := "(III)V" } : MethodName)) ∈ bigW := bw3 62 rfl rfl
set_option maxRecDepth 20000 in
theorem wd_543 : (Cond.instanceMethod ({ cls := "HeadDots$Strip", name := "addLine", desc := "(III)V" } : MethodName)) ∈ bigW := bw3 63 rfl rfl
set_option maxRecDepth 20000 in
theorem wd_544 : (Cond.selects "HeadDots$Strip" ({ cls := "HeadDots$Strip", name := "addLine", desc := "(III)V" } : MethodName) ({ cls := "HeadDots$Strip", name := "addLine", desc := "(III)V" } : MethodName)) ∈ bigW := bw3 64 rfl rfl
set_option maxRecDepth 20000 in
theorem wd_545 : (Cond.code ({ cls := "HeadDots$Strip", name := "addLine", desc := "(III)V" } : MethodName) prog_5_method_3_code 4 (Option.none : Option ClassFile.FieldType)) ∈ bigW := bw3 65 rfl rfl
set_option maxRecDepth 20000 in
theorem wd_546 : (Cond.methodLink "HeadDots$Strip" 29 ({ cls := "HeadDots$Strip", name := "pushFront", desc := "([II)V" } : MethodName)) ∈ bigW := bw3 66 rfl rfl
set_option maxRecDepth 20000 in
theorem wd_547 : (Cond.static ({ cls := "HeadDots$Strip", name := "pushFront", desc := "([II)V" } : MethodName)) ∈ bigW := bw3 67 rfl rfl
set_option maxRecDepth 20000 in
theorem wd_548 : (Cond.code ({ cls := "HeadDots$Strip", name := "pushFront", desc := "([II)V" } : MethodName) prog_5_method_4_code 3 (Option.none : Option ClassFile.FieldType)) ∈ bigW := bw3 68 rfl rfl
set_option maxRecDepth 20000 in
theorem wd_550 : (Cond.methodLink "HeadDots$Strip" 33 Lib.Math.min.name) ∈ bigW := bw3 70 (by decide +kernel) (by decide +kernel)
set_option maxRecDepth 20000 in
theorem wd_551 : (Cond.methodLink "HeadDots$State" 113 ({ cls := "HeadDots$Totals", name := "addLine", desc := "(III)V" } : MethodName)) ∈ bigW := bw3 71 rfl rfl
set_option maxRecDepth 20000 in
theorem wd_552 : (Cond.instanceMethod ({ cls := "HeadDots$Totals", name := "addLine", desc := "(III)V" } : MethodName)) ∈ bigW := bw3 72 rfl rfl
set_option maxRecDepth 20000 in
theorem wd_553 : (Cond.selects "HeadDots$Totals" ({ cls := "HeadDots$Totals", name := "addLine", desc := "(III)V" } : MethodName) ({ cls := "HeadDots$Totals", name := "addLine", desc := "(III)V" } : MethodName)) ∈ bigW := bw3 73 rfl rfl
set_option maxRecDepth 20000 in
theorem wd_554 : (Cond.code ({ cls := "HeadDots$Totals", name := "addLine", desc := "(III)V" } : MethodName) prog_6_method_3_code 4 (Option.none : Option ClassFile.FieldType)) ∈ bigW := bw3 74 rfl rfl
set_option maxRecDepth 20000 in
theorem wd_555 : (Cond.methodLink "HeadDots$Totals" 44 ({ cls := "java/lang/Integer", name := "bitCount", desc := "(I)I" } : MethodName)) ∈ bigW := bw3 75 rfl rfl
set_option maxRecDepth 20000 in
theorem wd_556 : (Cond.methodLink "HeadDots$Totals" 50 ({ cls := "HeadDots$Totals", name := "addDots", desc := "([II)V" } : MethodName)) ∈ bigW := bw3 76 rfl rfl
set_option maxRecDepth 20000 in
theorem wd_557 : (Cond.static ({ cls := "HeadDots$Totals", name := "addDots", desc := "([II)V" } : MethodName)) ∈ bigW := bw3 77 rfl rfl
set_option maxRecDepth 20000 in
theorem wd_558 : (Cond.code ({ cls := "HeadDots$Totals", name := "addDots", desc := "([II)V" } : MethodName) prog_6_method_4_code 3 (Option.none : Option ClassFile.FieldType)) ∈ bigW := bw3 78 rfl rfl
set_option maxRecDepth 20000 in
theorem wd_560 : (Cond.methodLink "HeadDots" 214 ({ cls := "HeadDots", name := "tried", desc := "(I)I" } : MethodName)) ∈ bigW := bw3 80 rfl rfl
set_option maxRecDepth 20000 in
theorem wd_562 : (Cond.instanceMethod ({ cls := "HeadDots", name := "tried", desc := "(I)I" } : MethodName)) ∈ bigW := bw3 82 rfl rfl
set_option maxRecDepth 20000 in
theorem wd_563 : (Cond.code ({ cls := "HeadDots", name := "tried", desc := "(I)I" } : MethodName) prog_1_method_31_code 3 (Option.some ClassFile.FieldType.int)) ∈ bigW := bw3 83 rfl rfl
set_option maxRecDepth 20000 in
theorem wd_564 : (Cond.constant "HeadDots" 252 (65535 : Int32)) ∈ bigW := bw3 84 rfl rfl
set_option maxRecDepth 20000 in
theorem wd_565 : (Cond.methodLink "HeadDots" 217 ({ cls := "HeadDots", name := "fasterWay", desc := "(I)I" } : MethodName)) ∈ bigW := bw3 85 rfl rfl
set_option maxRecDepth 20000 in
theorem wd_567 : (Cond.instanceMethod ({ cls := "HeadDots", name := "fasterWay", desc := "(I)I" } : MethodName)) ∈ bigW := bw3 87 rfl rfl
set_option maxRecDepth 20000 in
theorem wd_568 : (Cond.code ({ cls := "HeadDots", name := "fasterWay", desc := "(I)I" } : MethodName) prog_1_method_32_code 3 (Option.some ClassFile.FieldType.int)) ∈ bigW := bw3 88 rfl rfl
set_option maxRecDepth 20000 in
theorem wd_569 : (Cond.methodLink "HeadDots" 222 ({ cls := "HeadDots$State", name := "timeUntilCool", desc := "(I)I" } : MethodName)) ∈ bigW := bw3 89 rfl rfl
set_option maxRecDepth 20000 in
theorem wd_570 : (Cond.instanceMethod ({ cls := "HeadDots$State", name := "timeUntilCool", desc := "(I)I" } : MethodName)) ∈ bigW := bw3 90 rfl rfl
set_option maxRecDepth 20000 in
theorem wd_571 : (Cond.selects "HeadDots$State" ({ cls := "HeadDots$State", name := "timeUntilCool", desc := "(I)I" } : MethodName) ({ cls := "HeadDots$State", name := "timeUntilCool", desc := "(I)I" } : MethodName)) ∈ bigW := bw3 91 rfl rfl
set_option maxRecDepth 20000 in
theorem wd_572 : (Cond.code ({ cls := "HeadDots$State", name := "timeUntilCool", desc := "(I)I" } : MethodName) prog_4_method_22_code 2 (Option.some ClassFile.FieldType.int)) ∈ bigW := bw3 92 rfl rfl
set_option maxRecDepth 20000 in
theorem wd_573 : (Cond.methodLink "HeadDots$State" 150 ({ cls := "HeadDots$State", name := "hottestDot", desc := "()I" } : MethodName)) ∈ bigW := bw3 93 rfl rfl
set_option maxRecDepth 20000 in
theorem wd_574 : (Cond.methodLink "HeadDots" 225 ({ cls := "HeadDots$State", name := "leastDarkSetting", desc := "(I)I" } : MethodName)) ∈ bigW := bw3 94 rfl rfl
set_option maxRecDepth 20000 in
theorem wd_575 : (Cond.instanceMethod ({ cls := "HeadDots$State", name := "leastDarkSetting", desc := "(I)I" } : MethodName)) ∈ bigW := bw3 95 rfl rfl
set_option maxRecDepth 20000 in
theorem wd_576 : (Cond.selects "HeadDots$State" ({ cls := "HeadDots$State", name := "leastDarkSetting", desc := "(I)I" } : MethodName) ({ cls := "HeadDots$State", name := "leastDarkSetting", desc := "(I)I" } : MethodName)) ∈ bigW := bw3 96 rfl rfl
set_option maxRecDepth 20000 in
theorem wd_577 : (Cond.code ({ cls := "HeadDots$State", name := "leastDarkSetting", desc := "(I)I" } : MethodName) prog_4_method_24_code 6 (Option.some ClassFile.FieldType.int)) ∈ bigW := bw3 97 rfl rfl
set_option maxRecDepth 20000 in
theorem wd_582 : (Cond.methodLink "HeadDots" 253 ({ cls := "HeadDots", name := "bitsOfDouble", desc := "(D)J" } : MethodName)) ∈ bigW := bw3 102 rfl rfl
set_option maxRecDepth 20000 in
theorem wd_583 : (Cond.static ({ cls := "HeadDots", name := "bitsOfDouble", desc := "(D)J" } : MethodName)) ∈ bigW := bw3 103 rfl rfl
set_option maxRecDepth 20000 in
theorem wd_584 : (Cond.code ({ cls := "HeadDots", name := "bitsOfDouble", desc := "(D)J" } : MethodName) prog_1_method_38_code 7 (Option.some ClassFile.FieldType.long)) ∈ bigW := bw3 104 rfl rfl
set_option maxRecDepth 20000 in
theorem wd_585 : (Cond.constantLong "HeadDots" 306 (1023 : Int64)) ∈ bigW := bw3 105 rfl rfl
set_option maxRecDepth 20000 in
theorem wd_586 : (Cond.constantDouble "HeadDots" 308 (4611686018427387904 : UInt64)) ∈ bigW := bw3 106 rfl rfl
set_option maxRecDepth 20000 in
theorem wd_587 : (Cond.constantDouble "HeadDots" 310 (4841369599423283200 : UInt64)) ∈ bigW := bw3 107 rfl rfl
set_option maxRecDepth 20000 in
theorem wd_588 : (Cond.methodLink "HeadDots" 257 ({ cls := "HeadDots", name := "bitsOfFloat", desc := "(F)I" } : MethodName)) ∈ bigW := bw3 108 rfl rfl
set_option maxRecDepth 20000 in
theorem wd_589 : (Cond.static ({ cls := "HeadDots", name := "bitsOfFloat", desc := "(F)I" } : MethodName)) ∈ bigW := bw3 109 rfl rfl
set_option maxRecDepth 20000 in
theorem wd_590 : (Cond.code ({ cls := "HeadDots", name := "bitsOfFloat", desc := "(F)I" } : MethodName) prog_1_method_39_code 4 (Option.some ClassFile.FieldType.int)) ∈ bigW := bw3 110 rfl rfl
set_option maxRecDepth 20000 in
theorem wd_591 : (Cond.constantFloat "HeadDots" 312 (1258291200 : UInt32)) ∈ bigW := bw3 111 rfl rfl
set_option maxRecDepth 20000 in
theorem wd_592 : (Cond.methodLink "HeadDots" 261 ({ cls := "HeadDots", name := "mixedBuffer", desc := "(J)J" } : MethodName)) ∈ bigW := bw3 112 rfl rfl
set_option maxRecDepth 20000 in
theorem wd_594 : (Cond.instanceMethod ({ cls := "HeadDots", name := "mixedBuffer", desc := "(J)J" } : MethodName)) ∈ bigW := bw3 114 rfl rfl
set_option maxRecDepth 20000 in
theorem wd_595 : (Cond.code ({ cls := "HeadDots", name := "mixedBuffer", desc := "(J)J" } : MethodName) prog_1_method_36_code 6 (Option.some ClassFile.FieldType.long)) ∈ bigW := bw3 115 rfl rfl
set_option maxRecDepth 20000 in
theorem wd_596 : (Cond.methodLink "HeadDots" 164 ({ cls := "HeadDots$Buffer", name := "codeAt", desc := "(I)I" } : MethodName)) ∈ bigW := bw3 116 rfl rfl
set_option maxRecDepth 20000 in
theorem wd_597 : (Cond.methodLink "HeadDotsLaw" 73 ({ cls := "HeadDotsLaw", name := "line", desc := "(LHeadDots;I[J)I" } : MethodName)) ∈ bigW := bw3 117 rfl rfl
set_option maxRecDepth 20000 in
theorem wd_598 : (Cond.static ({ cls := "HeadDotsLaw", name := "line", desc := "(LHeadDots;I[J)I" } : MethodName)) ∈ bigW := bw3 118 rfl rfl
set_option maxRecDepth 20000 in
theorem wd_600 : (Cond.classLink "HeadDotsLaw" 13 "java/lang/IllegalArgumentException") ∈ bigW := bw3 120 rfl rfl
set_option maxRecDepth 20000 in
theorem wd_601 : (Cond.methodLink "HeadDotsLaw" 7 ({ cls := "HeadDots", name := "line", desc := "(I)I" } : MethodName)) ∈ bigW := bw3 121 rfl rfl
set_option maxRecDepth 20000 in
theorem wd_602 : (Cond.instanceMethod ({ cls := "HeadDots", name := "line", desc := "(I)I" } : MethodName)) ∈ bigW := bw3 122 rfl rfl
set_option maxRecDepth 20000 in
theorem wd_603 : (Cond.selects "HeadDots" ({ cls := "HeadDots", name := "line", desc := "(I)I" } : MethodName) ({ cls := "HeadDots", name := "line", desc := "(I)I" } : MethodName)) ∈ bigW := bw3 123 rfl rfl
set_option maxRecDepth 20000 in
theorem wd_604 : (Cond.code ({ cls := "HeadDots", name := "line", desc := "(I)I" } : MethodName) prog_1_method_2_code 2 (Option.some ClassFile.FieldType.int)) ∈ bigW := bw3 124 rfl rfl
set_option maxRecDepth 20000 in
theorem wd_605 : (Cond.methodLink "HeadDots" 48 ({ cls := "HeadDots", name := "isLine", desc := "(I)Z" } : MethodName)) ∈ bigW := bw3 125 rfl rfl
set_option maxRecDepth 20000 in
theorem wd_606 : (Cond.static ({ cls := "HeadDots", name := "isLine", desc := "(I)Z" } : MethodName)) ∈ bigW := bw3 126 rfl rfl
set_option maxRecDepth 20000 in
theorem wd_607 : (Cond.code ({ cls := "HeadDots", name := "isLine", desc := "(I)Z" } : MethodName) prog_1_method_41_code 1 (Option.some ClassFile.FieldType.boolean)) ∈ bigW := bw3 127 rfl rfl
set_option maxRecDepth 20000 in
theorem wd_608 : (Cond.methodLink "HeadDots" 66 ({ cls := "HeadDots", name := "isWithin", desc := "(III)Z" } : MethodName)) ∈ bigW := bw3 128 rfl rfl
set_option maxRecDepth 20000 in
theorem wd_609 : (Cond.classLink "HeadDots" 52 "java/lang/IllegalArgumentException") ∈ bigW := bw3 129 rfl rfl
set_option maxRecDepth 20000 in
theorem wd_610 : (Cond.instantiable "java/lang/IllegalArgumentException" 6) ∈ bigW := bw3 130 rfl rfl
set_option maxRecDepth 20000 in
theorem wd_651 : (Cond.methodLink "HeadDots" 56 ({ cls := "java/lang/IllegalArgumentException", name := "<init>", desc := "(Ljava/lang/String;)V" } : MethodName)) ∈ bigW := bw3 171 rfl rfl
set_option maxRecDepth 20000 in
theorem wd_652 : (Cond.instanceMethod ({ cls := "java/lang/IllegalArgumentException", name := "<init>", desc := "(Ljava/lang/String;)V" } : MethodName)) ∈ bigW := bw3 172 rfl rfl
set_option maxRecDepth 20000 in
theorem wd_653 : (Cond.code ({ cls := "java/lang/IllegalArgumentException", name := "<init>", desc := "(Ljava/lang/String;)V" } : MethodName) prog_12_method_2_code 2 (Option.none : Option ClassFile.FieldType)) ∈ bigW := bw3 173 rfl rfl
set_option maxRecDepth 20000 in
theorem wd_676 : (Cond.methodLink "HeadDots" 59 ({ cls := "HeadDots", name := "saveState", desc := "()V" } : MethodName)) ∈ bigW := bw3 196 rfl rfl
set_option maxRecDepth 20000 in
theorem wd_678 : (Cond.instanceMethod ({ cls := "HeadDots", name := "saveState", desc := "()V" } : MethodName)) ∈ bigW := bw3 198 rfl rfl
set_option maxRecDepth 20000 in
theorem wd_679 : (Cond.code ({ cls := "HeadDots", name := "saveState", desc := "()V" } : MethodName) prog_1_method_25_code 2 (Option.none : Option ClassFile.FieldType)) ∈ bigW := bw3 199 rfl rfl
set_option maxRecDepth 20000 in
theorem wd_680 : (Cond.methodLink "HeadDots" 264 ({ cls := "HeadDots", name := "dropOldest", desc := "()V" } : MethodName)) ∈ bigW := bw3 200 rfl rfl
set_option maxRecDepth 20000 in
theorem wd_682 : (Cond.instanceMethod ({ cls := "HeadDots", name := "dropOldest", desc := "()V" } : MethodName)) ∈ bigW := bw3 202 rfl rfl
set_option maxRecDepth 20000 in
theorem wd_683 : (Cond.code ({ cls := "HeadDots", name := "dropOldest", desc := "()V" } : MethodName) prog_1_method_26_code 3 (Option.none : Option ClassFile.FieldType)) ∈ bigW := bw3 203 rfl rfl
set_option maxRecDepth 20000 in
theorem wd_684 : (Cond.methodLink "HeadDots" 181 ({ cls := "HeadDots", name := "savedAt", desc := "(I)LHeadDots$State;" } : MethodName)) ∈ bigW := bw3 204 rfl rfl
set_option maxRecDepth 20000 in
theorem wd_686 : (Cond.instanceMethod ({ cls := "HeadDots", name := "savedAt", desc := "(I)LHeadDots$State;" } : MethodName)) ∈ bigW := bw3 206 rfl rfl
set_option maxRecDepth 20000 in
theorem wd_687 : (Cond.code ({ cls := "HeadDots", name := "savedAt", desc := "(I)LHeadDots$State;" } : MethodName) prog_1_method_27_code 2 (Option.some (ClassFile.FieldType.object "HeadDots$State"))) ∈ bigW := bw3 207 rfl rfl
set_option maxRecDepth 20000 in
theorem wd_688 : (Cond.methodLink "HeadDotsLaw" 82 ({ cls := "HeadDotsLaw", name := "lines", desc := "(LHeadDots;II[J)I" } : MethodName)) ∈ bigW := bw3 208 rfl rfl
set_option maxRecDepth 20000 in
theorem wd_689 : (Cond.static ({ cls := "HeadDotsLaw", name := "lines", desc := "(LHeadDots;II[J)I" } : MethodName)) ∈ bigW := bw3 209 rfl rfl
set_option maxRecDepth 20000 in
theorem wd_691 : (Cond.methodLink "HeadDotsLaw" 15 ({ cls := "HeadDots", name := "lines", desc := "(II)I" } : MethodName)) ∈ bigW := bw3 211 rfl rfl
set_option maxRecDepth 20000 in
theorem wd_692 : (Cond.instanceMethod ({ cls := "HeadDots", name := "lines", desc := "(II)I" } : MethodName)) ∈ bigW := bw3 212 rfl rfl
set_option maxRecDepth 20000 in
theorem wd_693 : (Cond.selects "HeadDots" ({ cls := "HeadDots", name := "lines", desc := "(II)I" } : MethodName) ({ cls := "HeadDots", name := "lines", desc := "(II)I" } : MethodName)) ∈ bigW := bw3 213 rfl rfl
set_option maxRecDepth 20000 in
theorem wd_694 : (Cond.code ({ cls := "HeadDots", name := "lines", desc := "(II)I" } : MethodName) prog_1_method_3_code 4 (Option.some ClassFile.FieldType.int)) ∈ bigW := bw3 214 rfl rfl
set_option maxRecDepth 20000 in
theorem wd_696 : (Cond.methodLink "HeadDots" 81 ({ cls := "HeadDots$State", name := "printLines", desc := "(II)V" } : MethodName)) ∈ bigW := bw3 216 rfl rfl
set_option maxRecDepth 20000 in
theorem wd_697 : (Cond.instanceMethod ({ cls := "HeadDots$State", name := "printLines", desc := "(II)V" } : MethodName)) ∈ bigW := bw3 217 rfl rfl
set_option maxRecDepth 20000 in
theorem wd_698 : (Cond.selects "HeadDots$State" ({ cls := "HeadDots$State", name := "printLines", desc := "(II)V" } : MethodName) ({ cls := "HeadDots$State", name := "printLines", desc := "(II)V" } : MethodName)) ∈ bigW := bw3 218 rfl rfl
set_option maxRecDepth 20000 in
theorem wd_699 : (Cond.code ({ cls := "HeadDots$State", name := "printLines", desc := "(II)V" } : MethodName) prog_4_method_6_code 4 (Option.none : Option ClassFile.FieldType)) ∈ bigW := bw3 219 rfl rfl
set_option maxRecDepth 20000 in
theorem wd_700 : (Cond.methodLink "HeadDots$State" 70 ({ cls := "HeadDots$State", name := "printLine", desc := "(I)I" } : MethodName)) ∈ bigW := bw3 220 rfl rfl
set_option maxRecDepth 20000 in
theorem wd_701 : (Cond.methodLink "HeadDotsLaw" 86 ({ cls := "HeadDotsLaw", name := "rest", desc := "(LHeadDots;I[J)I" } : MethodName)) ∈ bigW := bw3 221 rfl rfl
set_option maxRecDepth 20000 in
theorem wd_702 : (Cond.static ({ cls := "HeadDotsLaw", name := "rest", desc := "(LHeadDots;I[J)I" } : MethodName)) ∈ bigW := bw3 222 rfl rfl
set_option maxRecDepth 20000 in
theorem wd_704 : (Cond.methodLink "HeadDotsLaw" 19 ({ cls := "HeadDots", name := "rest", desc := "(I)I" } : MethodName)) ∈ bigW := bw3 224 rfl rfl
set_option maxRecDepth 20000 in
theorem wd_705 : (Cond.instanceMethod ({ cls := "HeadDots", name := "rest", desc := "(I)I" } : MethodName)) ∈ bigW := bw3 225 rfl rfl
set_option maxRecDepth 20000 in
theorem wd_706 : (Cond.selects "HeadDots" ({ cls := "HeadDots", name := "rest", desc := "(I)I" } : MethodName) ({ cls := "HeadDots", name := "rest", desc := "(I)I" } : MethodName)) ∈ bigW := bw3 226 rfl rfl
set_option maxRecDepth 20000 in
theorem wd_707 : (Cond.code ({ cls := "HeadDots", name := "rest", desc := "(I)I" } : MethodName) prog_1_method_4_code 2 (Option.some ClassFile.FieldType.int)) ∈ bigW := bw3 227 rfl rfl
set_option maxRecDepth 20000 in
theorem wd_709 : (Cond.methodLink "HeadDots" 87 ({ cls := "HeadDots$State", name := "passTime", desc := "(I)V" } : MethodName)) ∈ bigW := bw3 229 rfl rfl
set_option maxRecDepth 20000 in
theorem wd_710 : (Cond.methodLink "HeadDotsLaw" 89 ({ cls := "HeadDotsLaw", name := "paper", desc := "(LHeadDots;I[J)I" } : MethodName)) ∈ bigW := bw3 230 rfl rfl
set_option maxRecDepth 20000 in
theorem wd_711 : (Cond.static ({ cls := "HeadDotsLaw", name := "paper", desc := "(LHeadDots;I[J)I" } : MethodName)) ∈ bigW := bw3 231 rfl rfl
set_option maxRecDepth 20000 in
theorem wd_713 : (Cond.methodLink "HeadDotsLaw" 22 ({ cls := "HeadDots", name := "paper", desc := "(I)I" } : MethodName)) ∈ bigW := bw3 233 rfl rfl
set_option maxRecDepth 20000 in
theorem wd_714 : (Cond.instanceMethod ({ cls := "HeadDots", name := "paper", desc := "(I)I" } : MethodName)) ∈ bigW := bw3 234 rfl rfl
set_option maxRecDepth 20000 in
theorem wd_715 : (Cond.selects "HeadDots" ({ cls := "HeadDots", name := "paper", desc := "(I)I" } : MethodName) ({ cls := "HeadDots", name := "paper", desc := "(I)I" } : MethodName)) ∈ bigW := bw3 235 rfl rfl
set_option maxRecDepth 20000 in
theorem wd_716 : (Cond.code ({ cls := "HeadDots", name := "paper", desc := "(I)I" } : MethodName) prog_1_method_5_code 3 (Option.some ClassFile.FieldType.int)) ∈ bigW := bw3 236 rfl rfl
set_option maxRecDepth 20000 in
theorem wd_718 : (Cond.methodLink "HeadDots" 106 ({ cls := "HeadDots$State", name := "changePaper", desc := "(I)V" } : MethodName)) ∈ bigW := bw3 238 rfl rfl
set_option maxRecDepth 20000 in
theorem wd_719 : (Cond.instanceMethod ({ cls := "HeadDots$State", name := "changePaper", desc := "(I)V" } : MethodName)) ∈ bigW := bw3 239 rfl rfl
set_option maxRecDepth 20000 in
theorem wd_720 : (Cond.selects "HeadDots$State" ({ cls := "HeadDots$State", name := "changePaper", desc := "(I)V" } : MethodName) ({ cls := "HeadDots$State", name := "changePaper", desc := "(I)V" } : MethodName)) ∈ bigW := bw4 0 rfl rfl
set_option maxRecDepth 20000 in
theorem wd_721 : (Cond.code ({ cls := "HeadDots$State", name := "changePaper", desc := "(I)V" } : MethodName) prog_4_method_5_code 2 (Option.none : Option ClassFile.FieldType)) ∈ bigW := bw4 1 rfl rfl
set_option maxRecDepth 20000 in
theorem wd_722 : (Cond.methodLink "HeadDotsLaw" 92 ({ cls := "HeadDotsLaw", name := "set", desc := "(LHeadDots;II[J)I" } : MethodName)) ∈ bigW := bw4 2 rfl rfl
set_option maxRecDepth 20000 in
theorem wd_723 : (Cond.static ({ cls := "HeadDotsLaw", name := "set", desc := "(LHeadDots;II[J)I" } : MethodName)) ∈ bigW := bw4 3 rfl rfl
set_option maxRecDepth 20000 in
theorem wd_725 : (Cond.classLink "HeadDotsLaw" 28 "java/lang/IndexOutOfBoundsException") ∈ bigW := bw4 5 rfl rfl
set_option maxRecDepth 20000 in
theorem wd_726 : (Cond.methodLink "HeadDotsLaw" 25 ({ cls := "HeadDots", name := "set", desc := "(II)I" } : MethodName)) ∈ bigW := bw4 6 rfl rfl
set_option maxRecDepth 20000 in
theorem wd_727 : (Cond.instanceMethod ({ cls := "HeadDots", name := "set", desc := "(II)I" } : MethodName)) ∈ bigW := bw4 7 rfl rfl
set_option maxRecDepth 20000 in
theorem wd_728 : (Cond.selects "HeadDots" ({ cls := "HeadDots", name := "set", desc := "(II)I" } : MethodName) ({ cls := "HeadDots", name := "set", desc := "(II)I" } : MethodName)) ∈ bigW := bw4 8 rfl rfl
set_option maxRecDepth 20000 in
theorem wd_729 : (Cond.code ({ cls := "HeadDots", name := "set", desc := "(II)I" } : MethodName) prog_1_method_6_code 4 (Option.some ClassFile.FieldType.int)) ∈ bigW := bw4 9 rfl rfl
set_option maxRecDepth 20000 in
theorem wd_730 : (Cond.classLink "HeadDots" 109 "java/lang/IndexOutOfBoundsException") ∈ bigW := bw4 10 rfl rfl
set_option maxRecDepth 20000 in
theorem wd_731 : (Cond.instantiable "java/lang/IndexOutOfBoundsException" 6) ∈ bigW := bw4 11 rfl rfl
set_option maxRecDepth 20000 in
theorem wd_740 : (Cond.methodLink "HeadDots" 113 ({ cls := "java/lang/IndexOutOfBoundsException", name := "<init>", desc := "(Ljava/lang/String;)V" } : MethodName)) ∈ bigW := bw4 20 rfl rfl
set_option maxRecDepth 20000 in
theorem wd_741 : (Cond.instanceMethod ({ cls := "java/lang/IndexOutOfBoundsException", name := "<init>", desc := "(Ljava/lang/String;)V" } : MethodName)) ∈ bigW := bw4 21 rfl rfl
set_option maxRecDepth 20000 in
theorem wd_742 : (Cond.code ({ cls := "java/lang/IndexOutOfBoundsException", name := "<init>", desc := "(Ljava/lang/String;)V" } : MethodName) prog_14_method_2_code 2 (Option.none : Option ClassFile.FieldType)) ∈ bigW := bw4 22 rfl rfl
set_option maxRecDepth 20000 in
theorem wd_746 : (Cond.fieldLink "HeadDots" 114 "HeadDots" "SETTING_LEAST" "[I") ∈ bigW := bw4 26 rfl rfl
set_option maxRecDepth 20000 in
theorem wd_747 : (Cond.methodLink "HeadDots" 118 ({ cls := "HeadDots", name := "at", desc := "([II)I" } : MethodName)) ∈ bigW := bw4 27 rfl rfl
set_option maxRecDepth 20000 in
theorem wd_748 : (Cond.fieldLink "HeadDots" 122 "HeadDots" "SETTING_MOST" "[I") ∈ bigW := bw4 28 rfl rfl
set_option maxRecDepth 20000 in
theorem wd_750 : (Cond.methodLink "HeadDotsLaw" 95 ({ cls := "HeadDotsLaw", name := "append", desc := "(LHeadDots;I[J)I" } : MethodName)) ∈ bigW := bw4 30 rfl rfl
set_option maxRecDepth 20000 in
theorem wd_751 : (Cond.static ({ cls := "HeadDotsLaw", name := "append", desc := "(LHeadDots;I[J)I" } : MethodName)) ∈ bigW := bw4 31 rfl rfl
set_option maxRecDepth 20000 in
theorem wd_753 : (Cond.classLink "HeadDotsLaw" 33 "java/lang/IllegalStateException") ∈ bigW := bw4 33 rfl rfl
set_option maxRecDepth 20000 in
theorem wd_754 : (Cond.methodLink "HeadDotsLaw" 30 ({ cls := "HeadDots", name := "append", desc := "(I)I" } : MethodName)) ∈ bigW := bw4 34 rfl rfl
set_option maxRecDepth 20000 in
theorem wd_755 : (Cond.instanceMethod ({ cls := "HeadDots", name := "append", desc := "(I)I" } : MethodName)) ∈ bigW := bw4 35 rfl rfl
set_option maxRecDepth 20000 in
theorem wd_756 : (Cond.selects "HeadDots" ({ cls := "HeadDots", name := "append", desc := "(I)I" } : MethodName) ({ cls := "HeadDots", name := "append", desc := "(I)I" } : MethodName)) ∈ bigW := bw4 36 rfl rfl
set_option maxRecDepth 20000 in
theorem wd_757 : (Cond.code ({ cls := "HeadDots", name := "append", desc := "(I)I" } : MethodName) prog_1_method_7_code 2 (Option.some ClassFile.FieldType.int)) ∈ bigW := bw4 37 rfl rfl
set_option maxRecDepth 20000 in
theorem wd_759 : (Cond.methodLink "HeadDots" 134 ({ cls := "HeadDots$Buffer", name := "isFull", desc := "()Z" } : MethodName)) ∈ bigW := bw4 39 rfl rfl
set_option maxRecDepth 20000 in
theorem wd_760 : (Cond.instanceMethod ({ cls := "HeadDots$Buffer", name := "isFull", desc := "()Z" } : MethodName)) ∈ bigW := bw4 40 rfl rfl
set_option maxRecDepth 20000 in
theorem wd_761 : (Cond.selects "HeadDots$Buffer" ({ cls := "HeadDots$Buffer", name := "isFull", desc := "()Z" } : MethodName) ({ cls := "HeadDots$Buffer", name := "isFull", desc := "()Z" } : MethodName)) ∈ bigW := bw4 41 rfl rfl
set_option maxRecDepth 20000 in
theorem wd_762 : (Cond.code ({ cls := "HeadDots$Buffer", name := "isFull", desc := "()Z" } : MethodName) prog_2_method_2_code 1 (Option.some ClassFile.FieldType.boolean)) ∈ bigW := bw4 42 rfl rfl
set_option maxRecDepth 20000 in
theorem wd_763 : (Cond.classLink "HeadDots" 138 "java/lang/IllegalStateException") ∈ bigW := bw4 43 rfl rfl
set_option maxRecDepth 20000 in
theorem wd_764 : (Cond.instantiable "java/lang/IllegalStateException" 6) ∈ bigW := bw4 44 rfl rfl
set_option maxRecDepth 20000 in
theorem wd_773 : (Cond.methodLink "HeadDots" 142 ({ cls := "java/lang/IllegalStateException", name := "<init>", desc := "(Ljava/lang/String;)V" } : MethodName)) ∈ bigW := bw4 53 rfl rfl
set_option maxRecDepth 20000 in
theorem wd_774 : (Cond.instanceMethod ({ cls := "java/lang/IllegalStateException", name := "<init>", desc := "(Ljava/lang/String;)V" } : MethodName)) ∈ bigW := bw4 54 rfl rfl
set_option maxRecDepth 20000 in
theorem wd_775 : (Cond.code ({ cls := "java/lang/IllegalStateException", name := "<init>", desc := "(Ljava/lang/String;)V" } : MethodName) prog_13_method_2_code 2 (Option.none : Option ClassFile.FieldType)) ∈ bigW := bw4 55 rfl rfl
set_option maxRecDepth 20000 in
theorem wd_779 : (Cond.methodLink "HeadDots" 143 ({ cls := "HeadDots$Buffer", name := "addCode", desc := "(I)V" } : MethodName)) ∈ bigW := bw4 59 rfl rfl
set_option maxRecDepth 20000 in
theorem wd_780 : (Cond.instanceMethod ({ cls := "HeadDots$Buffer", name := "addCode", desc := "(I)V" } : MethodName)) ∈ bigW := bw4 60 rfl rfl
set_option maxRecDepth 20000 in
theorem wd_781 : (Cond.selects "HeadDots$Buffer" ({ cls := "HeadDots$Buffer", name := "addCode", desc := "(I)V" } : MethodName) ({ cls := "HeadDots$Buffer", name := "addCode", desc := "(I)V" } : MethodName)) ∈ bigW := bw4 61 rfl rfl
set_option maxRecDepth 20000 in
theorem wd_782 : (Cond.code ({ cls := "HeadDots$Buffer", name := "addCode", desc := "(I)V" } : MethodName) prog_2_method_3_code 2 (Option.none : Option ClassFile.FieldType)) ∈ bigW := bw4 62 rfl rfl
set_option maxRecDepth 20000 in
theorem wd_784 : (Cond.methodLink "HeadDotsLaw" 106 ({ cls := "HeadDotsLaw", name := "print", desc := "(LHeadDots;[J)I" } : MethodName)) ∈ bigW := bw4 64 rfl rfl
set_option maxRecDepth 20000 in
theorem wd_785 : (Cond.static ({ cls := "HeadDotsLaw", name := "print", desc := "(LHeadDots;[J)I" } : MethodName)) ∈ bigW := bw4 65 rfl rfl
set_option maxRecDepth 20000 in
theorem wd_787 : (Cond.methodLink "HeadDotsLaw" 35 ({ cls := "HeadDots", name := "print", desc := "()I" } : MethodName)) ∈ bigW := bw4 67 rfl rfl
set_option maxRecDepth 20000 in
theorem wd_788 : (Cond.instanceMethod ({ cls := "HeadDots", name := "print", desc := "()I" } : MethodName)) ∈ bigW := bw4 68 rfl rfl
set_option maxRecDepth 20000 in
theorem wd_789 : (Cond.selects "HeadDots" ({ cls := "HeadDots", name := "print", desc := "()I" } : MethodName) ({ cls := "HeadDots", name := "print", desc := "()I" } : MethodName)) ∈ bigW := bw4 69 rfl rfl
set_option maxRecDepth 20000 in
theorem wd_790 : (Cond.code ({ cls := "HeadDots", name := "print", desc := "()I" } : MethodName) prog_1_method_10_code 4 (Option.some ClassFile.FieldType.int)) ∈ bigW := bw4 70 rfl rfl
set_option maxRecDepth 20000 in
theorem wd_791 : (Cond.methodLink "HeadDots" 153 ({ cls := "HeadDots$Reader", name := "isComplete", desc := "()Z" } : MethodName)) ∈ bigW := bw4 71 rfl rfl
set_option maxRecDepth 20000 in
theorem wd_793 : (Cond.methodLink "HeadDots" 161 ({ cls := "HeadDots$Reader", name := "beginPart", desc := "()V" } : MethodName)) ∈ bigW := bw4 73 rfl rfl
set_option maxRecDepth 20000 in
theorem wd_794 : (Cond.methodLink "HeadDots" 167 ({ cls := "HeadDots", name := "printPartOfText", desc := "()V" } : MethodName)) ∈ bigW := bw4 74 rfl rfl
set_option maxRecDepth 20000 in
theorem wd_796 : (Cond.instanceMethod ({ cls := "HeadDots", name := "printPartOfText", desc := "()V" } : MethodName)) ∈ bigW := bw4 76 rfl rfl
set_option maxRecDepth 20000 in
theorem wd_797 : (Cond.code ({ cls := "HeadDots", name := "printPartOfText", desc := "()V" } : MethodName) prog_1_method_28_code 1 (Option.none : Option ClassFile.FieldType)) ∈ bigW := bw4 77 rfl rfl
set_option maxRecDepth 20000 in
theorem wd_798 : (Cond.methodLink "HeadDots" 275 Lib.Math.max.name) ∈ bigW := bw4 78 (by decide +kernel) (by decide +kernel)
set_option maxRecDepth 20000 in
theorem wd_799 : (Cond.methodLink "HeadDots" 170 ({ cls := "HeadDots$Reader", name := "take", desc := "(I)Z" } : MethodName)) ∈ bigW := bw4 79 rfl rfl
set_option maxRecDepth 20000 in
theorem wd_800 : (Cond.methodLink "HeadDotsLaw" 110 ({ cls := "HeadDotsLaw", name := "told", desc := "(LHeadDots;II[J)I" } : MethodName)) ∈ bigW := bw4 80 rfl rfl
set_option maxRecDepth 20000 in
theorem wd_801 : (Cond.static ({ cls := "HeadDotsLaw", name := "told", desc := "(LHeadDots;II[J)I" } : MethodName)) ∈ bigW := bw4 81 rfl rfl
set_option maxRecDepth 20000 in
theorem wd_803 : (Cond.methodLink "HeadDotsLaw" 39 ({ cls := "HeadDots", name := "told", desc := "(II)I" } : MethodName)) ∈ bigW := bw4 83 rfl rfl
set_option maxRecDepth 20000 in
theorem wd_804 : (Cond.instanceMethod ({ cls := "HeadDots", name := "told", desc := "(II)I" } : MethodName)) ∈ bigW := bw4 84 rfl rfl
set_option maxRecDepth 20000 in
theorem wd_805 : (Cond.selects "HeadDots" ({ cls := "HeadDots", name := "told", desc := "(II)I" } : MethodName) ({ cls := "HeadDots", name := "told", desc := "(II)I" } : MethodName)) ∈ bigW := bw4 85 rfl rfl
set_option maxRecDepth 20000 in
theorem wd_806 : (Cond.code ({ cls := "HeadDots", name := "told", desc := "(II)I" } : MethodName) prog_1_method_11_code 3 (Option.some ClassFile.FieldType.int)) ∈ bigW := bw4 86 rfl rfl
set_option maxRecDepth 20000 in
theorem wd_808 : (Cond.methodLink "HeadDotsLaw" 113 ({ cls := "HeadDotsLaw", name := "undo", desc := "(LHeadDots;[J)I" } : MethodName)) ∈ bigW := bw4 88 rfl rfl
set_option maxRecDepth 20000 in
theorem wd_809 : (Cond.static ({ cls := "HeadDotsLaw", name := "undo", desc := "(LHeadDots;[J)I" } : MethodName)) ∈ bigW := bw4 89 rfl rfl
set_option maxRecDepth 20000 in
theorem wd_811 : (Cond.methodLink "HeadDotsLaw" 42 ({ cls := "HeadDots", name := "undo", desc := "()I" } : MethodName)) ∈ bigW := bw4 91 rfl rfl
set_option maxRecDepth 20000 in
theorem wd_812 : (Cond.instanceMethod ({ cls := "HeadDots", name := "undo", desc := "()I" } : MethodName)) ∈ bigW := bw4 92 rfl rfl
set_option maxRecDepth 20000 in
theorem wd_813 : (Cond.selects "HeadDots" ({ cls := "HeadDots", name := "undo", desc := "()I" } : MethodName) ({ cls := "HeadDots", name := "undo", desc := "()I" } : MethodName)) ∈ bigW := bw4 93 rfl rfl
set_option maxRecDepth 20000 in
theorem wd_814 : (Cond.code ({ cls := "HeadDots", name := "undo", desc := "()I" } : MethodName) prog_1_method_12_code 2 (Option.some ClassFile.FieldType.int)) ∈ bigW := bw4 94 rfl rfl
set_option maxRecDepth 20000 in
theorem wd_816 : (Cond.methodLink "HeadDotsLaw" 120 ({ cls := "HeadDotsLaw", name := "restore", desc := "(LHeadDots;[J)I" } : MethodName)) ∈ bigW := bw4 96 rfl rfl
set_option maxRecDepth 20000 in
theorem wd_817 : (Cond.static ({ cls := "HeadDotsLaw", name := "restore", desc := "(LHeadDots;[J)I" } : MethodName)) ∈ bigW := bw4 97 rfl rfl
set_option maxRecDepth 20000 in
theorem wd_819 : (Cond.methodLink "HeadDotsLaw" 45 ({ cls := "HeadDots", name := "restore", desc := "()I" } : MethodName)) ∈ bigW := bw4 99 rfl rfl
set_option maxRecDepth 20000 in
theorem wd_820 : (Cond.instanceMethod ({ cls := "HeadDots", name := "restore", desc := "()I" } : MethodName)) ∈ bigW := bw4 100 rfl rfl
set_option maxRecDepth 20000 in
theorem wd_821 : (Cond.selects "HeadDots" ({ cls := "HeadDots", name := "restore", desc := "()I" } : MethodName) ({ cls := "HeadDots", name := "restore", desc := "()I" } : MethodName)) ∈ bigW := bw4 101 rfl rfl
set_option maxRecDepth 20000 in
theorem wd_822 : (Cond.code ({ cls := "HeadDots", name := "restore", desc := "()I" } : MethodName) prog_1_method_14_code 1 (Option.some ClassFile.FieldType.int)) ∈ bigW := bw4 102 rfl rfl
set_option maxRecDepth 20000 in
theorem wd_824 : (Cond.methodLink "HeadDotsLaw" 123 ({ cls := "HeadDotsLaw", name := "dot", desc := "(LHeadDots;II[J)I" } : MethodName)) ∈ bigW := bw4 104 rfl rfl
set_option maxRecDepth 20000 in
theorem wd_825 : (Cond.static ({ cls := "HeadDotsLaw", name := "dot", desc := "(LHeadDots;II[J)I" } : MethodName)) ∈ bigW := bw4 105 rfl rfl
set_option maxRecDepth 20000 in
theorem wd_827 : (Cond.methodLink "HeadDotsLaw" 48 ({ cls := "HeadDots", name := "dot", desc := "(II)I" } : MethodName)) ∈ bigW := bw4 107 rfl rfl
set_option maxRecDepth 20000 in
theorem wd_828 : (Cond.instanceMethod ({ cls := "HeadDots", name := "dot", desc := "(II)I" } : MethodName)) ∈ bigW := bw4 108 rfl rfl
set_option maxRecDepth 20000 in
theorem wd_829 : (Cond.selects "HeadDots" ({ cls := "HeadDots", name := "dot", desc := "(II)I" } : MethodName) ({ cls := "HeadDots", name := "dot", desc := "(II)I" } : MethodName)) ∈ bigW := bw4 109 rfl rfl
set_option maxRecDepth 20000 in
theorem wd_830 : (Cond.code ({ cls := "HeadDots", name := "dot", desc := "(II)I" } : MethodName) prog_1_method_15_code 3 (Option.some ClassFile.FieldType.int)) ∈ bigW := bw4 110 rfl rfl
set_option maxRecDepth 20000 in
theorem wd_831 : (Cond.methodLink "HeadDots" 191 ({ cls := "HeadDots", name := "isDot", desc := "(I)Z" } : MethodName)) ∈ bigW := bw4 111 rfl rfl
set_option maxRecDepth 20000 in
theorem wd_832 : (Cond.static ({ cls := "HeadDots", name := "isDot", desc := "(I)Z" } : MethodName)) ∈ bigW := bw4 112 rfl rfl
set_option maxRecDepth 20000 in
theorem wd_833 : (Cond.code ({ cls := "HeadDots", name := "isDot", desc := "(I)Z" } : MethodName) prog_1_method_42_code 1 (Option.some ClassFile.FieldType.boolean)) ∈ bigW := bw4 113 rfl rfl
set_option maxRecDepth 20000 in
theorem wd_836 : (Cond.methodLink "HeadDotsLaw" 126 ({ cls := "HeadDotsLaw", name := "kept", desc := "(LHeadDots;II[J)I" } : MethodName)) ∈ bigW := bw4 116 rfl rfl
set_option maxRecDepth 20000 in
theorem wd_837 : (Cond.static ({ cls := "HeadDotsLaw", name := "kept", desc := "(LHeadDots;II[J)I" } : MethodName)) ∈ bigW := bw4 117 rfl rfl
set_option maxRecDepth 20000 in
theorem wd_839 : (Cond.methodLink "HeadDotsLaw" 51 ({ cls := "HeadDots", name := "kept", desc := "(II)I" } : MethodName)) ∈ bigW := bw4 119 rfl rfl
set_option maxRecDepth 20000 in
theorem wd_840 : (Cond.instanceMethod ({ cls := "HeadDots", name := "kept", desc := "(II)I" } : MethodName)) ∈ bigW := bw4 120 rfl rfl
set_option maxRecDepth 20000 in
theorem wd_841 : (Cond.selects "HeadDots" ({ cls := "HeadDots", name := "kept", desc := "(II)I" } : MethodName) ({ cls := "HeadDots", name := "kept", desc := "(II)I" } : MethodName)) ∈ bigW := bw4 121 rfl rfl
set_option maxRecDepth 20000 in
theorem wd_842 : (Cond.code ({ cls := "HeadDots", name := "kept", desc := "(II)I" } : MethodName) prog_1_method_16_code 3 (Option.some ClassFile.FieldType.int)) ∈ bigW := bw4 122 rfl rfl
set_option maxRecDepth 20000 in
theorem wd_844 : (Cond.methodLink "HeadDotsLaw" 129 ({ cls := "HeadDotsLaw", name := "count", desc := "(LHeadDots;I[J)I" } : MethodName)) ∈ bigW := bw4 124 rfl rfl
set_option maxRecDepth 20000 in
theorem wd_845 : (Cond.static ({ cls := "HeadDotsLaw", name := "count", desc := "(LHeadDots;I[J)I" } : MethodName)) ∈ bigW := bw4 125 rfl rfl
set_option maxRecDepth 20000 in
theorem wd_847 : (Cond.methodLink "HeadDotsLaw" 54 ({ cls := "HeadDots", name := "count", desc := "(I)I" } : MethodName)) ∈ bigW := bw4 127 rfl rfl
set_option maxRecDepth 20000 in
theorem wd_848 : (Cond.instanceMethod ({ cls := "HeadDots", name := "count", desc := "(I)I" } : MethodName)) ∈ bigW := bw4 128 rfl rfl
set_option maxRecDepth 20000 in
theorem wd_849 : (Cond.selects "HeadDots" ({ cls := "HeadDots", name := "count", desc := "(I)I" } : MethodName) ({ cls := "HeadDots", name := "count", desc := "(I)I" } : MethodName)) ∈ bigW := bw4 129 rfl rfl
set_option maxRecDepth 20000 in
theorem wd_850 : (Cond.code ({ cls := "HeadDots", name := "count", desc := "(I)I" } : MethodName) prog_1_method_17_code 2 (Option.some ClassFile.FieldType.int)) ∈ bigW := bw4 130 rfl rfl
set_option maxRecDepth 20000 in
theorem wd_851 : (Cond.methodLink "HeadDotsLaw" 132 ({ cls := "HeadDotsLaw", name := "ifPrinted", desc := "(LHeadDots;II[J)I" } : MethodName)) ∈ bigW := bw4 131 rfl rfl
set_option maxRecDepth 20000 in
theorem wd_852 : (Cond.static ({ cls := "HeadDotsLaw", name := "ifPrinted", desc := "(LHeadDots;II[J)I" } : MethodName)) ∈ bigW := bw4 132 rfl rfl
set_option maxRecDepth 20000 in
theorem wd_854 : (Cond.methodLink "HeadDotsLaw" 57 ({ cls := "HeadDots", name := "ifPrinted", desc := "(II)I" } : MethodName)) ∈ bigW := bw4 134 rfl rfl
set_option maxRecDepth 20000 in
theorem wd_855 : (Cond.instanceMethod ({ cls := "HeadDots", name := "ifPrinted", desc := "(II)I" } : MethodName)) ∈ bigW := bw4 135 rfl rfl
set_option maxRecDepth 20000 in
theorem wd_856 : (Cond.selects "HeadDots" ({ cls := "HeadDots", name := "ifPrinted", desc := "(II)I" } : MethodName) ({ cls := "HeadDots", name := "ifPrinted", desc := "(II)I" } : MethodName)) ∈ bigW := bw4 136 rfl rfl
set_option maxRecDepth 20000 in
theorem wd_857 : (Cond.code ({ cls := "HeadDots", name := "ifPrinted", desc := "(II)I" } : MethodName) prog_1_method_18_code 3 (Option.some ClassFile.FieldType.int)) ∈ bigW := bw4 137 rfl rfl
set_option maxRecDepth 20000 in
theorem wd_859 : (Cond.methodLink "HeadDotsLaw" 135 ({ cls := "HeadDotsLaw", name := "betterWay", desc := "(LHeadDots;I[J)I" } : MethodName)) ∈ bigW := bw4 139 rfl rfl
set_option maxRecDepth 20000 in
theorem wd_860 : (Cond.static ({ cls := "HeadDotsLaw", name := "betterWay", desc := "(LHeadDots;I[J)I" } : MethodName)) ∈ bigW := bw4 140 rfl rfl
set_option maxRecDepth 20000 in
theorem wd_862 : (Cond.methodLink "HeadDotsLaw" 60 ({ cls := "HeadDots", name := "betterWay", desc := "(I)I" } : MethodName)) ∈ bigW := bw4 142 rfl rfl
set_option maxRecDepth 20000 in
theorem wd_863 : (Cond.instanceMethod ({ cls := "HeadDots", name := "betterWay", desc := "(I)I" } : MethodName)) ∈ bigW := bw4 143 rfl rfl
set_option maxRecDepth 20000 in
theorem wd_864 : (Cond.selects "HeadDots" ({ cls := "HeadDots", name := "betterWay", desc := "(I)I" } : MethodName) ({ cls := "HeadDots", name := "betterWay", desc := "(I)I" } : MethodName)) ∈ bigW := bw4 144 rfl rfl
set_option maxRecDepth 20000 in
theorem wd_865 : (Cond.code ({ cls := "HeadDots", name := "betterWay", desc := "(I)I" } : MethodName) prog_1_method_19_code 2 (Option.some ClassFile.FieldType.int)) ∈ bigW := bw4 145 rfl rfl
set_option maxRecDepth 20000 in
theorem wd_866 : (Cond.methodLink "HeadDotsLaw" 138 ({ cls := "HeadDotsLaw", name := "coolIn", desc := "(LHeadDots;I[J)I" } : MethodName)) ∈ bigW := bw4 146 rfl rfl
set_option maxRecDepth 20000 in
theorem wd_867 : (Cond.static ({ cls := "HeadDotsLaw", name := "coolIn", desc := "(LHeadDots;I[J)I" } : MethodName)) ∈ bigW := bw4 147 rfl rfl
set_option maxRecDepth 20000 in
theorem wd_869 : (Cond.methodLink "HeadDotsLaw" 63 ({ cls := "HeadDots", name := "coolIn", desc := "(I)I" } : MethodName)) ∈ bigW := bw4 149 rfl rfl
set_option maxRecDepth 20000 in
theorem wd_870 : (Cond.instanceMethod ({ cls := "HeadDots", name := "coolIn", desc := "(I)I" } : MethodName)) ∈ bigW := bw4 150 rfl rfl
set_option maxRecDepth 20000 in
theorem wd_871 : (Cond.selects "HeadDots" ({ cls := "HeadDots", name := "coolIn", desc := "(I)I" } : MethodName) ({ cls := "HeadDots", name := "coolIn", desc := "(I)I" } : MethodName)) ∈ bigW := bw4 151 rfl rfl
set_option maxRecDepth 20000 in
theorem wd_872 : (Cond.code ({ cls := "HeadDots", name := "coolIn", desc := "(I)I" } : MethodName) prog_1_method_20_code 2 (Option.some ClassFile.FieldType.int)) ∈ bigW := bw4 152 rfl rfl
set_option maxRecDepth 20000 in
theorem wd_874 : (Cond.methodLink "HeadDotsLaw" 141 ({ cls := "HeadDotsLaw", name := "darkFrom", desc := "(LHeadDots;I[J)I" } : MethodName)) ∈ bigW := bw4 154 rfl rfl
set_option maxRecDepth 20000 in
theorem wd_875 : (Cond.static ({ cls := "HeadDotsLaw", name := "darkFrom", desc := "(LHeadDots;I[J)I" } : MethodName)) ∈ bigW := bw4 155 rfl rfl
set_option maxRecDepth 20000 in
theorem wd_877 : (Cond.methodLink "HeadDotsLaw" 66 ({ cls := "HeadDots", name := "darkFrom", desc := "(I)I" } : MethodName)) ∈ bigW := bw4 157 rfl rfl
set_option maxRecDepth 20000 in
theorem wd_878 : (Cond.instanceMethod ({ cls := "HeadDots", name := "darkFrom", desc := "(I)I" } : MethodName)) ∈ bigW := bw4 158 rfl rfl
set_option maxRecDepth 20000 in
theorem wd_879 : (Cond.selects "HeadDots" ({ cls := "HeadDots", name := "darkFrom", desc := "(I)I" } : MethodName) ({ cls := "HeadDots", name := "darkFrom", desc := "(I)I" } : MethodName)) ∈ bigW := bw4 159 rfl rfl
set_option maxRecDepth 20000 in
theorem wd_880 : (Cond.code ({ cls := "HeadDots", name := "darkFrom", desc := "(I)I" } : MethodName) prog_1_method_21_code 2 (Option.some ClassFile.FieldType.int)) ∈ bigW := bw4 160 rfl rfl
set_option maxRecDepth 20000 in
theorem wd_881 : (Cond.classLink "HeadDotsLaw" 70 "HeadDotsModel") ∈ bigW := bw4 161 rfl rfl
set_option maxRecDepth 20000 in
theorem wd_882 : (Cond.instantiable "HeadDotsModel" 18) ∈ bigW := bw4 162 rfl rfl
set_option maxRecDepth 20000 in
theorem wd_883 : (Cond.methodLink "HeadDotsLaw" 72 ({ cls := "HeadDotsModel", name := "<init>", desc := "()V" } : MethodName)) ∈ bigW := bw4 163 rfl rfl
set_option maxRecDepth 20000 in
theorem wd_884 : (Cond.instanceMethod ({ cls := "HeadDotsModel", name := "<init>", desc := "()V" } : MethodName)) ∈ bigW := bw4 164 rfl rfl
set_option maxRecDepth 20000 in
theorem wd_885 : (Cond.code ({ cls := "HeadDotsModel", name := "<init>", desc := "()V" } : MethodName) prog_8_method_1_code 1 (Option.none : Option ClassFile.FieldType)) ∈ bigW := bw4 165 rfl rfl
set_option maxRecDepth 20000 in
theorem wd_886 : (Cond.methodLink "HeadDotsModel" 1 ({ cls := "java/lang/Object", name := "<init>", desc := "()V" } : MethodName)) ∈ bigW := bw4 166 rfl rfl
set_option maxRecDepth 20000 in
theorem wd_887 : (Cond.fieldLink "HeadDotsModel" 7 "HeadDotsModel" "row" "[I") ∈ bigW := bw4 167 rfl rfl
set_option maxRecDepth 20000 in
theorem wd_888 : (Cond.fieldLink "HeadDotsModel" 13 "HeadDotsModel" "saved" "[I") ∈ bigW := bw4 168 rfl rfl
set_option maxRecDepth 20000 in
theorem wd_889 : (Cond.fieldLink "HeadDotsModel" 43 "HeadDotsModel" "savedMany" "I") ∈ bigW := bw4 169 rfl rfl
set_option maxRecDepth 20000 in
theorem wd_890 : (Cond.fieldLink "HeadDotsModel" 16 "HeadDotsModel" "snapshot" "[I") ∈ bigW := bw4 170 rfl rfl
set_option maxRecDepth 20000 in
theorem wd_891 : (Cond.fieldLink "HeadDotsModel" 50 "HeadDotsModel" "isKept" "Z") ∈ bigW := bw4 171 rfl rfl
set_option maxRecDepth 20000 in
theorem wd_892 : (Cond.fieldLink "HeadDotsModel" 19 "HeadDotsModel" "aside" "[I") ∈ bigW := bw4 172 rfl rfl
set_option maxRecDepth 20000 in
theorem wd_893 : (Cond.fieldLink "HeadDotsModel" 34 "HeadDotsModel" "thrown" "I") ∈ bigW := bw4 173 rfl rfl
set_option maxRecDepth 20000 in
theorem wd_894 : (Cond.fieldLink "HeadDotsModel" 90 "HeadDotsModel" "waits" "I") ∈ bigW := bw4 174 rfl rfl
set_option maxRecDepth 20000 in
theorem wd_895 : (Cond.fieldLink "HeadDotsModel" 87 "HeadDotsModel" "dark" "I") ∈ bigW := bw4 175 rfl rfl
set_option maxRecDepth 20000 in
theorem wd_896 : (Cond.fieldLink "HeadDotsModel" 81 "HeadDotsModel" "hottest" "I") ∈ bigW := bw4 176 rfl rfl
set_option maxRecDepth 20000 in
theorem wd_897 : (Cond.fieldLink "HeadDotsModel" 22 "HeadDotsModel" "buffer" "[I") ∈ bigW := bw4 177 rfl rfl
set_option maxRecDepth 20000 in
theorem wd_898 : (Cond.fieldLink "HeadDotsModel" 133 "HeadDotsModel" "length" "I") ∈ bigW := bw4 178 rfl rfl
set_option maxRecDepth 20000 in
theorem wd_899 : (Cond.fieldLink "HeadDotsModel" 136 "HeadDotsModel" "spot" "I") ∈ bigW := bw4 179 rfl rfl
set_option maxRecDepth 20000 in
theorem wd_900 : (Cond.fieldLink "HeadDotsModel" 145 "HeadDotsModel" "parts" "I") ∈ bigW := bw4 180 rfl rfl
set_option maxRecDepth 20000 in
theorem wd_901 : (Cond.fieldLink "HeadDotsModel" 25 "HeadDotsModel" "kind" "[I") ∈ bigW := bw4 181 rfl rfl
set_option maxRecDepth 20000 in
theorem wd_902 : (Cond.fieldLink "HeadDotsModel" 28 "HeadDotsModel" "what" "[I") ∈ bigW := bw4 182 rfl rfl
set_option maxRecDepth 20000 in
theorem wd_903 : (Cond.fieldLink "HeadDotsModel" 31 "HeadDotsModel" "times" "[I") ∈ bigW := bw4 183 rfl rfl
set_option maxRecDepth 20000 in
theorem wd_904 : (Cond.fieldLink "HeadDotsModel" 218 "HeadDotsModel" "hash" "J") ∈ bigW := bw4 184 rfl rfl
set_option maxRecDepth 20000 in
theorem wd_905 : (Cond.laysFinal "HeadDotsModel" "HeadDotsModel" "row" "[I") ∈ bigW := bw4 185 rfl rfl
set_option maxRecDepth 20000 in
theorem wd_907 : (Cond.laysFinal "HeadDotsModel" "HeadDotsModel" "saved" "[I") ∈ bigW := bw4 187 rfl rfl
set_option maxRecDepth 20000 in
theorem wd_909 : (Cond.lays "HeadDotsModel" "HeadDotsModel" "savedMany" "I") ∈ bigW := bw4 189 rfl rfl
set_option maxRecDepth 20000 in
theorem wd_911 : (Cond.laysFinal "HeadDotsModel" "HeadDotsModel" "snapshot" "[I") ∈ bigW := bw4 191 rfl rfl
set_option maxRecDepth 20000 in
theorem wd_913 : (Cond.lays "HeadDotsModel" "HeadDotsModel" "isKept" "Z") ∈ bigW := bw4 193 rfl rfl
set_option maxRecDepth 20000 in
theorem wd_915 : (Cond.laysFinal "HeadDotsModel" "HeadDotsModel" "aside" "[I") ∈ bigW := bw4 195 rfl rfl
set_option maxRecDepth 20000 in
theorem wd_917 : (Cond.lays "HeadDotsModel" "HeadDotsModel" "thrown" "I") ∈ bigW := bw4 197 rfl rfl
set_option maxRecDepth 20000 in
theorem wd_919 : (Cond.lays "HeadDotsModel" "HeadDotsModel" "waits" "I") ∈ bigW := bw4 199 rfl rfl
set_option maxRecDepth 20000 in
theorem wd_921 : (Cond.lays "HeadDotsModel" "HeadDotsModel" "dark" "I") ∈ bigW := bw4 201 rfl rfl
set_option maxRecDepth 20000 in
theorem wd_923 : (Cond.lays "HeadDotsModel" "HeadDotsModel" "hottest" "I") ∈ bigW := bw4 203 rfl rfl
set_option maxRecDepth 20000 in
theorem wd_925 : (Cond.laysFinal "HeadDotsModel" "HeadDotsModel" "buffer" "[I") ∈ bigW := bw4 205 rfl rfl
set_option maxRecDepth 20000 in
theorem wd_927 : (Cond.lays "HeadDotsModel" "HeadDotsModel" "length" "I") ∈ bigW := bw4 207 rfl rfl
set_option maxRecDepth 20000 in
theorem wd_929 : (Cond.lays "HeadDotsModel" "HeadDotsModel" "spot" "I") ∈ bigW := bw4 209 rfl rfl
set_option maxRecDepth 20000 in
theorem wd_931 : (Cond.lays "HeadDotsModel" "HeadDotsModel" "parts" "I") ∈ bigW := bw4 211 rfl rfl
set_option maxRecDepth 20000 in
theorem wd_933 : (Cond.laysFinal "HeadDotsModel" "HeadDotsModel" "kind" "[I") ∈ bigW := bw4 213 rfl rfl
set_option maxRecDepth 20000 in
theorem wd_935 : (Cond.laysFinal "HeadDotsModel" "HeadDotsModel" "what" "[I") ∈ bigW := bw4 215 rfl rfl
set_option maxRecDepth 20000 in
theorem wd_937 : (Cond.laysFinal "HeadDotsModel" "HeadDotsModel" "times" "[I") ∈ bigW := bw4 217 rfl rfl
set_option maxRecDepth 20000 in
theorem wd_939 : (Cond.lays "HeadDotsModel" "HeadDotsModel" "hash" "J") ∈ bigW := bw4 219 rfl rfl
set_option maxRecDepth 20000 in
theorem wd_942 : (Cond.methodLink "HeadDotsLaw" 79 ({ cls := "HeadDotsModel", name := "thrown", desc := "()I" } : MethodName)) ∈ bigW := bw4 222 rfl rfl
set_option maxRecDepth 20000 in
theorem wd_943 : (Cond.instanceMethod ({ cls := "HeadDotsModel", name := "thrown", desc := "()I" } : MethodName)) ∈ bigW := bw4 223 rfl rfl
set_option maxRecDepth 20000 in
theorem wd_944 : (Cond.selects "HeadDotsModel" ({ cls := "HeadDotsModel", name := "thrown", desc := "()I" } : MethodName) ({ cls := "HeadDotsModel", name := "thrown", desc := "()I" } : MethodName)) ∈ bigW := bw4 224 rfl rfl
set_option maxRecDepth 20000 in
theorem wd_945 : (Cond.code ({ cls := "HeadDotsModel", name := "thrown", desc := "()I" } : MethodName) prog_8_method_2_code 1 (Option.some ClassFile.FieldType.int)) ∈ bigW := bw4 225 rfl rfl
set_option maxRecDepth 20000 in
theorem wd_946 : (Cond.methodLink "HeadDotsLaw" 115 ({ cls := "HeadDotsModel", name := "undo", desc := "()I" } : MethodName)) ∈ bigW := bw4 226 rfl rfl
set_option maxRecDepth 20000 in
theorem wd_947 : (Cond.instanceMethod ({ cls := "HeadDotsModel", name := "undo", desc := "()I" } : MethodName)) ∈ bigW := bw4 227 rfl rfl
set_option maxRecDepth 20000 in
theorem wd_948 : (Cond.selects "HeadDotsModel" ({ cls := "HeadDotsModel", name := "undo", desc := "()I" } : MethodName) ({ cls := "HeadDotsModel", name := "undo", desc := "()I" } : MethodName)) ∈ bigW := bw4 228 rfl rfl
set_option maxRecDepth 20000 in
theorem wd_949 : (Cond.code ({ cls := "HeadDotsModel", name := "undo", desc := "()I" } : MethodName) prog_8_method_9_code 2 (Option.some ClassFile.FieldType.int)) ∈ bigW := bw4 229 rfl rfl
set_option maxRecDepth 20000 in
theorem wd_950 : (Cond.methodLink "HeadDotsModel" 46 ({ cls := "HeadDotsModel", name := "fails", desc := "(I)I" } : MethodName)) ∈ bigW := bw4 230 rfl rfl
set_option maxRecDepth 20000 in
theorem wd_952 : (Cond.instanceMethod ({ cls := "HeadDotsModel", name := "fails", desc := "(I)I" } : MethodName)) ∈ bigW := bw4 232 rfl rfl
set_option maxRecDepth 20000 in
theorem wd_953 : (Cond.code ({ cls := "HeadDotsModel", name := "fails", desc := "(I)I" } : MethodName) prog_8_method_3_code 2 (Option.some ClassFile.FieldType.int)) ∈ bigW := bw4 233 rfl rfl
set_option maxRecDepth 20000 in
theorem wd_954 : (Cond.methodLink "HeadDotsLaw" 119 ({ cls := "HeadDotsModel", name := "keep", desc := "()I" } : MethodName)) ∈ bigW := bw4 234 rfl rfl
set_option maxRecDepth 20000 in
theorem wd_955 : (Cond.instanceMethod ({ cls := "HeadDotsModel", name := "keep", desc := "()I" } : MethodName)) ∈ bigW := bw4 235 rfl rfl
set_option maxRecDepth 20000 in
theorem wd_956 : (Cond.selects "HeadDotsModel" ({ cls := "HeadDotsModel", name := "keep", desc := "()I" } : MethodName) ({ cls := "HeadDotsModel", name := "keep", desc := "()I" } : MethodName)) ∈ bigW := bw4 236 rfl rfl
set_option maxRecDepth 20000 in
theorem wd_957 : (Cond.code ({ cls := "HeadDotsModel", name := "keep", desc := "()I" } : MethodName) prog_8_method_10_code 2 (Option.some ClassFile.FieldType.int)) ∈ bigW := bw4 237 rfl rfl
set_option maxRecDepth 20000 in
theorem wd_958 : (Cond.methodLink "HeadDotsLaw" 122 ({ cls := "HeadDotsModel", name := "restore", desc := "()I" } : MethodName)) ∈ bigW := bw4 238 rfl rfl
set_option maxRecDepth 20000 in
theorem wd_959 : (Cond.instanceMethod ({ cls := "HeadDotsModel", name := "restore", desc := "()I" } : MethodName)) ∈ bigW := bw4 239 rfl rfl
set_option maxRecDepth 20000 in
theorem wd_960 : (Cond.selects "HeadDotsModel" ({ cls := "HeadDotsModel", name := "restore", desc := "()I" } : MethodName) ({ cls := "HeadDotsModel", name := "restore", desc := "()I" } : MethodName)) ∈ bigW := bw5 0 rfl rfl
set_option maxRecDepth 20000 in
theorem wd_961 : (Cond.code ({ cls := "HeadDotsModel", name := "restore", desc := "()I" } : MethodName) prog_8_method_11_code 2 (Option.some ClassFile.FieldType.int)) ∈ bigW := bw5 1 rfl rfl
set_option maxRecDepth 20000 in
theorem wd_962 : (Cond.methodLink "HeadDotsModel" 54 ({ cls := "HeadDotsModel", name := "save", desc := "()V" } : MethodName)) ∈ bigW := bw5 2 rfl rfl
set_option maxRecDepth 20000 in
theorem wd_964 : (Cond.instanceMethod ({ cls := "HeadDotsModel", name := "save", desc := "()V" } : MethodName)) ∈ bigW := bw5 4 rfl rfl
set_option maxRecDepth 20000 in
theorem wd_965 : (Cond.code ({ cls := "HeadDotsModel", name := "save", desc := "()V" } : MethodName) prog_8_method_6_code 2 (Option.none : Option ClassFile.FieldType)) ∈ bigW := bw5 5 rfl rfl
set_option maxRecDepth 20000 in
theorem wd_966 : (Cond.methodLink "HeadDotsLaw" 78 ({ cls := "HeadDotsModel", name := "line", desc := "(I)I" } : MethodName)) ∈ bigW := bw5 6 rfl rfl
set_option maxRecDepth 20000 in
theorem wd_967 : (Cond.instanceMethod ({ cls := "HeadDotsModel", name := "line", desc := "(I)I" } : MethodName)) ∈ bigW := bw5 7 rfl rfl
set_option maxRecDepth 20000 in
theorem wd_968 : (Cond.selects "HeadDotsModel" ({ cls := "HeadDotsModel", name := "line", desc := "(I)I" } : MethodName) ({ cls := "HeadDotsModel", name := "line", desc := "(I)I" } : MethodName)) ∈ bigW := bw5 8 rfl rfl
set_option maxRecDepth 20000 in
theorem wd_969 : (Cond.code ({ cls := "HeadDotsModel", name := "line", desc := "(I)I" } : MethodName) prog_8_method_28_code 2 (Option.some ClassFile.FieldType.int)) ∈ bigW := bw5 9 rfl rfl
set_option maxRecDepth 20000 in
theorem wd_970 : (Cond.methodLink "HeadDotsModel" 111 ({ cls := "HeadDotsModel", name := "isLine", desc := "(I)Z" } : MethodName)) ∈ bigW := bw5 10 rfl rfl
set_option maxRecDepth 20000 in
theorem wd_971 : (Cond.static ({ cls := "HeadDotsModel", name := "isLine", desc := "(I)Z" } : MethodName)) ∈ bigW := bw5 11 rfl rfl
set_option maxRecDepth 20000 in
theorem wd_972 : (Cond.code ({ cls := "HeadDotsModel", name := "isLine", desc := "(I)Z" } : MethodName) prog_8_method_5_code 1 (Option.some ClassFile.FieldType.boolean)) ∈ bigW := bw5 12 rfl rfl
set_option maxRecDepth 20000 in
theorem wd_973 : (Cond.constant "HeadDotsModel" 38 (16777215 : Int32)) ∈ bigW := bw5 13 rfl rfl
set_option maxRecDepth 20000 in
theorem wd_974 : (Cond.methodLink "HeadDotsModel" 39 ({ cls := "HeadDotsModel", name := "in", desc := "(III)Z" } : MethodName)) ∈ bigW := bw5 14 rfl rfl
set_option maxRecDepth 20000 in
theorem wd_975 : (Cond.static ({ cls := "HeadDotsModel", name := "in", desc := "(III)Z" } : MethodName)) ∈ bigW := bw5 15 rfl rfl
set_option maxRecDepth 20000 in
theorem wd_976 : (Cond.code ({ cls := "HeadDotsModel", name := "in", desc := "(III)Z" } : MethodName) prog_8_method_4_code 3 (Option.some ClassFile.FieldType.boolean)) ∈ bigW := bw5 16 rfl rfl
set_option maxRecDepth 20000 in
theorem wd_977 : (Cond.methodLink "HeadDotsModel" 115 ({ cls := "HeadDotsModel", name := "printLine", desc := "(I)I" } : MethodName)) ∈ bigW := bw5 17 rfl rfl
set_option maxRecDepth 20000 in
theorem wd_979 : (Cond.instanceMethod ({ cls := "HeadDotsModel", name := "printLine", desc := "(I)I" } : MethodName)) ∈ bigW := bw5 19 rfl rfl
set_option maxRecDepth 20000 in
theorem wd_980 : (Cond.code ({ cls := "HeadDotsModel", name := "printLine", desc := "(I)I" } : MethodName) prog_8_method_25_code 6 (Option.some ClassFile.FieldType.int)) ∈ bigW := bw5 20 rfl rfl
set_option maxRecDepth 20000 in
theorem wd_981 : (Cond.methodLink "HeadDotsModel" 75 ({ cls := "HeadDotsModel", name := "partsOf", desc := "(I)I" } : MethodName)) ∈ bigW := bw5 21 rfl rfl
set_option maxRecDepth 20000 in
theorem wd_983 : (Cond.instanceMethod ({ cls := "HeadDotsModel", name := "partsOf", desc := "(I)I" } : MethodName)) ∈ bigW := bw5 23 rfl rfl
set_option maxRecDepth 20000 in
theorem wd_984 : (Cond.code ({ cls := "HeadDotsModel", name := "partsOf", desc := "(I)I" } : MethodName) prog_8_method_20_code 2 (Option.some ClassFile.FieldType.int)) ∈ bigW := bw5 24 rfl rfl
set_option maxRecDepth 20000 in
theorem wd_985 : (Cond.methodLink "HeadDotsModel" 68 ({ cls := "HeadDotsModel", name := "ones", desc := "(I)I" } : MethodName)) ∈ bigW := bw5 25 rfl rfl
set_option maxRecDepth 20000 in
theorem wd_986 : (Cond.static ({ cls := "HeadDotsModel", name := "ones", desc := "(I)I" } : MethodName)) ∈ bigW := bw5 26 rfl rfl
set_option maxRecDepth 20000 in
theorem wd_987 : (Cond.code ({ cls := "HeadDotsModel", name := "ones", desc := "(I)I" } : MethodName) prog_8_method_18_code 3 (Option.some ClassFile.FieldType.int)) ∈ bigW := bw5 27 rfl rfl
set_option maxRecDepth 20000 in
theorem wd_988 : (Cond.methodLink "HeadDotsModel" 71 ({ cls := "HeadDotsModel", name := "atOnce", desc := "()I" } : MethodName)) ∈ bigW := bw5 28 rfl rfl
set_option maxRecDepth 20000 in
theorem wd_990 : (Cond.instanceMethod ({ cls := "HeadDotsModel", name := "atOnce", desc := "()I" } : MethodName)) ∈ bigW := bw5 30 rfl rfl
set_option maxRecDepth 20000 in
theorem wd_991 : (Cond.code ({ cls := "HeadDotsModel", name := "atOnce", desc := "()I" } : MethodName) prog_8_method_19_code 2 (Option.some ClassFile.FieldType.int)) ∈ bigW := bw5 31 rfl rfl
set_option maxRecDepth 20000 in
theorem wd_992 : (Cond.methodLink "HeadDotsModel" 93 ({ cls := "HeadDotsModel", name := "dotsOfPart", desc := "(II)I" } : MethodName)) ∈ bigW := bw5 32 rfl rfl
set_option maxRecDepth 20000 in
theorem wd_994 : (Cond.instanceMethod ({ cls := "HeadDotsModel", name := "dotsOfPart", desc := "(II)I" } : MethodName)) ∈ bigW := bw5 34 rfl rfl
set_option maxRecDepth 20000 in
theorem wd_995 : (Cond.code ({ cls := "HeadDotsModel", name := "dotsOfPart", desc := "(II)I" } : MethodName) prog_8_method_21_code 8 (Option.some ClassFile.FieldType.int)) ∈ bigW := bw5 35 rfl rfl
set_option maxRecDepth 20000 in
theorem wd_996 : (Cond.methodLink "HeadDotsModel" 60 ({ cls := "HeadDotsModel", name := "bit", desc := "(II)I" } : MethodName)) ∈ bigW := bw5 36 rfl rfl
set_option maxRecDepth 20000 in
theorem wd_997 : (Cond.static ({ cls := "HeadDotsModel", name := "bit", desc := "(II)I" } : MethodName)) ∈ bigW := bw5 37 rfl rfl
set_option maxRecDepth 20000 in
theorem wd_998 : (Cond.code ({ cls := "HeadDotsModel", name := "bit", desc := "(II)I" } : MethodName) prog_8_method_14_code 2 (Option.some ClassFile.FieldType.int)) ∈ bigW := bw5 38 rfl rfl
set_option maxRecDepth 20000 in
theorem wd_999 : (Cond.methodLink "HeadDotsModel" 96 ({ cls := "HeadDotsModel", name := "isCool", desc := "(II)Z" } : MethodName)) ∈ bigW := bw5 39 rfl rfl
set_option maxRecDepth 20000 in
theorem wd_1001 : (Cond.instanceMethod ({ cls := "HeadDotsModel", name := "isCool", desc := "(II)Z" } : MethodName)) ∈ bigW := bw5 41 rfl rfl
set_option maxRecDepth 20000 in
theorem wd_1002 : (Cond.code ({ cls := "HeadDotsModel", name := "isCool", desc := "(II)Z" } : MethodName) prog_8_method_22_code 5 (Option.some ClassFile.FieldType.boolean)) ∈ bigW := bw5 42 rfl rfl
set_option maxRecDepth 20000 in
theorem wd_1003 : (Cond.methodLink "HeadDotsModel" 78 ({ cls := "HeadDotsModel", name := "pulse", desc := "(II)I" } : MethodName)) ∈ bigW := bw5 43 rfl rfl
set_option maxRecDepth 20000 in
theorem wd_1005 : (Cond.instanceMethod ({ cls := "HeadDotsModel", name := "pulse", desc := "(II)I" } : MethodName)) ∈ bigW := bw5 45 rfl rfl
set_option maxRecDepth 20000 in
theorem wd_1006 : (Cond.code ({ cls := "HeadDotsModel", name := "pulse", desc := "(II)I" } : MethodName) prog_8_method_16_code 3 (Option.some ClassFile.FieldType.int)) ∈ bigW := bw5 46 rfl rfl
set_option maxRecDepth 20000 in
theorem wd_1007 : (Cond.methodLink "HeadDotsModel" 64 ({ cls := "HeadDotsModel", name := "pulseBy", desc := "(III)I" } : MethodName)) ∈ bigW := bw5 47 rfl rfl
set_option maxRecDepth 20000 in
theorem wd_1009 : (Cond.instanceMethod ({ cls := "HeadDotsModel", name := "pulseBy", desc := "(III)I" } : MethodName)) ∈ bigW := bw5 49 rfl rfl
set_option maxRecDepth 20000 in
theorem wd_1010 : (Cond.code ({ cls := "HeadDotsModel", name := "pulseBy", desc := "(III)I" } : MethodName) prog_8_method_15_code 6 (Option.some ClassFile.FieldType.int)) ∈ bigW := bw5 50 rfl rfl
set_option maxRecDepth 20000 in
theorem wd_1011 : (Cond.methodLink "HeadDotsModel" 100 ({ cls := "HeadDotsModel", name := "pass", desc := "(I)V" } : MethodName)) ∈ bigW := bw5 51 rfl rfl
set_option maxRecDepth 20000 in
theorem wd_1013 : (Cond.instanceMethod ({ cls := "HeadDotsModel", name := "pass", desc := "(I)V" } : MethodName)) ∈ bigW := bw5 53 rfl rfl
set_option maxRecDepth 20000 in
theorem wd_1014 : (Cond.code ({ cls := "HeadDotsModel", name := "pass", desc := "(I)V" } : MethodName) prog_8_method_13_code 4 (Option.none : Option ClassFile.FieldType)) ∈ bigW := bw5 54 rfl rfl
set_option maxRecDepth 20000 in
theorem wd_1015 : (Cond.methodLink "HeadDotsModel" 57 ({ cls := "HeadDotsModel", name := "cooled", desc := "(I)I" } : MethodName)) ∈ bigW := bw5 55 rfl rfl
set_option maxRecDepth 20000 in
theorem wd_1017 : (Cond.instanceMethod ({ cls := "HeadDotsModel", name := "cooled", desc := "(I)I" } : MethodName)) ∈ bigW := bw5 57 rfl rfl
set_option maxRecDepth 20000 in
theorem wd_1018 : (Cond.code ({ cls := "HeadDotsModel", name := "cooled", desc := "(I)I" } : MethodName) prog_8_method_12_code 3 (Option.some ClassFile.FieldType.int)) ∈ bigW := bw5 58 rfl rfl
set_option maxRecDepth 20000 in
theorem wd_1019 : (Cond.methodLink "HeadDotsModel" 104 ({ cls := "HeadDotsModel", name := "printPart", desc := "(II)I" } : MethodName)) ∈ bigW := bw5 59 rfl rfl
set_option maxRecDepth 20000 in
theorem wd_1021 : (Cond.instanceMethod ({ cls := "HeadDotsModel", name := "printPart", desc := "(II)I" } : MethodName)) ∈ bigW := bw5 61 rfl rfl
set_option maxRecDepth 20000 in
theorem wd_1022 : (Cond.code ({ cls := "HeadDotsModel", name := "printPart", desc := "(II)I" } : MethodName) prog_8_method_23_code 7 (Option.some ClassFile.FieldType.int)) ∈ bigW := bw5 62 rfl rfl
set_option maxRecDepth 20000 in
theorem wd_1023 : (Cond.methodLink "HeadDotsModel" 84 ({ cls := "HeadDotsModel", name := "darkHeat", desc := "()I" } : MethodName)) ∈ bigW := bw5 63 rfl rfl
set_option maxRecDepth 20000 in
theorem wd_1025 : (Cond.instanceMethod ({ cls := "HeadDotsModel", name := "darkHeat", desc := "()I" } : MethodName)) ∈ bigW := bw5 65 rfl rfl
set_option maxRecDepth 20000 in
theorem wd_1026 : (Cond.code ({ cls := "HeadDotsModel", name := "darkHeat", desc := "()I" } : MethodName) prog_8_method_17_code 1 (Option.some ClassFile.FieldType.int)) ∈ bigW := bw5 66 rfl rfl
set_option maxRecDepth 20000 in
theorem wd_1027 : (Cond.methodLink "HeadDotsModel" 107 ({ cls := "HeadDotsModel", name := "keepLine", desc := "(II)V" } : MethodName)) ∈ bigW := bw5 67 rfl rfl
set_option maxRecDepth 20000 in
theorem wd_1029 : (Cond.instanceMethod ({ cls := "HeadDotsModel", name := "keepLine", desc := "(II)V" } : MethodName)) ∈ bigW := bw5 69 rfl rfl
set_option maxRecDepth 20000 in
theorem wd_1030 : (Cond.code ({ cls := "HeadDotsModel", name := "keepLine", desc := "(II)V" } : MethodName) prog_8_method_24_code 4 (Option.none : Option ClassFile.FieldType)) ∈ bigW := bw5 70 rfl rfl
set_option maxRecDepth 20000 in
theorem wd_1031 : (Cond.methodLink "HeadDotsLaw" 85 ({ cls := "HeadDotsModel", name := "lines", desc := "(II)I" } : MethodName)) ∈ bigW := bw5 71 rfl rfl
set_option maxRecDepth 20000 in
theorem wd_1032 : (Cond.instanceMethod ({ cls := "HeadDotsModel", name := "lines", desc := "(II)I" } : MethodName)) ∈ bigW := bw5 72 rfl rfl
set_option maxRecDepth 20000 in
theorem wd_1033 : (Cond.selects "HeadDotsModel" ({ cls := "HeadDotsModel", name := "lines", desc := "(II)I" } : MethodName) ({ cls := "HeadDotsModel", name := "lines", desc := "(II)I" } : MethodName)) ∈ bigW := bw5 73 rfl rfl
set_option maxRecDepth 20000 in
theorem wd_1034 : (Cond.code ({ cls := "HeadDotsModel", name := "lines", desc := "(II)I" } : MethodName) prog_8_method_30_code 3 (Option.some ClassFile.FieldType.int)) ∈ bigW := bw5 74 rfl rfl
set_option maxRecDepth 20000 in
theorem wd_1035 : (Cond.methodLink "HeadDotsModel" 121 ({ cls := "HeadDotsModel", name := "printSome", desc := "(II)I" } : MethodName)) ∈ bigW := bw5 75 rfl rfl
set_option maxRecDepth 20000 in
theorem wd_1037 : (Cond.instanceMethod ({ cls := "HeadDotsModel", name := "printSome", desc := "(II)I" } : MethodName)) ∈ bigW := bw5 77 rfl rfl
set_option maxRecDepth 20000 in
theorem wd_1038 : (Cond.code ({ cls := "HeadDotsModel", name := "printSome", desc := "(II)I" } : MethodName) prog_8_method_29_code 6 (Option.some ClassFile.FieldType.int)) ∈ bigW := bw5 78 rfl rfl
set_option maxRecDepth 20000 in
theorem wd_1039 : (Cond.methodLink "HeadDotsModel" 118 ({ cls := "HeadDotsModel", name := "sum", desc := "(I)I" } : MethodName)) ∈ bigW := bw5 79 rfl rfl
set_option maxRecDepth 20000 in
theorem wd_1041 : (Cond.instanceMethod ({ cls := "HeadDotsModel", name := "sum", desc := "(I)I" } : MethodName)) ∈ bigW := bw5 81 rfl rfl
set_option maxRecDepth 20000 in
theorem wd_1042 : (Cond.code ({ cls := "HeadDotsModel", name := "sum", desc := "(I)I" } : MethodName) prog_8_method_26_code 4 (Option.some ClassFile.FieldType.int)) ∈ bigW := bw5 82 rfl rfl
set_option maxRecDepth 20000 in
theorem wd_1043 : (Cond.methodLink "HeadDotsLaw" 88 ({ cls := "HeadDotsModel", name := "rest", desc := "(I)I" } : MethodName)) ∈ bigW := bw5 83 rfl rfl
set_option maxRecDepth 20000 in
theorem wd_1044 : (Cond.instanceMethod ({ cls := "HeadDotsModel", name := "rest", desc := "(I)I" } : MethodName)) ∈ bigW := bw5 84 rfl rfl
set_option maxRecDepth 20000 in
theorem wd_1045 : (Cond.selects "HeadDotsModel" ({ cls := "HeadDotsModel", name := "rest", desc := "(I)I" } : MethodName) ({ cls := "HeadDotsModel", name := "rest", desc := "(I)I" } : MethodName)) ∈ bigW := bw5 85 rfl rfl
set_option maxRecDepth 20000 in
theorem wd_1046 : (Cond.code ({ cls := "HeadDotsModel", name := "rest", desc := "(I)I" } : MethodName) prog_8_method_31_code 2 (Option.some ClassFile.FieldType.int)) ∈ bigW := bw5 86 rfl rfl
set_option maxRecDepth 20000 in
theorem wd_1047 : (Cond.methodLink "HeadDotsModel" 124 ({ cls := "HeadDotsModel", name := "hottestNow", desc := "()I" } : MethodName)) ∈ bigW := bw5 87 rfl rfl
set_option maxRecDepth 20000 in
theorem wd_1049 : (Cond.instanceMethod ({ cls := "HeadDotsModel", name := "hottestNow", desc := "()I" } : MethodName)) ∈ bigW := bw5 89 rfl rfl
set_option maxRecDepth 20000 in
theorem wd_1050 : (Cond.code ({ cls := "HeadDotsModel", name := "hottestNow", desc := "()I" } : MethodName) prog_8_method_27_code 3 (Option.some ClassFile.FieldType.int)) ∈ bigW := bw5 90 rfl rfl
set_option maxRecDepth 20000 in
theorem wd_1051 : (Cond.methodLink "HeadDotsLaw" 91 ({ cls := "HeadDotsModel", name := "paper", desc := "(I)I" } : MethodName)) ∈ bigW := bw5 91 rfl rfl
set_option maxRecDepth 20000 in
theorem wd_1052 : (Cond.instanceMethod ({ cls := "HeadDotsModel", name := "paper", desc := "(I)I" } : MethodName)) ∈ bigW := bw5 92 rfl rfl
set_option maxRecDepth 20000 in
theorem wd_1053 : (Cond.selects "HeadDotsModel" ({ cls := "HeadDotsModel", name := "paper", desc := "(I)I" } : MethodName) ({ cls := "HeadDotsModel", name := "paper", desc := "(I)I" } : MethodName)) ∈ bigW := bw5 93 rfl rfl
set_option maxRecDepth 20000 in
theorem wd_1054 : (Cond.code ({ cls := "HeadDotsModel", name := "paper", desc := "(I)I" } : MethodName) prog_8_method_33_code 2 (Option.some ClassFile.FieldType.int)) ∈ bigW := bw5 94 rfl rfl
set_option maxRecDepth 20000 in
theorem wd_1055 : (Cond.methodLink "HeadDotsModel" 127 ({ cls := "HeadDotsModel", name := "paperNow", desc := "(I)I" } : MethodName)) ∈ bigW := bw5 95 rfl rfl
set_option maxRecDepth 20000 in
theorem wd_1057 : (Cond.instanceMethod ({ cls := "HeadDotsModel", name := "paperNow", desc := "(I)I" } : MethodName)) ∈ bigW := bw5 97 rfl rfl
set_option maxRecDepth 20000 in
theorem wd_1058 : (Cond.code ({ cls := "HeadDotsModel", name := "paperNow", desc := "(I)I" } : MethodName) prog_8_method_32_code 4 (Option.some ClassFile.FieldType.int)) ∈ bigW := bw5 98 rfl rfl
set_option maxRecDepth 20000 in
theorem wd_1059 : (Cond.methodLink "HeadDotsLaw" 94 ({ cls := "HeadDotsModel", name := "set", desc := "(II)I" } : MethodName)) ∈ bigW := bw5 99 rfl rfl
set_option maxRecDepth 20000 in
theorem wd_1060 : (Cond.instanceMethod ({ cls := "HeadDotsModel", name := "set", desc := "(II)I" } : MethodName)) ∈ bigW := bw5 100 rfl rfl
set_option maxRecDepth 20000 in
theorem wd_1061 : (Cond.selects "HeadDotsModel" ({ cls := "HeadDotsModel", name := "set", desc := "(II)I" } : MethodName) ({ cls := "HeadDotsModel", name := "set", desc := "(II)I" } : MethodName)) ∈ bigW := bw5 101 rfl rfl
set_option maxRecDepth 20000 in
theorem wd_1062 : (Cond.code ({ cls := "HeadDotsModel", name := "set", desc := "(II)I" } : MethodName) prog_8_method_35_code 4 (Option.some ClassFile.FieldType.int)) ∈ bigW := bw5 102 rfl rfl
set_option maxRecDepth 20000 in
theorem wd_1063 : (Cond.methodLink "HeadDotsModel" 130 ({ cls := "HeadDotsModel", name := "maySet", desc := "(II)Z" } : MethodName)) ∈ bigW := bw5 103 rfl rfl
set_option maxRecDepth 20000 in
theorem wd_1064 : (Cond.static ({ cls := "HeadDotsModel", name := "maySet", desc := "(II)Z" } : MethodName)) ∈ bigW := bw5 104 rfl rfl
set_option maxRecDepth 20000 in
theorem wd_1065 : (Cond.code ({ cls := "HeadDotsModel", name := "maySet", desc := "(II)Z" } : MethodName) prog_8_method_34_code 2 (Option.some ClassFile.FieldType.boolean)) ∈ bigW := bw5 105 rfl rfl
set_option maxRecDepth 20000 in
theorem wd_1066 : (Cond.methodLink "HeadDotsLaw" 97 ({ cls := "HeadDotsModel", name := "append", desc := "(I)I" } : MethodName)) ∈ bigW := bw5 106 rfl rfl
set_option maxRecDepth 20000 in
theorem wd_1067 : (Cond.instanceMethod ({ cls := "HeadDotsModel", name := "append", desc := "(I)I" } : MethodName)) ∈ bigW := bw5 107 rfl rfl
set_option maxRecDepth 20000 in
theorem wd_1068 : (Cond.selects "HeadDotsModel" ({ cls := "HeadDotsModel", name := "append", desc := "(I)I" } : MethodName) ({ cls := "HeadDotsModel", name := "append", desc := "(I)I" } : MethodName)) ∈ bigW := bw5 108 rfl rfl
set_option maxRecDepth 20000 in
theorem wd_1069 : (Cond.code ({ cls := "HeadDotsModel", name := "append", desc := "(I)I" } : MethodName) prog_8_method_36_code 2 (Option.some ClassFile.FieldType.int)) ∈ bigW := bw5 109 rfl rfl
set_option maxRecDepth 20000 in
theorem wd_1070 : (Cond.methodLink "HeadDotsLaw" 101 ({ cls := "HeadDotsModel", name := "clearBuffer", desc := "()I" } : MethodName)) ∈ bigW := bw5 110 rfl rfl
set_option maxRecDepth 20000 in
theorem wd_1071 : (Cond.instanceMethod ({ cls := "HeadDotsModel", name := "clearBuffer", desc := "()I" } : MethodName)) ∈ bigW := bw5 111 rfl rfl
set_option maxRecDepth 20000 in
theorem wd_1072 : (Cond.selects "HeadDotsModel" ({ cls := "HeadDotsModel", name := "clearBuffer", desc := "()I" } : MethodName) ({ cls := "HeadDotsModel", name := "clearBuffer", desc := "()I" } : MethodName)) ∈ bigW := bw5 112 rfl rfl
set_option maxRecDepth 20000 in
theorem wd_1073 : (Cond.code ({ cls := "HeadDotsModel", name := "clearBuffer", desc := "()I" } : MethodName) prog_8_method_37_code 2 (Option.some ClassFile.FieldType.int)) ∈ bigW := bw5 113 rfl rfl
set_option maxRecDepth 20000 in
theorem wd_1074 : (Cond.methodLink "HeadDotsLaw" 105 ({ cls := "HeadDotsModel", name := "firstError", desc := "()I" } : MethodName)) ∈ bigW := bw5 114 rfl rfl
set_option maxRecDepth 20000 in
theorem wd_1075 : (Cond.instanceMethod ({ cls := "HeadDotsModel", name := "firstError", desc := "()I" } : MethodName)) ∈ bigW := bw5 115 rfl rfl
set_option maxRecDepth 20000 in
theorem wd_1076 : (Cond.selects "HeadDotsModel" ({ cls := "HeadDotsModel", name := "firstError", desc := "()I" } : MethodName) ({ cls := "HeadDotsModel", name := "firstError", desc := "()I" } : MethodName)) ∈ bigW := bw5 116 rfl rfl
set_option maxRecDepth 20000 in
theorem wd_1077 : (Cond.code ({ cls := "HeadDotsModel", name := "firstError", desc := "()I" } : MethodName) prog_8_method_48_code 1 (Option.some ClassFile.FieldType.int)) ∈ bigW := bw5 117 rfl rfl
set_option maxRecDepth 20000 in
theorem wd_1078 : (Cond.methodLink "HeadDotsModel" 171 ({ cls := "HeadDotsModel", name := "arePrints", desc := "()Z" } : MethodName)) ∈ bigW := bw5 118 rfl rfl
set_option maxRecDepth 20000 in
theorem wd_1080 : (Cond.instanceMethod ({ cls := "HeadDotsModel", name := "arePrints", desc := "()Z" } : MethodName)) ∈ bigW := bw5 120 rfl rfl
set_option maxRecDepth 20000 in
theorem wd_1081 : (Cond.code ({ cls := "HeadDotsModel", name := "arePrints", desc := "()Z" } : MethodName) prog_8_method_47_code 2 (Option.some ClassFile.FieldType.boolean)) ∈ bigW := bw5 121 rfl rfl
set_option maxRecDepth 20000 in
theorem wd_1082 : (Cond.methodLink "HeadDotsModel" 168 ({ cls := "HeadDotsModel", name := "readPart", desc := "()Z" } : MethodName)) ∈ bigW := bw5 122 rfl rfl
set_option maxRecDepth 20000 in
theorem wd_1084 : (Cond.instanceMethod ({ cls := "HeadDotsModel", name := "readPart", desc := "()Z" } : MethodName)) ∈ bigW := bw5 124 rfl rfl
set_option maxRecDepth 20000 in
theorem wd_1085 : (Cond.code ({ cls := "HeadDotsModel", name := "readPart", desc := "()Z" } : MethodName) prog_8_method_46_code 1 (Option.some ClassFile.FieldType.boolean)) ∈ bigW := bw5 125 rfl rfl
set_option maxRecDepth 20000 in
theorem wd_1086 : (Cond.methodLink "HeadDotsModel" 142 ({ cls := "HeadDotsModel", name := "takes", desc := "(I)Z" } : MethodName)) ∈ bigW := bw5 126 rfl rfl
set_option maxRecDepth 20000 in
theorem wd_1088 : (Cond.instanceMethod ({ cls := "HeadDotsModel", name := "takes", desc := "(I)Z" } : MethodName)) ∈ bigW := bw5 128 rfl rfl
set_option maxRecDepth 20000 in
theorem wd_1089 : (Cond.code ({ cls := "HeadDotsModel", name := "takes", desc := "(I)Z" } : MethodName) prog_8_method_39_code 3 (Option.some ClassFile.FieldType.boolean)) ∈ bigW := bw5 129 rfl rfl
set_option maxRecDepth 20000 in
theorem wd_1090 : (Cond.methodLink "HeadDotsModel" 139 ({ cls := "HeadDotsModel", name := "sign", desc := "()I" } : MethodName)) ∈ bigW := bw5 130 rfl rfl
set_option maxRecDepth 20000 in
theorem wd_1092 : (Cond.instanceMethod ({ cls := "HeadDotsModel", name := "sign", desc := "()I" } : MethodName)) ∈ bigW := bw5 132 rfl rfl
set_option maxRecDepth 20000 in
theorem wd_1093 : (Cond.code ({ cls := "HeadDotsModel", name := "sign", desc := "()I" } : MethodName) prog_8_method_38_code 1 (Option.some ClassFile.FieldType.int)) ∈ bigW := bw5 133 rfl rfl
set_option maxRecDepth 20000 in
theorem wd_1094 : (Cond.methodLink "HeadDotsModel" 154 ({ cls := "HeadDotsModel", name := "takesFour", desc := "(IIII)Z" } : MethodName)) ∈ bigW := bw5 134 rfl rfl
set_option maxRecDepth 20000 in
theorem wd_1096 : (Cond.instanceMethod ({ cls := "HeadDotsModel", name := "takesFour", desc := "(IIII)Z" } : MethodName)) ∈ bigW := bw5 136 rfl rfl
set_option maxRecDepth 20000 in
theorem wd_1097 : (Cond.code ({ cls := "HeadDotsModel", name := "takesFour", desc := "(IIII)Z" } : MethodName) prog_8_method_40_code 5 (Option.some ClassFile.FieldType.boolean)) ∈ bigW := bw5 137 rfl rfl
set_option maxRecDepth 20000 in
theorem wd_1098 : (Cond.methodLink "HeadDotsModel" 158 ({ cls := "HeadDotsModel", name := "readLine", desc := "()Z" } : MethodName)) ∈ bigW := bw5 138 rfl rfl
set_option maxRecDepth 20000 in
theorem wd_1100 : (Cond.instanceMethod ({ cls := "HeadDotsModel", name := "readLine", desc := "()Z" } : MethodName)) ∈ bigW := bw5 140 rfl rfl
set_option maxRecDepth 20000 in
theorem wd_1101 : (Cond.code ({ cls := "HeadDotsModel", name := "readLine", desc := "()Z" } : MethodName) prog_8_method_43_code 4 (Option.some ClassFile.FieldType.boolean)) ∈ bigW := bw5 141 rfl rfl
set_option maxRecDepth 20000 in
theorem wd_1102 : (Cond.methodLink "HeadDotsModel" 148 ({ cls := "HeadDotsModel", name := "readNumber", desc := "(I)I" } : MethodName)) ∈ bigW := bw5 142 rfl rfl
set_option maxRecDepth 20000 in
theorem wd_1104 : (Cond.instanceMethod ({ cls := "HeadDotsModel", name := "readNumber", desc := "(I)I" } : MethodName)) ∈ bigW := bw5 144 rfl rfl
set_option maxRecDepth 20000 in
theorem wd_1105 : (Cond.code ({ cls := "HeadDotsModel", name := "readNumber", desc := "(I)I" } : MethodName) prog_8_method_42_code 3 (Option.some ClassFile.FieldType.int)) ∈ bigW := bw5 145 rfl rfl
set_option maxRecDepth 20000 in
theorem wd_1106 : (Cond.methodLink "HeadDotsModel" 151 ({ cls := "HeadDotsModel", name := "addPart", desc := "(III)Z" } : MethodName)) ∈ bigW := bw5 146 rfl rfl
set_option maxRecDepth 20000 in
theorem wd_1108 : (Cond.instanceMethod ({ cls := "HeadDotsModel", name := "addPart", desc := "(III)Z" } : MethodName)) ∈ bigW := bw5 148 rfl rfl
set_option maxRecDepth 20000 in
theorem wd_1109 : (Cond.code ({ cls := "HeadDotsModel", name := "addPart", desc := "(III)Z" } : MethodName) prog_8_method_41_code 4 (Option.some ClassFile.FieldType.boolean)) ∈ bigW := bw5 149 rfl rfl
set_option maxRecDepth 20000 in
theorem wd_1110 : (Cond.methodLink "HeadDotsModel" 162 ({ cls := "HeadDotsModel", name := "readPaper", desc := "()Z" } : MethodName)) ∈ bigW := bw5 150 rfl rfl
set_option maxRecDepth 20000 in
theorem wd_1112 : (Cond.instanceMethod ({ cls := "HeadDotsModel", name := "readPaper", desc := "()Z" } : MethodName)) ∈ bigW := bw5 152 rfl rfl
set_option maxRecDepth 20000 in
theorem wd_1113 : (Cond.code ({ cls := "HeadDotsModel", name := "readPaper", desc := "()Z" } : MethodName) prog_8_method_44_code 1 (Option.some ClassFile.FieldType.boolean)) ∈ bigW := bw5 153 rfl rfl
set_option maxRecDepth 20000 in
theorem wd_1114 : (Cond.methodLink "HeadDotsModel" 165 ({ cls := "HeadDotsModel", name := "readRest", desc := "()Z" } : MethodName)) ∈ bigW := bw5 154 rfl rfl
set_option maxRecDepth 20000 in
theorem wd_1116 : (Cond.instanceMethod ({ cls := "HeadDotsModel", name := "readRest", desc := "()Z" } : MethodName)) ∈ bigW := bw5 156 rfl rfl
set_option maxRecDepth 20000 in
theorem wd_1117 : (Cond.code ({ cls := "HeadDotsModel", name := "readRest", desc := "()Z" } : MethodName) prog_8_method_45_code 2 (Option.some ClassFile.FieldType.boolean)) ∈ bigW := bw5 157 rfl rfl
set_option maxRecDepth 20000 in
theorem wd_1118 : (Cond.methodLink "HeadDotsLaw" 109 ({ cls := "HeadDotsModel", name := "print", desc := "()I" } : MethodName)) ∈ bigW := bw5 158 rfl rfl
set_option maxRecDepth 20000 in
theorem wd_1119 : (Cond.instanceMethod ({ cls := "HeadDotsModel", name := "print", desc := "()I" } : MethodName)) ∈ bigW := bw5 159 rfl rfl
set_option maxRecDepth 20000 in
theorem wd_1120 : (Cond.selects "HeadDotsModel" ({ cls := "HeadDotsModel", name := "print", desc := "()I" } : MethodName) ({ cls := "HeadDotsModel", name := "print", desc := "()I" } : MethodName)) ∈ bigW := bw5 160 rfl rfl
set_option maxRecDepth 20000 in
theorem wd_1121 : (Cond.code ({ cls := "HeadDotsModel", name := "print", desc := "()I" } : MethodName) prog_8_method_49_code 4 (Option.some ClassFile.FieldType.int)) ∈ bigW := bw5 161 rfl rfl
set_option maxRecDepth 20000 in
theorem wd_1122 : (Cond.methodLink "HeadDotsLaw" 112 ({ cls := "HeadDotsModel", name := "told", desc := "(II)I" } : MethodName)) ∈ bigW := bw5 162 rfl rfl
set_option maxRecDepth 20000 in
theorem wd_1123 : (Cond.instanceMethod ({ cls := "HeadDotsModel", name := "told", desc := "(II)I" } : MethodName)) ∈ bigW := bw5 163 rfl rfl
set_option maxRecDepth 20000 in
theorem wd_1124 : (Cond.selects "HeadDotsModel" ({ cls := "HeadDotsModel", name := "told", desc := "(II)I" } : MethodName) ({ cls := "HeadDotsModel", name := "told", desc := "(II)I" } : MethodName)) ∈ bigW := bw5 164 rfl rfl
set_option maxRecDepth 20000 in
theorem wd_1125 : (Cond.code ({ cls := "HeadDotsModel", name := "told", desc := "(II)I" } : MethodName) prog_8_method_51_code 3 (Option.some ClassFile.FieldType.int)) ∈ bigW := bw5 165 rfl rfl
set_option maxRecDepth 20000 in
theorem wd_1126 : (Cond.methodLink "HeadDotsModel" 174 ({ cls := "HeadDotsModel", name := "toldAt", desc := "(II)I" } : MethodName)) ∈ bigW := bw5 166 rfl rfl
set_option maxRecDepth 20000 in
theorem wd_1128 : (Cond.instanceMethod ({ cls := "HeadDotsModel", name := "toldAt", desc := "(II)I" } : MethodName)) ∈ bigW := bw5 168 rfl rfl
set_option maxRecDepth 20000 in
theorem wd_1129 : (Cond.code ({ cls := "HeadDotsModel", name := "toldAt", desc := "(II)I" } : MethodName) prog_8_method_50_code 4 (Option.some ClassFile.FieldType.int)) ∈ bigW := bw5 169 rfl rfl
set_option maxRecDepth 20000 in
theorem wd_1130 : (Cond.methodLink "HeadDotsLaw" 125 ({ cls := "HeadDotsModel", name := "dot", desc := "(II)I" } : MethodName)) ∈ bigW := bw5 170 rfl rfl
set_option maxRecDepth 20000 in
theorem wd_1131 : (Cond.instanceMethod ({ cls := "HeadDotsModel", name := "dot", desc := "(II)I" } : MethodName)) ∈ bigW := bw5 171 rfl rfl
set_option maxRecDepth 20000 in
theorem wd_1132 : (Cond.selects "HeadDotsModel" ({ cls := "HeadDotsModel", name := "dot", desc := "(II)I" } : MethodName) ({ cls := "HeadDotsModel", name := "dot", desc := "(II)I" } : MethodName)) ∈ bigW := bw5 172 rfl rfl
set_option maxRecDepth 20000 in
theorem wd_1133 : (Cond.code ({ cls := "HeadDotsModel", name := "dot", desc := "(II)I" } : MethodName) prog_8_method_54_code 3 (Option.some ClassFile.FieldType.int)) ∈ bigW := bw5 173 rfl rfl
set_option maxRecDepth 20000 in
theorem wd_1134 : (Cond.methodLink "HeadDotsModel" 180 ({ cls := "HeadDotsModel", name := "ofDot", desc := "(II)I" } : MethodName)) ∈ bigW := bw5 174 rfl rfl
set_option maxRecDepth 20000 in
theorem wd_1136 : (Cond.instanceMethod ({ cls := "HeadDotsModel", name := "ofDot", desc := "(II)I" } : MethodName)) ∈ bigW := bw5 176 rfl rfl
set_option maxRecDepth 20000 in
theorem wd_1137 : (Cond.code ({ cls := "HeadDotsModel", name := "ofDot", desc := "(II)I" } : MethodName) prog_8_method_53_code 3 (Option.some ClassFile.FieldType.int)) ∈ bigW := bw5 177 rfl rfl
set_option maxRecDepth 20000 in
theorem wd_1138 : (Cond.methodLink "HeadDotsModel" 177 ({ cls := "HeadDotsModel", name := "waitOf", desc := "(I)I" } : MethodName)) ∈ bigW := bw5 178 rfl rfl
set_option maxRecDepth 20000 in
theorem wd_1140 : (Cond.instanceMethod ({ cls := "HeadDotsModel", name := "waitOf", desc := "(I)I" } : MethodName)) ∈ bigW := bw5 180 rfl rfl
set_option maxRecDepth 20000 in
theorem wd_1141 : (Cond.code ({ cls := "HeadDotsModel", name := "waitOf", desc := "(I)I" } : MethodName) prog_8_method_52_code 4 (Option.some ClassFile.FieldType.int)) ∈ bigW := bw5 181 rfl rfl
set_option maxRecDepth 20000 in
theorem wd_1142 : (Cond.methodLink "HeadDotsLaw" 128 ({ cls := "HeadDotsModel", name := "kept", desc := "(II)I" } : MethodName)) ∈ bigW := bw5 182 rfl rfl
set_option maxRecDepth 20000 in
theorem wd_1143 : (Cond.instanceMethod ({ cls := "HeadDotsModel", name := "kept", desc := "(II)I" } : MethodName)) ∈ bigW := bw5 183 rfl rfl
set_option maxRecDepth 20000 in
theorem wd_1144 : (Cond.selects "HeadDotsModel" ({ cls := "HeadDotsModel", name := "kept", desc := "(II)I" } : MethodName) ({ cls := "HeadDotsModel", name := "kept", desc := "(II)I" } : MethodName)) ∈ bigW := bw5 184 rfl rfl
set_option maxRecDepth 20000 in
theorem wd_1145 : (Cond.code ({ cls := "HeadDotsModel", name := "kept", desc := "(II)I" } : MethodName) prog_8_method_55_code 3 (Option.some ClassFile.FieldType.int)) ∈ bigW := bw5 185 rfl rfl
set_option maxRecDepth 20000 in
theorem wd_1146 : (Cond.methodLink "HeadDotsLaw" 131 ({ cls := "HeadDotsModel", name := "count", desc := "(I)I" } : MethodName)) ∈ bigW := bw5 186 rfl rfl
set_option maxRecDepth 20000 in
theorem wd_1147 : (Cond.instanceMethod ({ cls := "HeadDotsModel", name := "count", desc := "(I)I" } : MethodName)) ∈ bigW := bw5 187 rfl rfl
set_option maxRecDepth 20000 in
theorem wd_1148 : (Cond.selects "HeadDotsModel" ({ cls := "HeadDotsModel", name := "count", desc := "(I)I" } : MethodName) ({ cls := "HeadDotsModel", name := "count", desc := "(I)I" } : MethodName)) ∈ bigW := bw5 188 rfl rfl
set_option maxRecDepth 20000 in
theorem wd_1149 : (Cond.code ({ cls := "HeadDotsModel", name := "count", desc := "(I)I" } : MethodName) prog_8_method_57_code 2 (Option.some ClassFile.FieldType.int)) ∈ bigW := bw5 189 rfl rfl
set_option maxRecDepth 20000 in
theorem wd_1150 : (Cond.methodLink "HeadDotsModel" 183 ({ cls := "HeadDotsModel", name := "number", desc := "(I)I" } : MethodName)) ∈ bigW := bw5 190 rfl rfl
set_option maxRecDepth 20000 in
theorem wd_1152 : (Cond.instanceMethod ({ cls := "HeadDotsModel", name := "number", desc := "(I)I" } : MethodName)) ∈ bigW := bw5 192 rfl rfl
set_option maxRecDepth 20000 in
theorem wd_1153 : (Cond.code ({ cls := "HeadDotsModel", name := "number", desc := "(I)I" } : MethodName) prog_8_method_56_code 2 (Option.some ClassFile.FieldType.int)) ∈ bigW := bw5 193 rfl rfl
set_option maxRecDepth 20000 in
theorem wd_1154 : (Cond.methodLink "HeadDotsLaw" 134 ({ cls := "HeadDotsModel", name := "ifPrinted", desc := "(II)I" } : MethodName)) ∈ bigW := bw5 194 rfl rfl
set_option maxRecDepth 20000 in
theorem wd_1155 : (Cond.instanceMethod ({ cls := "HeadDotsModel", name := "ifPrinted", desc := "(II)I" } : MethodName)) ∈ bigW := bw5 195 rfl rfl
set_option maxRecDepth 20000 in
theorem wd_1156 : (Cond.selects "HeadDotsModel" ({ cls := "HeadDotsModel", name := "ifPrinted", desc := "(II)I" } : MethodName) ({ cls := "HeadDotsModel", name := "ifPrinted", desc := "(II)I" } : MethodName)) ∈ bigW := bw5 196 rfl rfl
set_option maxRecDepth 20000 in
theorem wd_1157 : (Cond.code ({ cls := "HeadDotsModel", name := "ifPrinted", desc := "(II)I" } : MethodName) prog_8_method_59_code 3 (Option.some ClassFile.FieldType.int)) ∈ bigW := bw5 197 rfl rfl
set_option maxRecDepth 20000 in
theorem wd_1158 : (Cond.methodLink "HeadDotsModel" 192 ({ cls := "HeadDotsModel", name := "wouldBring", desc := "(II)I" } : MethodName)) ∈ bigW := bw5 198 rfl rfl
set_option maxRecDepth 20000 in
theorem wd_1160 : (Cond.instanceMethod ({ cls := "HeadDotsModel", name := "wouldBring", desc := "(II)I" } : MethodName)) ∈ bigW := bw5 200 rfl rfl
set_option maxRecDepth 20000 in
theorem wd_1161 : (Cond.code ({ cls := "HeadDotsModel", name := "wouldBring", desc := "(II)I" } : MethodName) prog_8_method_58_code 7 (Option.some ClassFile.FieldType.int)) ∈ bigW := bw5 201 rfl rfl
set_option maxRecDepth 20000 in
theorem wd_1162 : (Cond.methodLink "HeadDotsModel" 186 ({ cls := "HeadDotsModel", name := "putAside", desc := "()V" } : MethodName)) ∈ bigW := bw5 202 rfl rfl
set_option maxRecDepth 20000 in
theorem wd_1164 : (Cond.instanceMethod ({ cls := "HeadDotsModel", name := "putAside", desc := "()V" } : MethodName)) ∈ bigW := bw5 204 rfl rfl
set_option maxRecDepth 20000 in
theorem wd_1165 : (Cond.code ({ cls := "HeadDotsModel", name := "putAside", desc := "()V" } : MethodName) prog_8_method_7_code 2 (Option.none : Option ClassFile.FieldType)) ∈ bigW := bw5 205 rfl rfl
set_option maxRecDepth 20000 in
theorem wd_1166 : (Cond.methodLink "HeadDotsModel" 189 ({ cls := "HeadDotsModel", name := "putBack", desc := "()V" } : MethodName)) ∈ bigW := bw5 206 rfl rfl
set_option maxRecDepth 20000 in
theorem wd_1168 : (Cond.instanceMethod ({ cls := "HeadDotsModel", name := "putBack", desc := "()V" } : MethodName)) ∈ bigW := bw5 208 rfl rfl
set_option maxRecDepth 20000 in
theorem wd_1169 : (Cond.code ({ cls := "HeadDotsModel", name := "putBack", desc := "()V" } : MethodName) prog_8_method_8_code 2 (Option.none : Option ClassFile.FieldType)) ∈ bigW := bw5 209 rfl rfl
set_option maxRecDepth 20000 in
theorem wd_1170 : (Cond.methodLink "HeadDotsLaw" 137 ({ cls := "HeadDotsModel", name := "betterWay", desc := "(I)I" } : MethodName)) ∈ bigW := bw5 210 rfl rfl
set_option maxRecDepth 20000 in
theorem wd_1171 : (Cond.instanceMethod ({ cls := "HeadDotsModel", name := "betterWay", desc := "(I)I" } : MethodName)) ∈ bigW := bw5 211 rfl rfl
set_option maxRecDepth 20000 in
theorem wd_1172 : (Cond.selects "HeadDotsModel" ({ cls := "HeadDotsModel", name := "betterWay", desc := "(I)I" } : MethodName) ({ cls := "HeadDotsModel", name := "betterWay", desc := "(I)I" } : MethodName)) ∈ bigW := bw5 212 rfl rfl
set_option maxRecDepth 20000 in
theorem wd_1173 : (Cond.code ({ cls := "HeadDotsModel", name := "betterWay", desc := "(I)I" } : MethodName) prog_8_method_61_code 2 (Option.some ClassFile.FieldType.int)) ∈ bigW := bw5 213 rfl rfl
set_option maxRecDepth 20000 in
theorem wd_1174 : (Cond.methodLink "HeadDotsModel" 195 ({ cls := "HeadDotsModel", name := "better", desc := "(I)I" } : MethodName)) ∈ bigW := bw5 214 rfl rfl
set_option maxRecDepth 20000 in
theorem wd_1176 : (Cond.instanceMethod ({ cls := "HeadDotsModel", name := "better", desc := "(I)I" } : MethodName)) ∈ bigW := bw5 216 rfl rfl
set_option maxRecDepth 20000 in
theorem wd_1177 : (Cond.code ({ cls := "HeadDotsModel", name := "better", desc := "(I)I" } : MethodName) prog_8_method_60_code 5 (Option.some ClassFile.FieldType.int)) ∈ bigW := bw5 217 rfl rfl
set_option maxRecDepth 20000 in
theorem wd_1178 : (Cond.methodLink "HeadDotsLaw" 140 ({ cls := "HeadDotsModel", name := "coolIn", desc := "(I)I" } : MethodName)) ∈ bigW := bw5 218 rfl rfl
set_option maxRecDepth 20000 in
theorem wd_1179 : (Cond.instanceMethod ({ cls := "HeadDotsModel", name := "coolIn", desc := "(I)I" } : MethodName)) ∈ bigW := bw5 219 rfl rfl
set_option maxRecDepth 20000 in
theorem wd_1180 : (Cond.selects "HeadDotsModel" ({ cls := "HeadDotsModel", name := "coolIn", desc := "(I)I" } : MethodName) ({ cls := "HeadDotsModel", name := "coolIn", desc := "(I)I" } : MethodName)) ∈ bigW := bw5 220 rfl rfl
set_option maxRecDepth 20000 in
theorem wd_1181 : (Cond.code ({ cls := "HeadDotsModel", name := "coolIn", desc := "(I)I" } : MethodName) prog_8_method_63_code 2 (Option.some ClassFile.FieldType.int)) ∈ bigW := bw5 221 rfl rfl
set_option maxRecDepth 20000 in
theorem wd_1182 : (Cond.methodLink "HeadDotsModel" 198 ({ cls := "HeadDotsModel", name := "timeToCool", desc := "(I)I" } : MethodName)) ∈ bigW := bw5 222 rfl rfl
set_option maxRecDepth 20000 in
theorem wd_1184 : (Cond.instanceMethod ({ cls := "HeadDotsModel", name := "timeToCool", desc := "(I)I" } : MethodName)) ∈ bigW := bw5 224 rfl rfl
set_option maxRecDepth 20000 in
theorem wd_1185 : (Cond.code ({ cls := "HeadDotsModel", name := "timeToCool", desc := "(I)I" } : MethodName) prog_8_method_62_code 4 (Option.some ClassFile.FieldType.int)) ∈ bigW := bw5 225 rfl rfl
set_option maxRecDepth 20000 in
theorem wd_1186 : (Cond.methodLink "HeadDotsLaw" 143 ({ cls := "HeadDotsModel", name := "darkFrom", desc := "(I)I" } : MethodName)) ∈ bigW := bw5 226 rfl rfl
set_option maxRecDepth 20000 in
theorem wd_1187 : (Cond.instanceMethod ({ cls := "HeadDotsModel", name := "darkFrom", desc := "(I)I" } : MethodName)) ∈ bigW := bw5 227 rfl rfl
set_option maxRecDepth 20000 in
theorem wd_1188 : (Cond.selects "HeadDotsModel" ({ cls := "HeadDotsModel", name := "darkFrom", desc := "(I)I" } : MethodName) ({ cls := "HeadDotsModel", name := "darkFrom", desc := "(I)I" } : MethodName)) ∈ bigW := bw5 228 rfl rfl
set_option maxRecDepth 20000 in
theorem wd_1189 : (Cond.code ({ cls := "HeadDotsModel", name := "darkFrom", desc := "(I)I" } : MethodName) prog_8_method_66_code 2 (Option.some ClassFile.FieldType.int)) ∈ bigW := bw5 229 rfl rfl
set_option maxRecDepth 20000 in
theorem wd_1190 : (Cond.methodLink "HeadDotsModel" 204 ({ cls := "HeadDotsModel", name := "leastDark", desc := "(I)I" } : MethodName)) ∈ bigW := bw5 230 rfl rfl
set_option maxRecDepth 20000 in
theorem wd_1192 : (Cond.instanceMethod ({ cls := "HeadDotsModel", name := "leastDark", desc := "(I)I" } : MethodName)) ∈ bigW := bw5 232 rfl rfl
set_option maxRecDepth 20000 in
theorem wd_1193 : (Cond.code ({ cls := "HeadDotsModel", name := "leastDark", desc := "(I)I" } : MethodName) prog_8_method_65_code 4 (Option.some ClassFile.FieldType.int)) ∈ bigW := bw5 233 rfl rfl
set_option maxRecDepth 20000 in
theorem wd_1194 : (Cond.methodLink "HeadDotsModel" 201 ({ cls := "HeadDotsModel", name := "isDarkBy", desc := "(II)Z" } : MethodName)) ∈ bigW := bw5 234 rfl rfl
set_option maxRecDepth 20000 in
theorem wd_1196 : (Cond.instanceMethod ({ cls := "HeadDotsModel", name := "isDarkBy", desc := "(II)Z" } : MethodName)) ∈ bigW := bw5 236 rfl rfl
set_option maxRecDepth 20000 in
theorem wd_1197 : (Cond.code ({ cls := "HeadDotsModel", name := "isDarkBy", desc := "(II)Z" } : MethodName) prog_8_method_64_code 5 (Option.some ClassFile.FieldType.boolean)) ∈ bigW := bw5 237 rfl rfl
set_option maxRecDepth 20000 in
theorem wd_1198 : (Cond.methodLink "HeadDotsLaw" 148 ({ cls := "HeadDotsModel", name := "darkness", desc := "()D" } : MethodName)) ∈ bigW := bw5 238 rfl rfl
set_option maxRecDepth 20000 in
theorem wd_1199 : (Cond.instanceMethod ({ cls := "HeadDotsModel", name := "darkness", desc := "()D" } : MethodName)) ∈ bigW := bw5 239 rfl rfl
set_option maxRecDepth 20000 in
theorem wd_1200 : (Cond.selects "HeadDotsModel" ({ cls := "HeadDotsModel", name := "darkness", desc := "()D" } : MethodName) ({ cls := "HeadDotsModel", name := "darkness", desc := "()D" } : MethodName)) ∈ bigW := bw6 0 rfl rfl
set_option maxRecDepth 20000 in
theorem wd_1201 : (Cond.code ({ cls := "HeadDotsModel", name := "darkness", desc := "()D" } : MethodName) prog_8_method_68_code 1 (Option.some ClassFile.FieldType.double)) ∈ bigW := bw6 1 rfl rfl
set_option maxRecDepth 20000 in
theorem wd_1202 : (Cond.methodLink "HeadDotsModel" 207 ({ cls := "HeadDotsModel", name := "share", desc := "()D" } : MethodName)) ∈ bigW := bw6 2 rfl rfl
set_option maxRecDepth 20000 in
theorem wd_1204 : (Cond.instanceMethod ({ cls := "HeadDotsModel", name := "share", desc := "()D" } : MethodName)) ∈ bigW := bw6 4 rfl rfl
set_option maxRecDepth 20000 in
theorem wd_1205 : (Cond.code ({ cls := "HeadDotsModel", name := "share", desc := "()D" } : MethodName) prog_8_method_67_code 2 (Option.some ClassFile.FieldType.double)) ∈ bigW := bw6 5 rfl rfl
set_option maxRecDepth 20000 in
theorem wd_1206 : (Cond.methodLink "HeadDotsLaw" 153 ({ cls := "HeadDotsModel", name := "meanHeat", desc := "()F" } : MethodName)) ∈ bigW := bw6 6 rfl rfl
set_option maxRecDepth 20000 in
theorem wd_1207 : (Cond.instanceMethod ({ cls := "HeadDotsModel", name := "meanHeat", desc := "()F" } : MethodName)) ∈ bigW := bw6 7 rfl rfl
set_option maxRecDepth 20000 in
theorem wd_1208 : (Cond.selects "HeadDotsModel" ({ cls := "HeadDotsModel", name := "meanHeat", desc := "()F" } : MethodName) ({ cls := "HeadDotsModel", name := "meanHeat", desc := "()F" } : MethodName)) ∈ bigW := bw6 8 rfl rfl
set_option maxRecDepth 20000 in
theorem wd_1209 : (Cond.code ({ cls := "HeadDotsModel", name := "meanHeat", desc := "()F" } : MethodName) prog_8_method_70_code 1 (Option.some ClassFile.FieldType.float)) ∈ bigW := bw6 9 rfl rfl
set_option maxRecDepth 20000 in
theorem wd_1210 : (Cond.methodLink "HeadDotsModel" 212 ({ cls := "HeadDotsModel", name := "mean", desc := "()F" } : MethodName)) ∈ bigW := bw6 10 rfl rfl
set_option maxRecDepth 20000 in
theorem wd_1212 : (Cond.instanceMethod ({ cls := "HeadDotsModel", name := "mean", desc := "()F" } : MethodName)) ∈ bigW := bw6 12 rfl rfl
set_option maxRecDepth 20000 in
theorem wd_1213 : (Cond.code ({ cls := "HeadDotsModel", name := "mean", desc := "()F" } : MethodName) prog_8_method_69_code 1 (Option.some ClassFile.FieldType.float)) ∈ bigW := bw6 13 rfl rfl
set_option maxRecDepth 20000 in
theorem wd_1214 : (Cond.constantFloat "HeadDotsModel" 211 (1103101952 : UInt32)) ∈ bigW := bw6 14 rfl rfl
set_option maxRecDepth 20000 in
theorem wd_1215 : (Cond.methodLink "HeadDotsLaw" 158 ({ cls := "HeadDotsModel", name := "digest", desc := "()J" } : MethodName)) ∈ bigW := bw6 15 rfl rfl
set_option maxRecDepth 20000 in
theorem wd_1216 : (Cond.instanceMethod ({ cls := "HeadDotsModel", name := "digest", desc := "()J" } : MethodName)) ∈ bigW := bw6 16 rfl rfl
set_option maxRecDepth 20000 in
theorem wd_1217 : (Cond.selects "HeadDotsModel" ({ cls := "HeadDotsModel", name := "digest", desc := "()J" } : MethodName) ({ cls := "HeadDotsModel", name := "digest", desc := "()J" } : MethodName)) ∈ bigW := bw6 17 rfl rfl
set_option maxRecDepth 20000 in
theorem wd_1218 : (Cond.code ({ cls := "HeadDotsModel", name := "digest", desc := "()J" } : MethodName) prog_8_method_73_code 2 (Option.some ClassFile.FieldType.long)) ∈ bigW := bw6 18 rfl rfl
set_option maxRecDepth 20000 in
theorem wd_1219 : (Cond.constantLong "HeadDotsModel" 226 (3833 : Int64)) ∈ bigW := bw6 19 rfl rfl
set_option maxRecDepth 20000 in
theorem wd_1220 : (Cond.methodLink "HeadDotsModel" 222 ({ cls := "HeadDotsModel", name := "mix", desc := "(J)V" } : MethodName)) ∈ bigW := bw6 20 rfl rfl
set_option maxRecDepth 20000 in
theorem wd_1222 : (Cond.instanceMethod ({ cls := "HeadDotsModel", name := "mix", desc := "(J)V" } : MethodName)) ∈ bigW := bw6 22 rfl rfl
set_option maxRecDepth 20000 in
theorem wd_1223 : (Cond.code ({ cls := "HeadDotsModel", name := "mix", desc := "(J)V" } : MethodName) prog_8_method_71_code 3 (Option.none : Option ClassFile.FieldType)) ∈ bigW := bw6 23 rfl rfl
set_option maxRecDepth 20000 in
theorem wd_1224 : (Cond.constantLong "HeadDotsModel" 216 (31 : Int64)) ∈ bigW := bw6 24 rfl rfl
set_option maxRecDepth 20000 in
theorem wd_1225 : (Cond.methodLink "HeadDotsModel" 228 ({ cls := "HeadDotsModel", name := "mixStrip", desc := "()V" } : MethodName)) ∈ bigW := bw6 25 rfl rfl
set_option maxRecDepth 20000 in
theorem wd_1227 : (Cond.instanceMethod ({ cls := "HeadDotsModel", name := "mixStrip", desc := "()V" } : MethodName)) ∈ bigW := bw6 27 rfl rfl
set_option maxRecDepth 20000 in
theorem wd_1228 : (Cond.code ({ cls := "HeadDotsModel", name := "mixStrip", desc := "()V" } : MethodName) prog_8_method_72_code 3 (Option.none : Option ClassFile.FieldType)) ∈ bigW := bw6 28 rfl rfl
set_option maxRecDepth 20000 in
theorem wd_1229 : (Cond.constant "HeadDotsModel" 231 (5592405 : Int32)) ∈ bigW := bw6 29 rfl rfl
set_option maxRecDepth 20000 in
theorem wd_1230 : (Cond.constant "HeadDotsModel" 232 (65535 : Int32)) ∈ bigW := bw6 30 rfl rfl
set_option maxRecDepth 20000 in
theorem wd_1231 : (Cond.methodLink "HeadDotsModel" 233 ({ cls := "java/lang/Double", name := "doubleToLongBits", desc := "(D)J" } : MethodName)) ∈ bigW := bw6 31 rfl rfl
set_option maxRecDepth 20000 in
theorem wd_1232 : (Cond.static ({ cls := "java/lang/Double", name := "doubleToLongBits", desc := "(D)J" } : MethodName)) ∈ bigW := bw6 32 rfl rfl
set_option maxRecDepth 20000 in
theorem wd_1233 : (Cond.code ({ cls := "java/lang/Double", name := "doubleToLongBits", desc := "(D)J" } : MethodName) prog_9_method_23_code 2 (Option.some ClassFile.FieldType.long)) ∈ bigW := bw6 33 rfl rfl
set_option maxRecDepth 20000 in
theorem wd_1234 : (Cond.methodLink "java/lang/Double" 122 ({ cls := "java/lang/Double", name := "isNaN", desc := "(D)Z" } : MethodName)) ∈ bigW := bw6 34 rfl rfl
set_option maxRecDepth 20000 in
theorem wd_1235 : (Cond.static ({ cls := "java/lang/Double", name := "isNaN", desc := "(D)Z" } : MethodName)) ∈ bigW := bw6 35 rfl rfl
set_option maxRecDepth 20000 in
theorem wd_1236 : (Cond.code ({ cls := "java/lang/Double", name := "isNaN", desc := "(D)Z" } : MethodName) prog_9_method_6_code 2 (Option.some ClassFile.FieldType.boolean)) ∈ bigW := bw6 36 rfl rfl
set_option maxRecDepth 20000 in
theorem wd_1237 : (Cond.methodLink "java/lang/Double" 134 ({ cls := "java/lang/Double", name := "doubleToRawLongBits", desc := "(D)J" } : MethodName)) ∈ bigW := bw6 37 rfl rfl
set_option maxRecDepth 20000 in
theorem wd_1238 : (Cond.static ({ cls := "java/lang/Double", name := "doubleToRawLongBits", desc := "(D)J" } : MethodName)) ∈ bigW := bw6 38 rfl rfl
set_option maxRecDepth 20000 in
theorem wd_1239 : (Cond.native ({ cls := "java/lang/Double", name := "doubleToRawLongBits", desc := "(D)J" } : MethodName)) ∈ bigW := bw6 39 rfl rfl
set_option maxRecDepth 20000 in
theorem wd_1240 : (Cond.constantLong "java/lang/Double" 137 (9221120237041090560 : Int64)) ∈ bigW := bw6 40 rfl rfl
set_option maxRecDepth 20000 in
theorem wd_1241 : (Cond.methodLink "HeadDotsModel" 239 ({ cls := "java/lang/Float", name := "floatToIntBits", desc := "(F)I" } : MethodName)) ∈ bigW := bw6 41 rfl rfl
set_option maxRecDepth 20000 in
theorem wd_1242 : (Cond.static ({ cls := "java/lang/Float", name := "floatToIntBits", desc := "(F)I" } : MethodName)) ∈ bigW := bw6 42 rfl rfl
set_option maxRecDepth 20000 in
theorem wd_1243 : (Cond.code ({ cls := "java/lang/Float", name := "floatToIntBits", desc := "(F)I" } : MethodName) prog_11_method_24_code 1 (Option.some ClassFile.FieldType.int)) ∈ bigW := bw6 43 rfl rfl
set_option maxRecDepth 20000 in
theorem wd_1244 : (Cond.methodLink "java/lang/Float" 59 ({ cls := "java/lang/Float", name := "isNaN", desc := "(F)Z" } : MethodName)) ∈ bigW := bw6 44 rfl rfl
set_option maxRecDepth 20000 in
theorem wd_1245 : (Cond.static ({ cls := "java/lang/Float", name := "isNaN", desc := "(F)Z" } : MethodName)) ∈ bigW := bw6 45 rfl rfl
set_option maxRecDepth 20000 in
theorem wd_1246 : (Cond.code ({ cls := "java/lang/Float", name := "isNaN", desc := "(F)Z" } : MethodName) prog_11_method_6_code 1 (Option.some ClassFile.FieldType.boolean)) ∈ bigW := bw6 46 rfl rfl
set_option maxRecDepth 20000 in
theorem wd_1247 : (Cond.methodLink "java/lang/Float" 74 ({ cls := "java/lang/Float", name := "floatToRawIntBits", desc := "(F)I" } : MethodName)) ∈ bigW := bw6 47 rfl rfl
set_option maxRecDepth 20000 in
theorem wd_1248 : (Cond.static ({ cls := "java/lang/Float", name := "floatToRawIntBits", desc := "(F)I" } : MethodName)) ∈ bigW := bw6 48 rfl rfl
set_option maxRecDepth 20000 in
theorem wd_1249 : (Cond.native ({ cls := "java/lang/Float", name := "floatToRawIntBits", desc := "(F)I" } : MethodName)) ∈ bigW := bw6 49 rfl rfl
set_option maxRecDepth 20000 in
theorem wd_1250 : (Cond.constant "java/lang/Float" 77 (2143289344 : Int32)) ∈ bigW := bw6 50 rfl rfl
set_option maxRecDepth 20000 in
theorem wd_1251 : (Cond.arrayClass ClassFile.FieldType.long) ∈ bigW := bw6 51 rfl rfl
set_option maxRecDepth 20000 in
theorem wd_1253 : (Cond.fieldLink "java/lang/String" 9 "java/lang/String" "value" "[B") ∈ bigW := bw6 53 rfl rfl
set_option maxRecDepth 20000 in
theorem wd_1254 : (Cond.fieldLink "java/lang/String" 15 "java/lang/String" "coder" "B") ∈ bigW := bw6 54 rfl rfl
