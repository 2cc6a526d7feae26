theorem w_0 : (Jvm.Cond.initialized "VeilSearchLaw") ∈ gT := gT_in1 0 rfl rfl
theorem w_1 : (Jvm.Cond.initialized "VeilSearch") ∈ gT := gT_in1 1 rfl rfl
theorem w_2 : (Jvm.Cond.initialized "VeilSearch$Documents") ∈ gT := gT_in1 2 rfl rfl
theorem w_3 : (Jvm.Cond.initialized "VeilSearch$Filters") ∈ gT := gT_in1 3 rfl rfl
theorem w_4 : (Jvm.Cond.initialized "VeilSearch$Query") ∈ gT := gT_in1 4 rfl rfl
theorem w_5 : (Jvm.Cond.initialized "VeilSearch$Hits") ∈ gT := gT_in1 5 rfl rfl
theorem w_6 : (Jvm.Cond.initialized "VeilSearch$View") ∈ gT := gT_in1 6 rfl rfl
theorem w_7 : (Jvm.Cond.initialized "VeilSearch$Rights") ∈ gT := gT_in1 7 rfl rfl
theorem w_8 : (Jvm.Cond.initialized "VeilSearch$Segments") ∈ gT := gT_in1 8 rfl rfl
theorem w_9 : (Jvm.Cond.initialized "VeilSearchModel") ∈ gT := gT_in1 9 rfl rfl
theorem w_10 : (Jvm.Cond.initialized "java/lang/Throwable") ∈ gT := gT_in1 10 rfl rfl
theorem w_11 : (Jvm.Cond.initialized "java/lang/Exception") ∈ gT := gT_in1 11 rfl rfl
theorem w_12 : (Jvm.Cond.initialized "java/lang/RuntimeException") ∈ gT := gT_in1 12 rfl rfl
theorem w_13 : (Jvm.Cond.initialized "java/lang/IllegalArgumentException") ∈ gT := gT_in1 13 rfl rfl
theorem w_14 : (Jvm.Cond.initialized "java/lang/IllegalStateException") ∈ gT := gT_in1 14 rfl rfl
theorem w_15 : (Jvm.Cond.initialized "java/util/NoSuchElementException") ∈ gT := gT_in1 15 rfl rfl
theorem w_16 : (Jvm.Cond.initialized "java/lang/Long") ∈ gT := gT_in1 16 rfl rfl
theorem w_17 : (Jvm.Cond.initialized "java/lang/System") ∈ gT := gT_in1 17 rfl rfl
theorem w_18 : (Jvm.Cond.initialized "java/lang/Math") ∈ gT := gT_in1 18 rfl rfl
theorem w_19 : (Jvm.Cond.initialized "java/lang/IndexOutOfBoundsException") ∈ gT := gT_in1 19 rfl rfl
theorem w_20 : (Jvm.Cond.initialized "java/lang/UnsupportedOperationException") ∈ gT := gT_in1 20 rfl rfl
theorem w_21 : (Jvm.Cond.classLink "VeilSearchLaw" (8 : Nat) "VeilSearch") ∈ gT := gT_in1 21 rfl rfl
theorem w_22 : (Jvm.Cond.instantiable "VeilSearch" (10 : Nat)) ∈ gT := gT_in1 22 rfl rfl
theorem w_23 : (Jvm.Cond.methodLink "VeilSearchLaw" (71 : Nat) ({ cls := "VeilSearch", name := "<init>", desc := "()V" } : Jvm.MethodName)) ∈ gT := gT_in1 23 rfl rfl
theorem w_24 : (Jvm.Cond.instanceMethod ({ cls := "VeilSearch", name := "<init>", desc := "()V" } : Jvm.MethodName)) ∈ gT := gT_in1 24 rfl rfl
theorem w_25 : (Jvm.Cond.code ({ cls := "VeilSearch", name := "<init>", desc := "()V" } : Jvm.MethodName) prog_1_method_1_code (1 : Nat) (Option.none : Option Jvm.ClassFile.FieldType)) ∈ gT := gT_in1 25 rfl rfl
theorem w_26 : (Jvm.Cond.methodLink "VeilSearch" (3 : Nat) ({ cls := "java/lang/Object", name := "<init>", desc := "()V" } : Jvm.MethodName)) ∈ gT := gT_in1 26 rfl rfl
theorem w_27 : (Jvm.Cond.instanceMethod ({ cls := "java/lang/Object", name := "<init>", desc := "()V" } : Jvm.MethodName)) ∈ gT := gT_in1 27 rfl rfl
theorem w_28 : (Jvm.Cond.code ({ cls := "java/lang/Object", name := "<init>", desc := "()V" } : Jvm.MethodName) object_method_1_code (1 : Nat) (Option.none : Option Jvm.ClassFile.FieldType)) ∈ gT := gT_in1 28 rfl rfl
theorem w_29 : (Jvm.Cond.classLink "VeilSearch" (9 : Nat) "VeilSearch$Documents") ∈ gT := gT_in1 29 rfl rfl
theorem w_30 : (Jvm.Cond.instantiable "VeilSearch$Documents" (5 : Nat)) ∈ gT := gT_in1 30 rfl rfl
theorem w_31 : (Jvm.Cond.methodLinkNest "VeilSearch" (11 : Nat) ({ cls := "VeilSearch$Documents", name := "<init>", desc := "()V" } : Jvm.MethodName) "VeilSearch") ∈ gN := gN_in1 31 rfl rfl
theorem w_32 : (Jvm.Cond.instanceMethod ({ cls := "VeilSearch$Documents", name := "<init>", desc := "()V" } : Jvm.MethodName)) ∈ gT := gT_in1 32 rfl rfl
theorem w_33 : (Jvm.Cond.code ({ cls := "VeilSearch$Documents", name := "<init>", desc := "()V" } : Jvm.MethodName) prog_2_method_1_code (1 : Nat) (Option.none : Option Jvm.ClassFile.FieldType)) ∈ gT := gT_in1 33 rfl rfl
theorem w_34 : (Jvm.Cond.methodLink "VeilSearch$Documents" (3 : Nat) ({ cls := "java/lang/Object", name := "<init>", desc := "()V" } : Jvm.MethodName)) ∈ gT := gT_in1 34 rfl rfl
theorem w_35 : (Jvm.Cond.fieldLink "VeilSearch$Documents" (9 : Nat) "VeilSearch$Documents" "codes" "[I") ∈ gT := gT_in1 35 rfl rfl
theorem w_36 : (Jvm.Cond.fieldLinkNest "VeilSearch" (93 : Nat) "VeilSearch$Documents" "codes" "[I" "VeilSearch") ∈ gN := gN_in1 36 rfl rfl
theorem w_37 : (Jvm.Cond.fieldLinkNest "VeilSearch$Query" (51 : Nat) "VeilSearch$Documents" "codes" "[I" "VeilSearch") ∈ gN := gN_in1 37 rfl rfl
theorem w_38 : (Jvm.Cond.fieldLink "VeilSearch$Documents" (15 : Nat) "VeilSearch$Documents" "values" "[I") ∈ gT := gT_in1 38 rfl rfl
theorem w_39 : (Jvm.Cond.fieldLinkNest "VeilSearch" (107 : Nat) "VeilSearch$Documents" "values" "[I" "VeilSearch") ∈ gN := gN_in1 39 rfl rfl
theorem w_40 : (Jvm.Cond.fieldLink "VeilSearch$Documents" (18 : Nat) "VeilSearch$Documents" "allowed" "[I") ∈ gT := gT_in1 40 rfl rfl
theorem w_41 : (Jvm.Cond.fieldLinkNest "VeilSearch" (110 : Nat) "VeilSearch$Documents" "allowed" "[I" "VeilSearch") ∈ gN := gN_in1 41 rfl rfl
theorem w_42 : (Jvm.Cond.fieldLink "VeilSearch$Documents" (21 : Nat) "VeilSearch$Documents" "denied" "[I") ∈ gT := gT_in1 42 rfl rfl
theorem w_43 : (Jvm.Cond.fieldLinkNest "VeilSearch" (113 : Nat) "VeilSearch$Documents" "denied" "[I" "VeilSearch") ∈ gN := gN_in1 43 rfl rfl
theorem w_44 : (Jvm.Cond.fieldLink "VeilSearch$Documents" (24 : Nat) "VeilSearch$Documents" "ids" "I") ∈ gT := gT_in1 44 rfl rfl
theorem w_45 : (Jvm.Cond.fieldLinkNest "VeilSearch" (96 : Nat) "VeilSearch$Documents" "ids" "I" "VeilSearch") ∈ gN := gN_in1 45 rfl rfl
theorem w_46 : (Jvm.Cond.laysFinal "VeilSearch$Documents" "VeilSearch$Documents" "codes" "[I") ∈ gT := gT_in1 46 rfl rfl
theorem w_48 : (Jvm.Cond.laysFinal "VeilSearch$Documents" "VeilSearch$Documents" "values" "[I") ∈ gT := gT_in1 48 rfl rfl
theorem w_50 : (Jvm.Cond.laysFinal "VeilSearch$Documents" "VeilSearch$Documents" "allowed" "[I") ∈ gT := gT_in1 50 rfl rfl
theorem w_52 : (Jvm.Cond.laysFinal "VeilSearch$Documents" "VeilSearch$Documents" "denied" "[I") ∈ gT := gT_in1 52 rfl rfl
theorem w_54 : (Jvm.Cond.lays "VeilSearch$Documents" "VeilSearch$Documents" "ids" "I") ∈ gT := gT_in1 54 rfl rfl
theorem w_56 : (Jvm.Cond.superclass "VeilSearch$Documents" "java/lang/Object") ∈ gT := gT_in1 56 rfl rfl
theorem w_57 : (Jvm.Cond.arrayClass Jvm.ClassFile.FieldType.int) ∈ gT := gT_in1 57 rfl rfl
theorem w_58 : (Jvm.Cond.classLink "VeilSearch" (16 : Nat) "VeilSearch$Filters") ∈ gT := gT_in1 58 rfl rfl
theorem w_59 : (Jvm.Cond.instantiable "VeilSearch$Filters" (6 : Nat)) ∈ gT := gT_in1 59 rfl rfl
theorem w_60 : (Jvm.Cond.methodLinkNest "VeilSearch" (18 : Nat) ({ cls := "VeilSearch$Filters", name := "<init>", desc := "()V" } : Jvm.MethodName) "VeilSearch") ∈ gN := gN_in1 60 rfl rfl
theorem w_61 : (Jvm.Cond.instanceMethod ({ cls := "VeilSearch$Filters", name := "<init>", desc := "()V" } : Jvm.MethodName)) ∈ gT := gT_in1 61 rfl rfl
theorem w_62 : (Jvm.Cond.code ({ cls := "VeilSearch$Filters", name := "<init>", desc := "()V" } : Jvm.MethodName) prog_3_method_1_code (1 : Nat) (Option.none : Option Jvm.ClassFile.FieldType)) ∈ gT := gT_in1 62 rfl rfl
theorem w_63 : (Jvm.Cond.methodLink "VeilSearch$Filters" (3 : Nat) ({ cls := "java/lang/Object", name := "<init>", desc := "()V" } : Jvm.MethodName)) ∈ gT := gT_in1 63 rfl rfl
theorem w_64 : (Jvm.Cond.fieldLink "VeilSearch$Filters" (9 : Nat) "VeilSearch$Filters" "segments" "[I") ∈ gT := gT_in1 64 rfl rfl
theorem w_65 : (Jvm.Cond.fieldLink "VeilSearch$Filters" (15 : Nat) "VeilSearch$Filters" "users" "[I") ∈ gT := gT_in1 65 rfl rfl
theorem w_66 : (Jvm.Cond.fieldLink "VeilSearch$Filters" (18 : Nat) "VeilSearch$Filters" "readable" "[J") ∈ gT := gT_in1 66 rfl rfl
theorem w_67 : (Jvm.Cond.fieldLink "VeilSearch$Filters" (22 : Nat) "VeilSearch$Filters" "kept" "I") ∈ gT := gT_in1 67 rfl rfl
theorem w_68 : (Jvm.Cond.fieldLinkNest "VeilSearch" (170 : Nat) "VeilSearch$Filters" "kept" "I" "VeilSearch") ∈ gN := gN_in1 68 rfl rfl
theorem w_69 : (Jvm.Cond.fieldLink "VeilSearch$Filters" (26 : Nat) "VeilSearch$Filters" "made" "I") ∈ gT := gT_in1 69 rfl rfl
theorem w_70 : (Jvm.Cond.fieldLinkNest "VeilSearch" (225 : Nat) "VeilSearch$Filters" "made" "I" "VeilSearch") ∈ gN := gN_in1 70 rfl rfl
theorem w_71 : (Jvm.Cond.fieldLink "VeilSearch$Filters" (29 : Nat) "VeilSearch$Filters" "reused" "I") ∈ gT := gT_in1 71 rfl rfl
theorem w_72 : (Jvm.Cond.fieldLinkNest "VeilSearch" (228 : Nat) "VeilSearch$Filters" "reused" "I" "VeilSearch") ∈ gN := gN_in1 72 rfl rfl
theorem w_73 : (Jvm.Cond.laysFinal "VeilSearch$Filters" "VeilSearch$Filters" "segments" "[I") ∈ gT := gT_in1 73 rfl rfl
theorem w_75 : (Jvm.Cond.laysFinal "VeilSearch$Filters" "VeilSearch$Filters" "users" "[I") ∈ gT := gT_in1 75 rfl rfl
theorem w_77 : (Jvm.Cond.laysFinal "VeilSearch$Filters" "VeilSearch$Filters" "readable" "[J") ∈ gT := gT_in1 77 rfl rfl
theorem w_79 : (Jvm.Cond.lays "VeilSearch$Filters" "VeilSearch$Filters" "kept" "I") ∈ gT := gT_in1 79 rfl rfl
theorem w_81 : (Jvm.Cond.lays "VeilSearch$Filters" "VeilSearch$Filters" "made" "I") ∈ gT := gT_in1 81 rfl rfl
theorem w_83 : (Jvm.Cond.lays "VeilSearch$Filters" "VeilSearch$Filters" "reused" "I") ∈ gT := gT_in1 83 rfl rfl
theorem w_85 : (Jvm.Cond.superclass "VeilSearch$Filters" "java/lang/Object") ∈ gT := gT_in1 85 rfl rfl
theorem w_86 : (Jvm.Cond.arrayClass Jvm.ClassFile.FieldType.long) ∈ gT := gT_in1 86 rfl rfl
theorem w_87 : (Jvm.Cond.classLink "VeilSearch" (23 : Nat) "VeilSearch$Query") ∈ gT := gT_in1 87 rfl rfl
theorem w_88 : (Jvm.Cond.instantiable "VeilSearch$Query" (7 : Nat)) ∈ gT := gT_in1 88 rfl rfl
theorem w_89 : (Jvm.Cond.methodLinkNest "VeilSearch" (25 : Nat) ({ cls := "VeilSearch$Query", name := "<init>", desc := "()V" } : Jvm.MethodName) "VeilSearch") ∈ gN := gN_in1 89 rfl rfl
theorem w_90 : (Jvm.Cond.instanceMethod ({ cls := "VeilSearch$Query", name := "<init>", desc := "()V" } : Jvm.MethodName)) ∈ gT := gT_in1 90 rfl rfl
theorem w_91 : (Jvm.Cond.code ({ cls := "VeilSearch$Query", name := "<init>", desc := "()V" } : Jvm.MethodName) prog_5_method_1_code (1 : Nat) (Option.none : Option Jvm.ClassFile.FieldType)) ∈ gT := gT_in1 91 rfl rfl
theorem w_92 : (Jvm.Cond.methodLink "VeilSearch$Query" (3 : Nat) ({ cls := "java/lang/Object", name := "<init>", desc := "()V" } : Jvm.MethodName)) ∈ gT := gT_in1 92 rfl rfl
theorem w_93 : (Jvm.Cond.fieldLink "VeilSearch$Query" (9 : Nat) "VeilSearch$Query" "sorts" "[I") ∈ gT := gT_in1 93 rfl rfl
theorem w_94 : (Jvm.Cond.fieldLink "VeilSearch$Query" (15 : Nat) "VeilSearch$Query" "terms" "[I") ∈ gT := gT_in1 94 rfl rfl
theorem w_95 : (Jvm.Cond.fieldLink "VeilSearch$Query" (18 : Nat) "VeilSearch$Query" "fields" "[I") ∈ gT := gT_in1 95 rfl rfl
theorem w_96 : (Jvm.Cond.fieldLink "VeilSearch$Query" (21 : Nat) "VeilSearch$Query" "weights" "[F") ∈ gT := gT_in1 96 rfl rfl
theorem w_97 : (Jvm.Cond.fieldLink "VeilSearch$Query" (25 : Nat) "VeilSearch$Query" "open" "[Z") ∈ gT := gT_in1 97 rfl rfl
theorem w_98 : (Jvm.Cond.fieldLink "VeilSearch$Query" (29 : Nat) "VeilSearch$Query" "veiledMust" "Z") ∈ gT := gT_in1 98 rfl rfl
theorem w_99 : (Jvm.Cond.fieldLink "VeilSearch$Query" (33 : Nat) "VeilSearch$Query" "size" "I") ∈ gT := gT_in1 99 rfl rfl
theorem w_100 : (Jvm.Cond.fieldLinkNest "VeilSearch" (176 : Nat) "VeilSearch$Query" "size" "I" "VeilSearch") ∈ gN := gN_in1 100 rfl rfl
theorem w_101 : (Jvm.Cond.laysFinal "VeilSearch$Query" "VeilSearch$Query" "sorts" "[I") ∈ gT := gT_in1 101 rfl rfl
theorem w_103 : (Jvm.Cond.laysFinal "VeilSearch$Query" "VeilSearch$Query" "terms" "[I") ∈ gT := gT_in1 103 rfl rfl
theorem w_105 : (Jvm.Cond.laysFinal "VeilSearch$Query" "VeilSearch$Query" "fields" "[I") ∈ gT := gT_in1 105 rfl rfl
theorem w_107 : (Jvm.Cond.laysFinal "VeilSearch$Query" "VeilSearch$Query" "weights" "[F") ∈ gT := gT_in1 107 rfl rfl
theorem w_109 : (Jvm.Cond.laysFinal "VeilSearch$Query" "VeilSearch$Query" "open" "[Z") ∈ gT := gT_in1 109 rfl rfl
theorem w_111 : (Jvm.Cond.lays "VeilSearch$Query" "VeilSearch$Query" "veiledMust" "Z") ∈ gT := gT_in1 111 rfl rfl
theorem w_113 : (Jvm.Cond.lays "VeilSearch$Query" "VeilSearch$Query" "size" "I") ∈ gT := gT_in1 113 rfl rfl
theorem w_115 : (Jvm.Cond.superclass "VeilSearch$Query" "java/lang/Object") ∈ gT := gT_in1 115 rfl rfl
theorem w_116 : (Jvm.Cond.arrayClass Jvm.ClassFile.FieldType.float) ∈ gT := gT_in1 116 rfl rfl
theorem w_117 : (Jvm.Cond.arrayClass Jvm.ClassFile.FieldType.boolean) ∈ gT := gT_in1 117 rfl rfl
theorem w_118 : (Jvm.Cond.classLink "VeilSearch" (30 : Nat) "VeilSearch$Hits") ∈ gT := gT_in1 118 rfl rfl
theorem w_119 : (Jvm.Cond.instantiable "VeilSearch$Hits" (4 : Nat)) ∈ gT := gT_in1 119 rfl rfl
theorem w_120 : (Jvm.Cond.methodLinkNest "VeilSearch" (32 : Nat) ({ cls := "VeilSearch$Hits", name := "<init>", desc := "()V" } : Jvm.MethodName) "VeilSearch") ∈ gN := gN_in1 120 rfl rfl
theorem w_121 : (Jvm.Cond.instanceMethod ({ cls := "VeilSearch$Hits", name := "<init>", desc := "()V" } : Jvm.MethodName)) ∈ gT := gT_in1 121 rfl rfl
theorem w_122 : (Jvm.Cond.code ({ cls := "VeilSearch$Hits", name := "<init>", desc := "()V" } : Jvm.MethodName) prog_4_method_1_code (1 : Nat) (Option.none : Option Jvm.ClassFile.FieldType)) ∈ gT := gT_in1 122 rfl rfl
theorem w_123 : (Jvm.Cond.methodLink "VeilSearch$Hits" (3 : Nat) ({ cls := "java/lang/Object", name := "<init>", desc := "()V" } : Jvm.MethodName)) ∈ gT := gT_in1 123 rfl rfl
theorem w_124 : (Jvm.Cond.fieldLink "VeilSearch$Hits" (9 : Nat) "VeilSearch$Hits" "ids" "[I") ∈ gT := gT_in1 124 rfl rfl
theorem w_125 : (Jvm.Cond.fieldLinkNest "VeilSearch" (207 : Nat) "VeilSearch$Hits" "ids" "[I" "VeilSearch") ∈ gN := gN_in1 125 rfl rfl
theorem w_126 : (Jvm.Cond.fieldLink "VeilSearch$Hits" (15 : Nat) "VeilSearch$Hits" "scores" "[F") ∈ gT := gT_in1 126 rfl rfl
theorem w_127 : (Jvm.Cond.fieldLinkNest "VeilSearch" (209 : Nat) "VeilSearch$Hits" "scores" "[F" "VeilSearch") ∈ gN := gN_in1 127 rfl rfl
theorem w_128 : (Jvm.Cond.fieldLink "VeilSearch$Hits" (19 : Nat) "VeilSearch$Hits" "size" "I") ∈ gT := gT_in1 128 rfl rfl
theorem w_129 : (Jvm.Cond.fieldLinkNest "VeilSearch" (203 : Nat) "VeilSearch$Hits" "size" "I" "VeilSearch") ∈ gN := gN_in1 129 rfl rfl
theorem w_130 : (Jvm.Cond.fieldLink "VeilSearch$Hits" (23 : Nat) "VeilSearch$Hits" "most" "I") ∈ gT := gT_in1 130 rfl rfl
theorem w_131 : (Jvm.Cond.fieldLinkNest "VeilSearch" (260 : Nat) "VeilSearch$Hits" "most" "I" "VeilSearch") ∈ gN := gN_in1 131 rfl rfl
theorem w_132 : (Jvm.Cond.laysFinal "VeilSearch$Hits" "VeilSearch$Hits" "ids" "[I") ∈ gT := gT_in1 132 rfl rfl
theorem w_134 : (Jvm.Cond.laysFinal "VeilSearch$Hits" "VeilSearch$Hits" "scores" "[F") ∈ gT := gT_in1 134 rfl rfl
theorem w_136 : (Jvm.Cond.lays "VeilSearch$Hits" "VeilSearch$Hits" "size" "I") ∈ gT := gT_in1 136 rfl rfl
theorem w_138 : (Jvm.Cond.lays "VeilSearch$Hits" "VeilSearch$Hits" "most" "I") ∈ gT := gT_in1 138 rfl rfl
theorem w_140 : (Jvm.Cond.superclass "VeilSearch$Hits" "java/lang/Object") ∈ gT := gT_in1 140 rfl rfl
theorem w_141 : (Jvm.Cond.classLink "VeilSearch" (37 : Nat) "VeilSearch$View") ∈ gT := gT_in1 141 rfl rfl
theorem w_142 : (Jvm.Cond.instantiable "VeilSearch$View" (3 : Nat)) ∈ gT := gT_in1 142 rfl rfl
theorem w_143 : (Jvm.Cond.methodLinkNest "VeilSearch" (39 : Nat) ({ cls := "VeilSearch$View", name := "<init>", desc := "()V" } : Jvm.MethodName) "VeilSearch") ∈ gN := gN_in1 143 rfl rfl
theorem w_144 : (Jvm.Cond.instanceMethod ({ cls := "VeilSearch$View", name := "<init>", desc := "()V" } : Jvm.MethodName)) ∈ gT := gT_in1 144 rfl rfl
theorem w_145 : (Jvm.Cond.code ({ cls := "VeilSearch$View", name := "<init>", desc := "()V" } : Jvm.MethodName) prog_8_method_1_code (1 : Nat) (Option.none : Option Jvm.ClassFile.FieldType)) ∈ gT := gT_in1 145 rfl rfl
theorem w_146 : (Jvm.Cond.methodLink "VeilSearch$View" (1 : Nat) ({ cls := "java/lang/Object", name := "<init>", desc := "()V" } : Jvm.MethodName)) ∈ gT := gT_in1 146 rfl rfl
theorem w_147 : (Jvm.Cond.classLink "VeilSearch$View" (7 : Nat) "VeilSearch$Rights") ∈ gT := gT_in1 147 rfl rfl
theorem w_148 : (Jvm.Cond.instantiable "VeilSearch$Rights" (3 : Nat)) ∈ gT := gT_in1 148 rfl rfl
theorem w_149 : (Jvm.Cond.methodLinkNest "VeilSearch$View" (9 : Nat) ({ cls := "VeilSearch$Rights", name := "<init>", desc := "()V" } : Jvm.MethodName) "VeilSearch") ∈ gN := gN_in1 149 rfl rfl
theorem w_150 : (Jvm.Cond.instanceMethod ({ cls := "VeilSearch$Rights", name := "<init>", desc := "()V" } : Jvm.MethodName)) ∈ gT := gT_in1 150 rfl rfl
theorem w_151 : (Jvm.Cond.code ({ cls := "VeilSearch$Rights", name := "<init>", desc := "()V" } : Jvm.MethodName) prog_6_method_1_code (1 : Nat) (Option.none : Option Jvm.ClassFile.FieldType)) ∈ gT := gT_in1 151 rfl rfl
theorem w_152 : (Jvm.Cond.methodLink "VeilSearch$Rights" (3 : Nat) ({ cls := "java/lang/Object", name := "<init>", desc := "()V" } : Jvm.MethodName)) ∈ gT := gT_in1 152 rfl rfl
theorem w_153 : (Jvm.Cond.fieldLink "VeilSearch$Rights" (9 : Nat) "VeilSearch$Rights" "groupsOf" "[I") ∈ gT := gT_in1 153 rfl rfl
theorem w_154 : (Jvm.Cond.fieldLink "VeilSearch$Rights" (15 : Nat) "VeilSearch$Rights" "levels" "[I") ∈ gT := gT_in1 154 rfl rfl
theorem w_155 : (Jvm.Cond.fieldLinkNest "VeilSearch" (78 : Nat) "VeilSearch$Rights" "levels" "[I" "VeilSearch") ∈ gN := gN_in1 155 rfl rfl
theorem w_156 : (Jvm.Cond.fieldLink "VeilSearch$Rights" (18 : Nat) "VeilSearch$Rights" "clearances" "[I") ∈ gT := gT_in1 156 rfl rfl
theorem w_157 : (Jvm.Cond.fieldLinkNest "VeilSearch" (82 : Nat) "VeilSearch$Rights" "clearances" "[I" "VeilSearch") ∈ gN := gN_in1 157 rfl rfl
theorem w_158 : (Jvm.Cond.laysFinal "VeilSearch$Rights" "VeilSearch$Rights" "groupsOf" "[I") ∈ gT := gT_in1 158 rfl rfl
theorem w_160 : (Jvm.Cond.laysFinal "VeilSearch$Rights" "VeilSearch$Rights" "levels" "[I") ∈ gT := gT_in1 160 rfl rfl
theorem w_162 : (Jvm.Cond.laysFinal "VeilSearch$Rights" "VeilSearch$Rights" "clearances" "[I") ∈ gT := gT_in1 162 rfl rfl
theorem w_164 : (Jvm.Cond.superclass "VeilSearch$Rights" "java/lang/Object") ∈ gT := gT_in1 164 rfl rfl
theorem w_165 : (Jvm.Cond.classLink "VeilSearch$View" (16 : Nat) "VeilSearch$Segments") ∈ gT := gT_in1 165 rfl rfl
theorem w_166 : (Jvm.Cond.instantiable "VeilSearch$Segments" (3 : Nat)) ∈ gT := gT_in1 166 rfl rfl
theorem w_167 : (Jvm.Cond.methodLinkNest "VeilSearch$View" (18 : Nat) ({ cls := "VeilSearch$Segments", name := "<init>", desc := "()V" } : Jvm.MethodName) "VeilSearch") ∈ gN := gN_in1 167 rfl rfl
theorem w_168 : (Jvm.Cond.instanceMethod ({ cls := "VeilSearch$Segments", name := "<init>", desc := "()V" } : Jvm.MethodName)) ∈ gT := gT_in1 168 rfl rfl
theorem w_169 : (Jvm.Cond.code ({ cls := "VeilSearch$Segments", name := "<init>", desc := "()V" } : Jvm.MethodName) prog_7_method_1_code (1 : Nat) (Option.none : Option Jvm.ClassFile.FieldType)) ∈ gT := gT_in1 169 rfl rfl
theorem w_170 : (Jvm.Cond.methodLink "VeilSearch$Segments" (3 : Nat) ({ cls := "java/lang/Object", name := "<init>", desc := "()V" } : Jvm.MethodName)) ∈ gT := gT_in1 170 rfl rfl
theorem w_171 : (Jvm.Cond.fieldLink "VeilSearch$Segments" (9 : Nat) "VeilSearch$Segments" "numbers" "[I") ∈ gT := gT_in1 171 rfl rfl
theorem w_172 : (Jvm.Cond.fieldLinkNest "VeilSearch" (189 : Nat) "VeilSearch$Segments" "numbers" "[I" "VeilSearch") ∈ gN := gN_in1 172 rfl rfl
theorem w_173 : (Jvm.Cond.fieldLink "VeilSearch$Segments" (15 : Nat) "VeilSearch$Segments" "ids" "[J") ∈ gT := gT_in1 173 rfl rfl
theorem w_174 : (Jvm.Cond.fieldLinkNest "VeilSearch" (192 : Nat) "VeilSearch$Segments" "ids" "[J" "VeilSearch") ∈ gN := gN_in1 174 rfl rfl
theorem w_175 : (Jvm.Cond.fieldLink "VeilSearch$Segments" (19 : Nat) "VeilSearch$Segments" "size" "I") ∈ gT := gT_in1 175 rfl rfl
theorem w_176 : (Jvm.Cond.fieldLinkNest "VeilSearch" (139 : Nat) "VeilSearch$Segments" "size" "I" "VeilSearch") ∈ gN := gN_in1 176 rfl rfl
theorem w_177 : (Jvm.Cond.laysFinal "VeilSearch$Segments" "VeilSearch$Segments" "numbers" "[I") ∈ gT := gT_in1 177 rfl rfl
theorem w_179 : (Jvm.Cond.laysFinal "VeilSearch$Segments" "VeilSearch$Segments" "ids" "[J") ∈ gT := gT_in1 179 rfl rfl
theorem w_181 : (Jvm.Cond.lays "VeilSearch$Segments" "VeilSearch$Segments" "size" "I") ∈ gT := gT_in1 181 rfl rfl
theorem w_183 : (Jvm.Cond.superclass "VeilSearch$Segments" "java/lang/Object") ∈ gT := gT_in1 183 rfl rfl
theorem w_184 : (Jvm.Cond.fieldLink "VeilSearch$View" (10 : Nat) "VeilSearch$View" "rights" "LVeilSearch$Rights;") ∈ gT := gT_in1 184 rfl rfl
theorem w_185 : (Jvm.Cond.fieldLinkNest "VeilSearch" (68 : Nat) "VeilSearch$View" "rights" "LVeilSearch$Rights;" "VeilSearch") ∈ gN := gN_in1 185 rfl rfl
theorem w_186 : (Jvm.Cond.fieldLink "VeilSearch$View" (19 : Nat) "VeilSearch$View" "segments" "LVeilSearch$Segments;") ∈ gT := gT_in1 186 rfl rfl
theorem w_187 : (Jvm.Cond.fieldLinkNest "VeilSearch" (135 : Nat) "VeilSearch$View" "segments" "LVeilSearch$Segments;" "VeilSearch") ∈ gN := gN_in1 187 rfl rfl
theorem w_188 : (Jvm.Cond.fieldLink "VeilSearch$View" (23 : Nat) "VeilSearch$View" "removed" "J") ∈ gT := gT_in1 188 rfl rfl
theorem w_189 : (Jvm.Cond.fieldLinkNest "VeilSearch" (123 : Nat) "VeilSearch$View" "removed" "J" "VeilSearch") ∈ gN := gN_in1 189 rfl rfl
theorem w_190 : (Jvm.Cond.laysFinal "VeilSearch$View" "VeilSearch$View" "rights" "LVeilSearch$Rights;") ∈ gT := gT_in1 190 rfl rfl
theorem w_192 : (Jvm.Cond.laysFinal "VeilSearch$View" "VeilSearch$View" "segments" "LVeilSearch$Segments;") ∈ gT := gT_in1 192 rfl rfl
theorem w_194 : (Jvm.Cond.lays "VeilSearch$View" "VeilSearch$View" "removed" "J") ∈ gT := gT_in1 194 rfl rfl
theorem w_196 : (Jvm.Cond.superclass "VeilSearch$View" "java/lang/Object") ∈ gT := gT_in1 196 rfl rfl
theorem w_197 : (Jvm.Cond.fieldLink "VeilSearch" (12 : Nat) "VeilSearch" "documents" "LVeilSearch$Documents;") ∈ gT := gT_in1 197 rfl rfl
theorem w_198 : (Jvm.Cond.fieldLink "VeilSearch" (19 : Nat) "VeilSearch" "filters" "LVeilSearch$Filters;") ∈ gT := gT_in1 198 rfl rfl
theorem w_199 : (Jvm.Cond.fieldLink "VeilSearch" (26 : Nat) "VeilSearch" "query" "LVeilSearch$Query;") ∈ gT := gT_in1 199 rfl rfl
theorem w_200 : (Jvm.Cond.fieldLink "VeilSearch" (33 : Nat) "VeilSearch" "hits" "LVeilSearch$Hits;") ∈ gT := gT_in1 200 rfl rfl
theorem w_201 : (Jvm.Cond.fieldLink "VeilSearch" (40 : Nat) "VeilSearch" "now" "LVeilSearch$View;") ∈ gT := gT_in1 201 rfl rfl
theorem w_202 : (Jvm.Cond.fieldLink "VeilSearch" (44 : Nat) "VeilSearch" "seen" "LVeilSearch$View;") ∈ gT := gT_in1 202 rfl rfl
theorem w_203 : (Jvm.Cond.fieldLink "VeilSearch" (47 : Nat) "VeilSearch" "buffer" "J") ∈ gT := gT_in1 203 rfl rfl
theorem w_204 : (Jvm.Cond.fieldLink "VeilSearch" (51 : Nat) "VeilSearch" "segmentsMade" "I") ∈ gT := gT_in1 204 rfl rfl
theorem w_205 : (Jvm.Cond.fieldLink "VeilSearch" (55 : Nat) "VeilSearch" "blocksLooked" "I") ∈ gT := gT_in1 205 rfl rfl
theorem w_206 : (Jvm.Cond.fieldLink "VeilSearch" (58 : Nat) "VeilSearch" "documentsFound" "I") ∈ gT := gT_in1 206 rfl rfl
theorem w_207 : (Jvm.Cond.laysFinal "VeilSearch" "VeilSearch" "documents" "LVeilSearch$Documents;") ∈ gT := gT_in1 207 rfl rfl
theorem w_209 : (Jvm.Cond.laysFinal "VeilSearch" "VeilSearch" "filters" "LVeilSearch$Filters;") ∈ gT := gT_in1 209 rfl rfl
theorem w_211 : (Jvm.Cond.laysFinal "VeilSearch" "VeilSearch" "query" "LVeilSearch$Query;") ∈ gT := gT_in1 211 rfl rfl
theorem w_213 : (Jvm.Cond.laysFinal "VeilSearch" "VeilSearch" "hits" "LVeilSearch$Hits;") ∈ gT := gT_in1 213 rfl rfl
theorem w_215 : (Jvm.Cond.laysFinal "VeilSearch" "VeilSearch" "now" "LVeilSearch$View;") ∈ gT := gT_in1 215 rfl rfl
theorem w_217 : (Jvm.Cond.laysFinal "VeilSearch" "VeilSearch" "seen" "LVeilSearch$View;") ∈ gT := gT_in1 217 rfl rfl
theorem w_219 : (Jvm.Cond.lays "VeilSearch" "VeilSearch" "buffer" "J") ∈ gT := gT_in1 219 rfl rfl
theorem w_221 : (Jvm.Cond.lays "VeilSearch" "VeilSearch" "segmentsMade" "I") ∈ gT := gT_in1 221 rfl rfl
theorem w_223 : (Jvm.Cond.lays "VeilSearch" "VeilSearch" "blocksLooked" "I") ∈ gT := gT_in1 223 rfl rfl
theorem w_225 : (Jvm.Cond.lays "VeilSearch" "VeilSearch" "documentsFound" "I") ∈ gT := gT_in1 225 rfl rfl
theorem w_227 : (Jvm.Cond.superclass "VeilSearch" "java/lang/Object") ∈ gT := gT_in1 227 rfl rfl
theorem w_228 : (Jvm.Cond.methodLink "VeilSearchLaw" (114 : Nat) ({ cls := "VeilSearch", name := "merge", desc := "()I" } : Jvm.MethodName)) ∈ gT := gT_in1 228 rfl rfl
theorem w_229 : (Jvm.Cond.instanceMethod ({ cls := "VeilSearch", name := "merge", desc := "()I" } : Jvm.MethodName)) ∈ gT := gT_in1 229 rfl rfl
theorem w_230 : (Jvm.Cond.selects "VeilSearch" ({ cls := "VeilSearch", name := "merge", desc := "()I" } : Jvm.MethodName) ({ cls := "VeilSearch", name := "merge", desc := "()I" } : Jvm.MethodName)) ∈ gT := gT_in1 230 rfl rfl
theorem w_231 : (Jvm.Cond.code ({ cls := "VeilSearch", name := "merge", desc := "()I" } : Jvm.MethodName) prog_1_method_10_code (5 : Nat) (Option.some Jvm.ClassFile.FieldType.int)) ∈ gT := gT_in1 231 rfl rfl
theorem w_232 : (Jvm.Cond.methodLink "VeilSearch" (154 : Nat) ({ cls := "VeilSearch$Segments", name := "allIds", desc := "()J" } : Jvm.MethodName)) ∈ gT := gT_in1 232 rfl rfl
theorem w_233 : (Jvm.Cond.instanceMethod ({ cls := "VeilSearch$Segments", name := "allIds", desc := "()J" } : Jvm.MethodName)) ∈ gT := gT_in1 233 rfl rfl
theorem w_234 : (Jvm.Cond.selects "VeilSearch$Segments" ({ cls := "VeilSearch$Segments", name := "allIds", desc := "()J" } : Jvm.MethodName) ({ cls := "VeilSearch$Segments", name := "allIds", desc := "()J" } : Jvm.MethodName)) ∈ gT := gT_in1 234 rfl rfl
theorem w_235 : (Jvm.Cond.code ({ cls := "VeilSearch$Segments", name := "allIds", desc := "()J" } : Jvm.MethodName) prog_7_method_3_code (4 : Nat) (Option.some Jvm.ClassFile.FieldType.long)) ∈ gT := gT_in1 235 rfl rfl
theorem w_236 : (Jvm.Cond.constantLong "VeilSearch" (133 : Nat) (-1 : Int64)) ∈ gT := gT_in1 236 rfl rfl
theorem w_237 : (Jvm.Cond.methodLink "VeilSearch" (150 : Nat) ({ cls := "VeilSearch", name := "appendSegment", desc := "(J)V" } : Jvm.MethodName)) ∈ gT := gT_in1 237 rfl rfl
theorem w_239 : (Jvm.Cond.instanceMethod ({ cls := "VeilSearch", name := "appendSegment", desc := "(J)V" } : Jvm.MethodName)) ∈ gT := gT_in1 239 rfl rfl
theorem w_240 : (Jvm.Cond.code ({ cls := "VeilSearch", name := "appendSegment", desc := "(J)V" } : Jvm.MethodName) prog_1_method_24_code (3 : Nat) (Option.none : Option Jvm.ClassFile.FieldType)) ∈ gT := gT_in2 0 rfl rfl
theorem w_241 : (Jvm.Cond.methodLink "VeilSearch" (237 : Nat) ({ cls := "VeilSearch$Segments", name := "append", desc := "(IJ)V" } : Jvm.MethodName)) ∈ gT := gT_in2 1 rfl rfl
theorem w_242 : (Jvm.Cond.instanceMethod ({ cls := "VeilSearch$Segments", name := "append", desc := "(IJ)V" } : Jvm.MethodName)) ∈ gT := gT_in2 2 rfl rfl
theorem w_243 : (Jvm.Cond.selects "VeilSearch$Segments" ({ cls := "VeilSearch$Segments", name := "append", desc := "(IJ)V" } : Jvm.MethodName) ({ cls := "VeilSearch$Segments", name := "append", desc := "(IJ)V" } : Jvm.MethodName)) ∈ gT := gT_in2 3 rfl rfl
theorem w_244 : (Jvm.Cond.code ({ cls := "VeilSearch$Segments", name := "append", desc := "(IJ)V" } : Jvm.MethodName) prog_7_method_2_code (4 : Nat) (Option.none : Option Jvm.ClassFile.FieldType)) ∈ gT := gT_in2 4 rfl rfl
theorem w_245 : (Jvm.Cond.methodLink "VeilSearch" (144 : Nat) ({ cls := "java/lang/Long", name := "bitCount", desc := "(J)I" } : Jvm.MethodName)) ∈ gT := gT_in2 5 rfl rfl
theorem w_246 : (Jvm.Cond.static ({ cls := "java/lang/Long", name := "bitCount", desc := "(J)I" } : Jvm.MethodName)) ∈ gT := gT_in2 6 rfl rfl
theorem w_247 : (Jvm.Cond.code ({ cls := "java/lang/Long", name := "bitCount", desc := "(J)I" } : Jvm.MethodName) prog_15_method_50_code (2 : Nat) (Option.some Jvm.ClassFile.FieldType.int)) ∈ gT := gT_in2 7 rfl rfl
theorem w_248 : (Jvm.Cond.constantLong "java/lang/Long" (314 : Nat) (6148914691236517205 : Int64)) ∈ gT := gT_in2 8 rfl rfl
theorem w_249 : (Jvm.Cond.constantLong "java/lang/Long" (316 : Nat) (3689348814741910323 : Int64)) ∈ gT := gT_in2 9 rfl rfl
theorem w_250 : (Jvm.Cond.constantLong "java/lang/Long" (318 : Nat) (1085102592571150095 : Int64)) ∈ gT := gT_in2 10 rfl rfl
theorem w_251 : (Jvm.Cond.methodLink "VeilSearchLaw" (118 : Nat) ({ cls := "VeilSearch", name := "refresh", desc := "()I" } : Jvm.MethodName)) ∈ gT := gT_in2 11 rfl rfl
theorem w_252 : (Jvm.Cond.instanceMethod ({ cls := "VeilSearch", name := "refresh", desc := "()I" } : Jvm.MethodName)) ∈ gT := gT_in2 12 rfl rfl
theorem w_253 : (Jvm.Cond.selects "VeilSearch" ({ cls := "VeilSearch", name := "refresh", desc := "()I" } : Jvm.MethodName) ({ cls := "VeilSearch", name := "refresh", desc := "()I" } : Jvm.MethodName)) ∈ gT := gT_in2 13 rfl rfl
theorem w_254 : (Jvm.Cond.code ({ cls := "VeilSearch", name := "refresh", desc := "()I" } : Jvm.MethodName) prog_1_method_11_code (2 : Nat) (Option.some Jvm.ClassFile.FieldType.int)) ∈ gT := gT_in2 14 rfl rfl
theorem w_255 : (Jvm.Cond.methodLink "VeilSearch" (158 : Nat) ({ cls := "VeilSearch$Rights", name := "sameAs", desc := "(LVeilSearch$Rights;)Z" } : Jvm.MethodName)) ∈ gT := gT_in2 15 rfl rfl
theorem w_256 : (Jvm.Cond.instanceMethod ({ cls := "VeilSearch$Rights", name := "sameAs", desc := "(LVeilSearch$Rights;)Z" } : Jvm.MethodName)) ∈ gT := gT_in2 16 rfl rfl
theorem w_257 : (Jvm.Cond.selects "VeilSearch$Rights" ({ cls := "VeilSearch$Rights", name := "sameAs", desc := "(LVeilSearch$Rights;)Z" } : Jvm.MethodName) ({ cls := "VeilSearch$Rights", name := "sameAs", desc := "(LVeilSearch$Rights;)Z" } : Jvm.MethodName)) ∈ gT := gT_in2 17 rfl rfl
theorem w_258 : (Jvm.Cond.code ({ cls := "VeilSearch$Rights", name := "sameAs", desc := "(LVeilSearch$Rights;)Z" } : Jvm.MethodName) prog_6_method_5_code (2 : Nat) (Option.some Jvm.ClassFile.FieldType.boolean)) ∈ gT := gT_in2 18 rfl rfl
theorem w_259 : (Jvm.Cond.methodLink "VeilSearch$Rights" (21 : Nat) ({ cls := "VeilSearch$Rights", name := "sameRow", desc := "([I[I)Z" } : Jvm.MethodName)) ∈ gT := gT_in2 19 rfl rfl
theorem w_260 : (Jvm.Cond.static ({ cls := "VeilSearch$Rights", name := "sameRow", desc := "([I[I)Z" } : Jvm.MethodName)) ∈ gT := gT_in2 20 rfl rfl
theorem w_261 : (Jvm.Cond.code ({ cls := "VeilSearch$Rights", name := "sameRow", desc := "([I[I)Z" } : Jvm.MethodName) prog_6_method_6_code (3 : Nat) (Option.some Jvm.ClassFile.FieldType.boolean)) ∈ gT := gT_in2 21 rfl rfl
theorem w_262 : (Jvm.Cond.methodLink "VeilSearch" (162 : Nat) ({ cls := "VeilSearch$View", name := "takeOver", desc := "(LVeilSearch$View;)V" } : Jvm.MethodName)) ∈ gT := gT_in2 22 rfl rfl
theorem w_263 : (Jvm.Cond.instanceMethod ({ cls := "VeilSearch$View", name := "takeOver", desc := "(LVeilSearch$View;)V" } : Jvm.MethodName)) ∈ gT := gT_in2 23 rfl rfl
theorem w_264 : (Jvm.Cond.selects "VeilSearch$View" ({ cls := "VeilSearch$View", name := "takeOver", desc := "(LVeilSearch$View;)V" } : Jvm.MethodName) ({ cls := "VeilSearch$View", name := "takeOver", desc := "(LVeilSearch$View;)V" } : Jvm.MethodName)) ∈ gT := gT_in2 24 rfl rfl
theorem w_265 : (Jvm.Cond.code ({ cls := "VeilSearch$View", name := "takeOver", desc := "(LVeilSearch$View;)V" } : Jvm.MethodName) prog_8_method_3_code (2 : Nat) (Option.none : Option Jvm.ClassFile.FieldType)) ∈ gT := gT_in2 25 rfl rfl
theorem w_266 : (Jvm.Cond.methodLink "VeilSearch$View" (33 : Nat) ({ cls := "VeilSearch$Rights", name := "takeOver", desc := "(LVeilSearch$Rights;)V" } : Jvm.MethodName)) ∈ gT := gT_in2 26 rfl rfl
theorem w_267 : (Jvm.Cond.instanceMethod ({ cls := "VeilSearch$Rights", name := "takeOver", desc := "(LVeilSearch$Rights;)V" } : Jvm.MethodName)) ∈ gT := gT_in2 27 rfl rfl
theorem w_268 : (Jvm.Cond.selects "VeilSearch$Rights" ({ cls := "VeilSearch$Rights", name := "takeOver", desc := "(LVeilSearch$Rights;)V" } : Jvm.MethodName) ({ cls := "VeilSearch$Rights", name := "takeOver", desc := "(LVeilSearch$Rights;)V" } : Jvm.MethodName)) ∈ gT := gT_in2 28 rfl rfl
theorem w_269 : (Jvm.Cond.code ({ cls := "VeilSearch$Rights", name := "takeOver", desc := "(LVeilSearch$Rights;)V" } : Jvm.MethodName) prog_6_method_7_code (2 : Nat) (Option.none : Option Jvm.ClassFile.FieldType)) ∈ gT := gT_in2 29 rfl rfl
theorem w_270 : (Jvm.Cond.methodLink "VeilSearch$Rights" (25 : Nat) ({ cls := "java/lang/System", name := "arraycopy", desc := "(Ljava/lang/Object;ILjava/lang/Object;II)V" } : Jvm.MethodName)) ∈ gT := gT_in2 30 rfl rfl
theorem w_271 : (Jvm.Cond.static ({ cls := "java/lang/System", name := "arraycopy", desc := "(Ljava/lang/Object;ILjava/lang/Object;II)V" } : Jvm.MethodName)) ∈ gT := gT_in2 31 rfl rfl
theorem w_272 : (Jvm.Cond.native ({ cls := "java/lang/System", name := "arraycopy", desc := "(Ljava/lang/Object;ILjava/lang/Object;II)V" } : Jvm.MethodName)) ∈ gT := gT_in2 32 rfl rfl
theorem w_273 : (Jvm.Cond.methodLink "VeilSearch$View" (37 : Nat) ({ cls := "VeilSearch$Segments", name := "takeOver", desc := "(LVeilSearch$Segments;)V" } : Jvm.MethodName)) ∈ gT := gT_in2 33 rfl rfl
theorem w_274 : (Jvm.Cond.instanceMethod ({ cls := "VeilSearch$Segments", name := "takeOver", desc := "(LVeilSearch$Segments;)V" } : Jvm.MethodName)) ∈ gT := gT_in2 34 rfl rfl
theorem w_275 : (Jvm.Cond.selects "VeilSearch$Segments" ({ cls := "VeilSearch$Segments", name := "takeOver", desc := "(LVeilSearch$Segments;)V" } : Jvm.MethodName) ({ cls := "VeilSearch$Segments", name := "takeOver", desc := "(LVeilSearch$Segments;)V" } : Jvm.MethodName)) ∈ gT := gT_in2 35 rfl rfl
theorem w_276 : (Jvm.Cond.code ({ cls := "VeilSearch$Segments", name := "takeOver", desc := "(LVeilSearch$Segments;)V" } : Jvm.MethodName) prog_7_method_5_code (2 : Nat) (Option.none : Option Jvm.ClassFile.FieldType)) ∈ gT := gT_in2 36 rfl rfl
theorem w_277 : (Jvm.Cond.methodLink "VeilSearch$Segments" (23 : Nat) ({ cls := "java/lang/System", name := "arraycopy", desc := "(Ljava/lang/Object;ILjava/lang/Object;II)V" } : Jvm.MethodName)) ∈ gT := gT_in2 37 rfl rfl
theorem w_278 : (Jvm.Cond.methodLink "VeilSearch" (166 : Nat) ({ cls := "VeilSearch$Filters", name := "dropAllBut", desc := "(LVeilSearch$Segments;)V" } : Jvm.MethodName)) ∈ gT := gT_in2 38 rfl rfl
theorem w_279 : (Jvm.Cond.instanceMethod ({ cls := "VeilSearch$Filters", name := "dropAllBut", desc := "(LVeilSearch$Segments;)V" } : Jvm.MethodName)) ∈ gT := gT_in2 39 rfl rfl
theorem w_280 : (Jvm.Cond.selects "VeilSearch$Filters" ({ cls := "VeilSearch$Filters", name := "dropAllBut", desc := "(LVeilSearch$Segments;)V" } : Jvm.MethodName) ({ cls := "VeilSearch$Filters", name := "dropAllBut", desc := "(LVeilSearch$Segments;)V" } : Jvm.MethodName)) ∈ gT := gT_in2 40 rfl rfl
theorem w_281 : (Jvm.Cond.code ({ cls := "VeilSearch$Filters", name := "dropAllBut", desc := "(LVeilSearch$Segments;)V" } : Jvm.MethodName) prog_3_method_5_code (3 : Nat) (Option.none : Option Jvm.ClassFile.FieldType)) ∈ gT := gT_in2 41 rfl rfl
theorem w_282 : (Jvm.Cond.methodLink "VeilSearch$Filters" (40 : Nat) ({ cls := "VeilSearch$Segments", name := "hasNumber", desc := "(I)Z" } : Jvm.MethodName)) ∈ gT := gT_in2 42 rfl rfl
theorem w_283 : (Jvm.Cond.instanceMethod ({ cls := "VeilSearch$Segments", name := "hasNumber", desc := "(I)Z" } : Jvm.MethodName)) ∈ gT := gT_in2 43 rfl rfl
theorem w_284 : (Jvm.Cond.selects "VeilSearch$Segments" ({ cls := "VeilSearch$Segments", name := "hasNumber", desc := "(I)Z" } : Jvm.MethodName) ({ cls := "VeilSearch$Segments", name := "hasNumber", desc := "(I)Z" } : Jvm.MethodName)) ∈ gT := gT_in2 44 rfl rfl
theorem w_285 : (Jvm.Cond.code ({ cls := "VeilSearch$Segments", name := "hasNumber", desc := "(I)Z" } : Jvm.MethodName) prog_7_method_4_code (3 : Nat) (Option.some Jvm.ClassFile.FieldType.boolean)) ∈ gT := gT_in2 45 rfl rfl
theorem w_286 : (Jvm.Cond.methodLink "VeilSearch$Filters" (32 : Nat) ({ cls := "VeilSearch$Filters", name := "drop", desc := "(I)V" } : Jvm.MethodName)) ∈ gT := gT_in2 46 rfl rfl
theorem w_288 : (Jvm.Cond.instanceMethod ({ cls := "VeilSearch$Filters", name := "drop", desc := "(I)V" } : Jvm.MethodName)) ∈ gT := gT_in2 48 rfl rfl
theorem w_289 : (Jvm.Cond.code ({ cls := "VeilSearch$Filters", name := "drop", desc := "(I)V" } : Jvm.MethodName) prog_3_method_7_code (3 : Nat) (Option.none : Option Jvm.ClassFile.FieldType)) ∈ gT := gT_in2 49 rfl rfl
theorem w_290 : (Jvm.Cond.methodLink "VeilSearch" (173 : Nat) ({ cls := "VeilSearch$View", name := "livingIds", desc := "()J" } : Jvm.MethodName)) ∈ gT := gT_in2 50 rfl rfl
theorem w_291 : (Jvm.Cond.instanceMethod ({ cls := "VeilSearch$View", name := "livingIds", desc := "()J" } : Jvm.MethodName)) ∈ gT := gT_in2 51 rfl rfl
theorem w_292 : (Jvm.Cond.selects "VeilSearch$View" ({ cls := "VeilSearch$View", name := "livingIds", desc := "()J" } : Jvm.MethodName) ({ cls := "VeilSearch$View", name := "livingIds", desc := "()J" } : Jvm.MethodName)) ∈ gT := gT_in2 52 rfl rfl
theorem w_293 : (Jvm.Cond.code ({ cls := "VeilSearch$View", name := "livingIds", desc := "()J" } : Jvm.MethodName) prog_8_method_2_code (1 : Nat) (Option.some Jvm.ClassFile.FieldType.long)) ∈ gT := gT_in2 53 rfl rfl
theorem w_294 : (Jvm.Cond.methodLink "VeilSearch$View" (27 : Nat) ({ cls := "VeilSearch$Segments", name := "allIds", desc := "()J" } : Jvm.MethodName)) ∈ gT := gT_in2 54 rfl rfl
theorem w_295 : (Jvm.Cond.constantLong "VeilSearch$View" (31 : Nat) (-1 : Int64)) ∈ gT := gT_in2 55 rfl rfl
theorem w_296 : (Jvm.Cond.methodLink "VeilSearchLaw" (126 : Nat) ({ cls := "VeilSearch", name := "clear", desc := "()I" } : Jvm.MethodName)) ∈ gT := gT_in2 56 rfl rfl
theorem w_297 : (Jvm.Cond.instanceMethod ({ cls := "VeilSearch", name := "clear", desc := "()I" } : Jvm.MethodName)) ∈ gT := gT_in2 57 rfl rfl
theorem w_298 : (Jvm.Cond.selects "VeilSearch" ({ cls := "VeilSearch", name := "clear", desc := "()I" } : Jvm.MethodName) ({ cls := "VeilSearch", name := "clear", desc := "()I" } : Jvm.MethodName)) ∈ gT := gT_in2 58 rfl rfl
theorem w_299 : (Jvm.Cond.code ({ cls := "VeilSearch", name := "clear", desc := "()I" } : Jvm.MethodName) prog_1_method_13_code (2 : Nat) (Option.some Jvm.ClassFile.FieldType.int)) ∈ gT := gT_in2 59 rfl rfl
theorem w_300 : (Jvm.Cond.methodLink "VeilSearchLaw" (75 : Nat) ({ cls := "VeilSearchLaw", name := "member", desc := "(LVeilSearch;IIZ[J)I" } : Jvm.MethodName)) ∈ gT := gT_in2 60 rfl rfl
theorem w_301 : (Jvm.Cond.static ({ cls := "VeilSearchLaw", name := "member", desc := "(LVeilSearch;IIZ[J)I" } : Jvm.MethodName)) ∈ gT := gT_in2 61 rfl rfl
theorem w_302 : (Jvm.Cond.codeWith ({ cls := "VeilSearchLaw", name := "member", desc := "(LVeilSearch;IIZ[J)I" } : Jvm.MethodName) method_3_code (6 : Nat) (Option.some Jvm.ClassFile.FieldType.int) [((0 : Nat), (19 : Nat), (22 : Nat), (13 : Nat))]) ∈ gT := gT_in2 62 rfl rfl
theorem w_303 : (Jvm.Cond.classLink "VeilSearchLaw" (13 : Nat) "java/lang/IllegalArgumentException") ∈ gT := gT_in2 63 rfl rfl
theorem w_304 : (Jvm.Cond.methodLink "VeilSearchLaw" (7 : Nat) ({ cls := "VeilSearch", name := "member", desc := "(IIZ)Z" } : Jvm.MethodName)) ∈ gT := gT_in2 64 rfl rfl
theorem w_305 : (Jvm.Cond.instanceMethod ({ cls := "VeilSearch", name := "member", desc := "(IIZ)Z" } : Jvm.MethodName)) ∈ gT := gT_in2 65 rfl rfl
theorem w_306 : (Jvm.Cond.selects "VeilSearch" ({ cls := "VeilSearch", name := "member", desc := "(IIZ)Z" } : Jvm.MethodName) ({ cls := "VeilSearch", name := "member", desc := "(IIZ)Z" } : Jvm.MethodName)) ∈ gT := gT_in2 66 rfl rfl
theorem w_307 : (Jvm.Cond.code ({ cls := "VeilSearch", name := "member", desc := "(IIZ)Z" } : Jvm.MethodName) prog_1_method_2_code (4 : Nat) (Option.some Jvm.ClassFile.FieldType.boolean)) ∈ gT := gT_in2 67 rfl rfl
theorem w_308 : (Jvm.Cond.methodLink "VeilSearch" (61 : Nat) ({ cls := "VeilSearch", name := "isBelow", desc := "(II)Z" } : Jvm.MethodName)) ∈ gT := gT_in2 68 rfl rfl
theorem w_309 : (Jvm.Cond.static ({ cls := "VeilSearch", name := "isBelow", desc := "(II)Z" } : Jvm.MethodName)) ∈ gT := gT_in2 69 rfl rfl
theorem w_310 : (Jvm.Cond.code ({ cls := "VeilSearch", name := "isBelow", desc := "(II)Z" } : Jvm.MethodName) prog_1_method_19_code (2 : Nat) (Option.some Jvm.ClassFile.FieldType.boolean)) ∈ gT := gT_in2 70 rfl rfl
theorem w_311 : (Jvm.Cond.classLink "VeilSearch" (65 : Nat) "java/lang/IllegalArgumentException") ∈ gT := gT_in2 71 rfl rfl
theorem w_312 : (Jvm.Cond.instantiable "java/lang/IllegalArgumentException" (6 : Nat)) ∈ gT := gT_in2 72 rfl rfl
theorem w_313 : (Jvm.Cond.castable "java/lang/IllegalArgumentException" "java/lang/IllegalArgumentException") ∈ gN := gN_in2 73 rfl rfl
theorem w_314 : (Jvm.Cond.declares ({ cls := "java/lang/RuntimeException", name := "<init>", desc := "()V" } : Jvm.MethodName)) ∈ gN := gN_in2 74 rfl rfl
theorem w_315 : (Jvm.Cond.declares ({ cls := "java/lang/RuntimeException", name := "<init>", desc := "(Ljava/lang/String;)V" } : Jvm.MethodName)) ∈ gN := gN_in2 75 rfl rfl
theorem w_316 : (Jvm.Cond.declares ({ cls := "java/lang/Exception", name := "<init>", desc := "()V" } : Jvm.MethodName)) ∈ gN := gN_in2 76 rfl rfl
theorem w_317 : (Jvm.Cond.declares ({ cls := "java/lang/Exception", name := "<init>", desc := "(Ljava/lang/String;)V" } : Jvm.MethodName)) ∈ gN := gN_in2 77 rfl rfl
theorem w_318 : (Jvm.Cond.declares ({ cls := "java/lang/Throwable", name := "<init>", desc := "()V" } : Jvm.MethodName)) ∈ gN := gN_in2 78 rfl rfl
theorem w_319 : (Jvm.Cond.declares ({ cls := "java/lang/Throwable", name := "<init>", desc := "(Ljava/lang/String;)V" } : Jvm.MethodName)) ∈ gN := gN_in2 79 rfl rfl
theorem w_320 : (Jvm.Cond.selects "java/lang/IllegalArgumentException" ({ cls := "java/lang/Throwable", name := "fillInStackTrace", desc := "(I)Ljava/lang/Throwable;" } : Jvm.MethodName) ({ cls := "java/lang/Throwable", name := "fillInStackTrace", desc := "(I)Ljava/lang/Throwable;" } : Jvm.MethodName)) ∈ gT := gT_in2 80 rfl rfl
theorem w_321 : (Jvm.Cond.selects "java/lang/IllegalArgumentException" ({ cls := "java/lang/Throwable", name := "fillInStackTrace", desc := "()Ljava/lang/Throwable;" } : Jvm.MethodName) ({ cls := "java/lang/Throwable", name := "fillInStackTrace", desc := "()Ljava/lang/Throwable;" } : Jvm.MethodName)) ∈ gT := gT_in2 81 rfl rfl
theorem w_322 : (Jvm.Cond.lays "java/lang/IllegalArgumentException" "java/lang/Throwable" "cause" "Ljava/lang/Throwable;") ∈ gT := gT_in2 82 rfl rfl
theorem w_323 : (Jvm.Cond.lays "java/lang/Throwable" "java/lang/Throwable" "cause" "Ljava/lang/Throwable;") ∈ gT := gT_in2 83 rfl rfl
theorem w_324 : (Jvm.Cond.lays "java/lang/IllegalArgumentException" "java/lang/Throwable" "stackTrace" "[Ljava/lang/StackTraceElement;") ∈ gT := gT_in2 84 rfl rfl
theorem w_325 : (Jvm.Cond.lays "java/lang/Throwable" "java/lang/Throwable" "stackTrace" "[Ljava/lang/StackTraceElement;") ∈ gT := gT_in2 85 rfl rfl
theorem w_326 : (Jvm.Cond.lays "java/lang/IllegalArgumentException" "java/lang/Throwable" "suppressedExceptions" "Ljava/util/List;") ∈ gT := gT_in2 86 rfl rfl
theorem w_327 : (Jvm.Cond.lays "java/lang/Throwable" "java/lang/Throwable" "suppressedExceptions" "Ljava/util/List;") ∈ gT := gT_in2 87 rfl rfl
theorem w_328 : (Jvm.Cond.lays "java/lang/IllegalArgumentException" "java/lang/Throwable" "detailMessage" "Ljava/lang/String;") ∈ gT := gT_in2 88 rfl rfl
theorem w_329 : (Jvm.Cond.lays "java/lang/Throwable" "java/lang/Throwable" "detailMessage" "Ljava/lang/String;") ∈ gT := gT_in2 89 rfl rfl
theorem w_330 : (Jvm.Cond.lays "java/lang/IllegalArgumentException" "java/lang/Throwable" "backtrace" "Ljava/lang/Object;") ∈ gT := gT_in2 90 rfl rfl
theorem w_331 : (Jvm.Cond.lays "java/lang/Throwable" "java/lang/Throwable" "backtrace" "Ljava/lang/Object;") ∈ gT := gT_in2 91 rfl rfl
theorem w_332 : (Jvm.Cond.fieldLink "java/lang/Throwable" (198 : Nat) "java/lang/Throwable" "backtrace" "Ljava/lang/Object;") ∈ gT := gT_in2 92 rfl rfl
theorem w_333 : (Jvm.Cond.superclass "java/lang/Throwable" "java/lang/Object") ∈ gT := gT_in2 93 rfl rfl
theorem w_334 : (Jvm.Cond.instanceMethod ({ cls := "java/lang/Throwable", name := "<init>", desc := "()V" } : Jvm.MethodName)) ∈ gT := gT_in2 94 rfl rfl
theorem w_335 : (Jvm.Cond.code ({ cls := "java/lang/Throwable", name := "<init>", desc := "()V" } : Jvm.MethodName) prog_19_method_1_code (1 : Nat) (Option.none : Option Jvm.ClassFile.FieldType)) ∈ gT := gT_in2 95 rfl rfl
theorem w_336 : (Jvm.Cond.methodLink "java/lang/Throwable" (1 : Nat) ({ cls := "java/lang/Object", name := "<init>", desc := "()V" } : Jvm.MethodName)) ∈ gT := gT_in2 96 rfl rfl
theorem w_337 : (Jvm.Cond.fieldLink "java/lang/Throwable" (13 : Nat) "java/lang/Throwable" "UNASSIGNED_STACK" "[Ljava/lang/StackTraceElement;") ∈ gT := gT_in2 97 rfl rfl
theorem w_339 : (Jvm.Cond.fieldLink "java/lang/Throwable" (20 : Nat) "java/lang/Throwable" "SUPPRESSED_SENTINEL" "Ljava/util/List;") ∈ gT := gT_in2 99 rfl rfl
theorem w_341 : (Jvm.Cond.methodLink "java/lang/Throwable" (27 : Nat) ({ cls := "java/lang/Throwable", name := "fillInStackTrace", desc := "()Ljava/lang/Throwable;" } : Jvm.MethodName)) ∈ gT := gT_in2 101 rfl rfl
theorem w_342 : (Jvm.Cond.instanceMethod ({ cls := "java/lang/Throwable", name := "fillInStackTrace", desc := "()Ljava/lang/Throwable;" } : Jvm.MethodName)) ∈ gT := gT_in2 102 rfl rfl
theorem w_343 : (Jvm.Cond.sameMethod "java/lang/Throwable" "java/lang/Throwable" "fillInStackTrace" "()Ljava/lang/Throwable;") ∈ gT := gT_in2 103 rfl rfl
theorem w_344 : (Jvm.Cond.selects "java/lang/IllegalStateException" ({ cls := "java/lang/Throwable", name := "fillInStackTrace", desc := "()Ljava/lang/Throwable;" } : Jvm.MethodName) ({ cls := "java/lang/Throwable", name := "fillInStackTrace", desc := "()Ljava/lang/Throwable;" } : Jvm.MethodName)) ∈ gT := gT_in2 104 rfl rfl
theorem w_345 : (Jvm.Cond.selects "java/lang/IndexOutOfBoundsException" ({ cls := "java/lang/Throwable", name := "fillInStackTrace", desc := "()Ljava/lang/Throwable;" } : Jvm.MethodName) ({ cls := "java/lang/Throwable", name := "fillInStackTrace", desc := "()Ljava/lang/Throwable;" } : Jvm.MethodName)) ∈ gT := gT_in2 105 rfl rfl
theorem w_346 : (Jvm.Cond.selects "java/lang/UnsupportedOperationException" ({ cls := "java/lang/Throwable", name := "fillInStackTrace", desc := "()Ljava/lang/Throwable;" } : Jvm.MethodName) ({ cls := "java/lang/Throwable", name := "fillInStackTrace", desc := "()Ljava/lang/Throwable;" } : Jvm.MethodName)) ∈ gT := gT_in2 106 rfl rfl
theorem w_347 : (Jvm.Cond.selects "java/util/NoSuchElementException" ({ cls := "java/lang/Throwable", name := "fillInStackTrace", desc := "()Ljava/lang/Throwable;" } : Jvm.MethodName) ({ cls := "java/lang/Throwable", name := "fillInStackTrace", desc := "()Ljava/lang/Throwable;" } : Jvm.MethodName)) ∈ gT := gT_in2 107 rfl rfl
theorem w_348 : (Jvm.Cond.codeSync ({ cls := "java/lang/Throwable", name := "fillInStackTrace", desc := "()Ljava/lang/Throwable;" } : Jvm.MethodName) prog_19_method_18_code (1 : Nat) (Option.some (Jvm.ClassFile.FieldType.object "java/lang/Throwable"))) ∈ gT := gT_in2 108 rfl rfl
theorem w_349 : (Jvm.Cond.methodLink "java/lang/Throwable" (202 : Nat) ({ cls := "java/lang/Throwable", name := "fillInStackTrace", desc := "(I)Ljava/lang/Throwable;" } : Jvm.MethodName)) ∈ gT := gT_in2 109 rfl rfl
theorem w_351 : (Jvm.Cond.instanceMethod ({ cls := "java/lang/Throwable", name := "fillInStackTrace", desc := "(I)Ljava/lang/Throwable;" } : Jvm.MethodName)) ∈ gT := gT_in2 111 rfl rfl
theorem w_352 : (Jvm.Cond.instantiable "java/lang/Throwable" (6 : Nat)) ∈ gT := gT_in2 112 rfl rfl
theorem w_353 : (Jvm.Cond.native ({ cls := "java/lang/Throwable", name := "fillInStackTrace", desc := "(I)Ljava/lang/Throwable;" } : Jvm.MethodName)) ∈ gT := gT_in2 113 rfl rfl
theorem w_354 : (Jvm.Cond.methodLink "VeilSearch" (67 : Nat) ({ cls := "java/lang/IllegalArgumentException", name := "<init>", desc := "()V" } : Jvm.MethodName)) ∈ gT := gT_in2 114 rfl rfl
theorem w_355 : (Jvm.Cond.instanceMethod ({ cls := "java/lang/IllegalArgumentException", name := "<init>", desc := "()V" } : Jvm.MethodName)) ∈ gT := gT_in2 115 rfl rfl
theorem w_356 : (Jvm.Cond.code ({ cls := "java/lang/IllegalArgumentException", name := "<init>", desc := "()V" } : Jvm.MethodName) prog_12_method_1_code (1 : Nat) (Option.none : Option Jvm.ClassFile.FieldType)) ∈ gT := gT_in2 116 rfl rfl
theorem w_357 : (Jvm.Cond.methodLink "java/lang/IllegalArgumentException" (1 : Nat) ({ cls := "java/lang/RuntimeException", name := "<init>", desc := "()V" } : Jvm.MethodName)) ∈ gT := gT_in2 117 rfl rfl
theorem w_358 : (Jvm.Cond.instanceMethod ({ cls := "java/lang/RuntimeException", name := "<init>", desc := "()V" } : Jvm.MethodName)) ∈ gT := gT_in2 118 rfl rfl
theorem w_359 : (Jvm.Cond.code ({ cls := "java/lang/RuntimeException", name := "<init>", desc := "()V" } : Jvm.MethodName) prog_17_method_1_code (1 : Nat) (Option.none : Option Jvm.ClassFile.FieldType)) ∈ gT := gT_in2 119 rfl rfl
theorem w_360 : (Jvm.Cond.methodLink "java/lang/RuntimeException" (1 : Nat) ({ cls := "java/lang/Exception", name := "<init>", desc := "()V" } : Jvm.MethodName)) ∈ gT := gT_in2 120 rfl rfl
theorem w_361 : (Jvm.Cond.instanceMethod ({ cls := "java/lang/Exception", name := "<init>", desc := "()V" } : Jvm.MethodName)) ∈ gT := gT_in2 121 rfl rfl
theorem w_362 : (Jvm.Cond.code ({ cls := "java/lang/Exception", name := "<init>", desc := "()V" } : Jvm.MethodName) prog_11_method_1_code (1 : Nat) (Option.none : Option Jvm.ClassFile.FieldType)) ∈ gT := gT_in2 122 rfl rfl
theorem w_363 : (Jvm.Cond.methodLink "java/lang/Exception" (1 : Nat) ({ cls := "java/lang/Throwable", name := "<init>", desc := "()V" } : Jvm.MethodName)) ∈ gT := gT_in2 123 rfl rfl
theorem w_364 : (Jvm.Cond.fieldLink "java/lang/Throwable" (198 : Nat) "java/lang/Throwable" "backtrace" "Ljava/lang/Object;") ∈ gT := gT_in2 124 rfl rfl
theorem w_365 : (Jvm.Cond.fieldLink "java/lang/Throwable" (7 : Nat) "java/lang/Throwable" "cause" "Ljava/lang/Throwable;") ∈ gT := gT_in2 125 rfl rfl
theorem w_366 : (Jvm.Cond.fieldLink "java/lang/Throwable" (17 : Nat) "java/lang/Throwable" "stackTrace" "[Ljava/lang/StackTraceElement;") ∈ gT := gT_in2 126 rfl rfl
theorem w_367 : (Jvm.Cond.fieldLink "java/lang/Throwable" (24 : Nat) "java/lang/Throwable" "suppressedExceptions" "Ljava/util/List;") ∈ gT := gT_in2 127 rfl rfl
theorem w_372 : (Jvm.Cond.lays "java/lang/IllegalArgumentException" "java/lang/Throwable" "depth" "I") ∈ gT := gT_in2 132 rfl rfl
theorem w_375 : (Jvm.Cond.superclass "java/lang/IllegalArgumentException" "java/lang/RuntimeException") ∈ gT := gT_in2 135 rfl rfl
theorem w_376 : (Jvm.Cond.methodLink "VeilSearch" (72 : Nat) ({ cls := "VeilSearch$Rights", name := "join", desc := "(IIZ)Z" } : Jvm.MethodName)) ∈ gT := gT_in2 136 rfl rfl
theorem w_377 : (Jvm.Cond.instanceMethod ({ cls := "VeilSearch$Rights", name := "join", desc := "(IIZ)Z" } : Jvm.MethodName)) ∈ gT := gT_in2 137 rfl rfl
theorem w_378 : (Jvm.Cond.selects "VeilSearch$Rights" ({ cls := "VeilSearch$Rights", name := "join", desc := "(IIZ)Z" } : Jvm.MethodName) ({ cls := "VeilSearch$Rights", name := "join", desc := "(IIZ)Z" } : Jvm.MethodName)) ∈ gT := gT_in2 138 rfl rfl
theorem w_379 : (Jvm.Cond.code ({ cls := "VeilSearch$Rights", name := "join", desc := "(IIZ)Z" } : Jvm.MethodName) prog_6_method_2_code (5 : Nat) (Option.some Jvm.ClassFile.FieldType.boolean)) ∈ gT := gT_in2 139 rfl rfl
theorem w_380 : (Jvm.Cond.methodLink "VeilSearchLaw" (84 : Nat) ({ cls := "VeilSearchLaw", name := "level", desc := "(LVeilSearch;III[J)I" } : Jvm.MethodName)) ∈ gT := gT_in2 140 rfl rfl
theorem w_381 : (Jvm.Cond.static ({ cls := "VeilSearchLaw", name := "level", desc := "(LVeilSearch;III[J)I" } : Jvm.MethodName)) ∈ gT := gT_in2 141 rfl rfl
theorem w_382 : (Jvm.Cond.codeWith ({ cls := "VeilSearchLaw", name := "level", desc := "(LVeilSearch;III[J)I" } : Jvm.MethodName) method_4_code (6 : Nat) (Option.some Jvm.ClassFile.FieldType.int) [((0 : Nat), (12 : Nat), (15 : Nat), (13 : Nat))]) ∈ gT := gT_in2 142 rfl rfl
theorem w_383 : (Jvm.Cond.methodLink "VeilSearchLaw" (15 : Nat) ({ cls := "VeilSearch", name := "level", desc := "(III)I" } : Jvm.MethodName)) ∈ gT := gT_in2 143 rfl rfl
theorem w_384 : (Jvm.Cond.instanceMethod ({ cls := "VeilSearch", name := "level", desc := "(III)I" } : Jvm.MethodName)) ∈ gT := gT_in2 144 rfl rfl
theorem w_385 : (Jvm.Cond.selects "VeilSearch" ({ cls := "VeilSearch", name := "level", desc := "(III)I" } : Jvm.MethodName) ({ cls := "VeilSearch", name := "level", desc := "(III)I" } : Jvm.MethodName)) ∈ gT := gT_in2 145 rfl rfl
theorem w_386 : (Jvm.Cond.code ({ cls := "VeilSearch", name := "level", desc := "(III)I" } : Jvm.MethodName) prog_1_method_3_code (6 : Nat) (Option.some Jvm.ClassFile.FieldType.int)) ∈ gT := gT_in2 146 rfl rfl
theorem w_387 : (Jvm.Cond.methodLink "VeilSearchLaw" (90 : Nat) ({ cls := "VeilSearchLaw", name := "weigh", desc := "(LVeilSearch;IID[J)I" } : Jvm.MethodName)) ∈ gT := gT_in2 147 rfl rfl
theorem w_388 : (Jvm.Cond.static ({ cls := "VeilSearchLaw", name := "weigh", desc := "(LVeilSearch;IID[J)I" } : Jvm.MethodName)) ∈ gT := gT_in2 148 rfl rfl
theorem w_389 : (Jvm.Cond.codeWith ({ cls := "VeilSearchLaw", name := "weigh", desc := "(LVeilSearch;IID[J)I" } : Jvm.MethodName) method_5_code (7 : Nat) (Option.some Jvm.ClassFile.FieldType.int) [((0 : Nat), (12 : Nat), (15 : Nat), (13 : Nat))]) ∈ gT := gT_in2 149 rfl rfl
theorem w_390 : (Jvm.Cond.methodLink "VeilSearchLaw" (19 : Nat) ({ cls := "VeilSearch", name := "weigh", desc := "(IID)I" } : Jvm.MethodName)) ∈ gT := gT_in2 150 rfl rfl
theorem w_391 : (Jvm.Cond.instanceMethod ({ cls := "VeilSearch", name := "weigh", desc := "(IID)I" } : Jvm.MethodName)) ∈ gT := gT_in2 151 rfl rfl
theorem w_392 : (Jvm.Cond.selects "VeilSearch" ({ cls := "VeilSearch", name := "weigh", desc := "(IID)I" } : Jvm.MethodName) ({ cls := "VeilSearch", name := "weigh", desc := "(IID)I" } : Jvm.MethodName)) ∈ gT := gT_in2 152 rfl rfl
theorem w_393 : (Jvm.Cond.code ({ cls := "VeilSearch", name := "weigh", desc := "(IID)I" } : Jvm.MethodName) prog_1_method_4_code (6 : Nat) (Option.some Jvm.ClassFile.FieldType.int)) ∈ gT := gT_in2 153 rfl rfl
theorem w_394 : (Jvm.Cond.methodLink "VeilSearch" (85 : Nat) ({ cls := "VeilSearch", name := "isWeight", desc := "(D)Z" } : Jvm.MethodName)) ∈ gT := gT_in2 154 rfl rfl
theorem w_395 : (Jvm.Cond.static ({ cls := "VeilSearch", name := "isWeight", desc := "(D)Z" } : Jvm.MethodName)) ∈ gT := gT_in2 155 rfl rfl
theorem w_396 : (Jvm.Cond.code ({ cls := "VeilSearch", name := "isWeight", desc := "(D)Z" } : Jvm.MethodName) prog_1_method_20_code (2 : Nat) (Option.some Jvm.ClassFile.FieldType.boolean)) ∈ gT := gT_in2 156 rfl rfl
theorem w_397 : (Jvm.Cond.constantDouble "VeilSearch" (231 : Nat) (4158027847206421152 : UInt64)) ∈ gT := gT_in2 157 rfl rfl
theorem w_398 : (Jvm.Cond.constantDouble "VeilSearch" (233 : Nat) (4652007308841189376 : UInt64)) ∈ gT := gT_in2 158 rfl rfl
theorem w_399 : (Jvm.Cond.methodLink "VeilSearch" (89 : Nat) ({ cls := "VeilSearch", name := "codeOf", desc := "(D)I" } : Jvm.MethodName)) ∈ gT := gT_in2 159 rfl rfl
theorem w_400 : (Jvm.Cond.static ({ cls := "VeilSearch", name := "codeOf", desc := "(D)I" } : Jvm.MethodName)) ∈ gT := gT_in2 160 rfl rfl
theorem w_401 : (Jvm.Cond.code ({ cls := "VeilSearch", name := "codeOf", desc := "(D)I" } : Jvm.MethodName) prog_1_method_21_code (3 : Nat) (Option.some Jvm.ClassFile.FieldType.int)) ∈ gT := gT_in2 161 rfl rfl
theorem w_402 : (Jvm.Cond.constantFloat "VeilSearch" (235 : Nat) (1098907648 : UInt32)) ∈ gT := gT_in2 162 rfl rfl
theorem w_403 : (Jvm.Cond.constantFloat "VeilSearch" (236 : Nat) (1056964608 : UInt32)) ∈ gT := gT_in2 163 rfl rfl
theorem w_404 : (Jvm.Cond.methodLink "VeilSearch" (99 : Nat) ({ cls := "VeilSearch$Documents", name := "codePlace", desc := "(III)I" } : Jvm.MethodName)) ∈ gT := gT_in2 164 rfl rfl
theorem w_405 : (Jvm.Cond.static ({ cls := "VeilSearch$Documents", name := "codePlace", desc := "(III)I" } : Jvm.MethodName)) ∈ gT := gT_in2 165 rfl rfl
theorem w_406 : (Jvm.Cond.code ({ cls := "VeilSearch$Documents", name := "codePlace", desc := "(III)I" } : Jvm.MethodName) prog_2_method_3_code (3 : Nat) (Option.some Jvm.ClassFile.FieldType.int)) ∈ gT := gT_in2 166 rfl rfl
theorem w_407 : (Jvm.Cond.methodLink "VeilSearch$Documents" (28 : Nat) ({ cls := "VeilSearch$Documents", name := "valuePlace", desc := "(II)I" } : Jvm.MethodName)) ∈ gT := gT_in2 167 rfl rfl
theorem w_408 : (Jvm.Cond.static ({ cls := "VeilSearch$Documents", name := "valuePlace", desc := "(II)I" } : Jvm.MethodName)) ∈ gT := gT_in2 168 rfl rfl
theorem w_409 : (Jvm.Cond.code ({ cls := "VeilSearch$Documents", name := "valuePlace", desc := "(II)I" } : Jvm.MethodName) prog_2_method_2_code (2 : Nat) (Option.some Jvm.ClassFile.FieldType.int)) ∈ gT := gT_in2 169 rfl rfl
theorem w_410 : (Jvm.Cond.methodLink "VeilSearchLaw" (94 : Nat) ({ cls := "VeilSearchLaw", name := "put", desc := "(LVeilSearch;II[J)I" } : Jvm.MethodName)) ∈ gT := gT_in2 170 rfl rfl
theorem w_411 : (Jvm.Cond.static ({ cls := "VeilSearchLaw", name := "put", desc := "(LVeilSearch;II[J)I" } : Jvm.MethodName)) ∈ gT := gT_in2 171 rfl rfl
theorem w_412 : (Jvm.Cond.codeWith ({ cls := "VeilSearchLaw", name := "put", desc := "(LVeilSearch;II[J)I" } : Jvm.MethodName) method_6_code (5 : Nat) (Option.some Jvm.ClassFile.FieldType.int) [((0 : Nat), (10 : Nat), (13 : Nat), (13 : Nat))]) ∈ gT := gT_in2 172 rfl rfl
theorem w_413 : (Jvm.Cond.methodLink "VeilSearchLaw" (23 : Nat) ({ cls := "VeilSearch", name := "put", desc := "(II)I" } : Jvm.MethodName)) ∈ gT := gT_in2 173 rfl rfl
theorem w_414 : (Jvm.Cond.instanceMethod ({ cls := "VeilSearch", name := "put", desc := "(II)I" } : Jvm.MethodName)) ∈ gT := gT_in2 174 rfl rfl
theorem w_415 : (Jvm.Cond.selects "VeilSearch" ({ cls := "VeilSearch", name := "put", desc := "(II)I" } : Jvm.MethodName) ({ cls := "VeilSearch", name := "put", desc := "(II)I" } : Jvm.MethodName)) ∈ gT := gT_in2 175 rfl rfl
theorem w_416 : (Jvm.Cond.code ({ cls := "VeilSearch", name := "put", desc := "(II)I" } : Jvm.MethodName) prog_1_method_5_code (5 : Nat) (Option.some Jvm.ClassFile.FieldType.int)) ∈ gT := gT_in2 176 rfl rfl
theorem w_417 : (Jvm.Cond.methodLink "VeilSearch" (103 : Nat) ({ cls := "VeilSearch$Documents", name := "valuePlace", desc := "(II)I" } : Jvm.MethodName)) ∈ gT := gT_in2 177 rfl rfl
theorem w_418 : (Jvm.Cond.methodLink "VeilSearchLaw" (98 : Nat) ({ cls := "VeilSearchLaw", name := "rule", desc := "(LVeilSearch;IZ[J)I" } : Jvm.MethodName)) ∈ gT := gT_in2 178 rfl rfl
theorem w_419 : (Jvm.Cond.static ({ cls := "VeilSearchLaw", name := "rule", desc := "(LVeilSearch;IZ[J)I" } : Jvm.MethodName)) ∈ gT := gT_in2 179 rfl rfl
theorem w_420 : (Jvm.Cond.codeWith ({ cls := "VeilSearchLaw", name := "rule", desc := "(LVeilSearch;IZ[J)I" } : Jvm.MethodName) method_7_code (5 : Nat) (Option.some Jvm.ClassFile.FieldType.int) [((0 : Nat), (17 : Nat), (20 : Nat), (13 : Nat))]) ∈ gT := gT_in2 180 rfl rfl
theorem w_421 : (Jvm.Cond.methodLink "VeilSearchLaw" (27 : Nat) ({ cls := "VeilSearch", name := "rule", desc := "(IZ)Z" } : Jvm.MethodName)) ∈ gT := gT_in2 181 rfl rfl
theorem w_422 : (Jvm.Cond.instanceMethod ({ cls := "VeilSearch", name := "rule", desc := "(IZ)Z" } : Jvm.MethodName)) ∈ gT := gT_in2 182 rfl rfl
theorem w_423 : (Jvm.Cond.selects "VeilSearch" ({ cls := "VeilSearch", name := "rule", desc := "(IZ)Z" } : Jvm.MethodName) ({ cls := "VeilSearch", name := "rule", desc := "(IZ)Z" } : Jvm.MethodName)) ∈ gT := gT_in2 183 rfl rfl
theorem w_424 : (Jvm.Cond.code ({ cls := "VeilSearch", name := "rule", desc := "(IZ)Z" } : Jvm.MethodName) prog_1_method_6_code (5 : Nat) (Option.some Jvm.ClassFile.FieldType.boolean)) ∈ gT := gT_in2 184 rfl rfl
theorem w_425 : (Jvm.Cond.methodLink "VeilSearchLaw" (102 : Nat) ({ cls := "VeilSearchLaw", name := "add", desc := "(LVeilSearch;I[J)I" } : Jvm.MethodName)) ∈ gT := gT_in2 185 rfl rfl
theorem w_426 : (Jvm.Cond.static ({ cls := "VeilSearchLaw", name := "add", desc := "(LVeilSearch;I[J)I" } : Jvm.MethodName)) ∈ gT := gT_in2 186 rfl rfl
theorem w_427 : (Jvm.Cond.codeWith ({ cls := "VeilSearchLaw", name := "add", desc := "(LVeilSearch;I[J)I" } : Jvm.MethodName) method_8_code (4 : Nat) (Option.some Jvm.ClassFile.FieldType.int) [((0 : Nat), (9 : Nat), (12 : Nat), (13 : Nat)), ((0 : Nat), (9 : Nat), (15 : Nat), (35 : Nat))]) ∈ gT := gT_in2 187 rfl rfl
theorem w_428 : (Jvm.Cond.classLink "VeilSearchLaw" (35 : Nat) "java/lang/IllegalStateException") ∈ gT := gT_in2 188 rfl rfl
theorem w_429 : (Jvm.Cond.methodLink "VeilSearchLaw" (31 : Nat) ({ cls := "VeilSearch", name := "add", desc := "(I)I" } : Jvm.MethodName)) ∈ gT := gT_in2 189 rfl rfl
theorem w_430 : (Jvm.Cond.instanceMethod ({ cls := "VeilSearch", name := "add", desc := "(I)I" } : Jvm.MethodName)) ∈ gT := gT_in2 190 rfl rfl
theorem w_431 : (Jvm.Cond.selects "VeilSearch" ({ cls := "VeilSearch", name := "add", desc := "(I)I" } : Jvm.MethodName) ({ cls := "VeilSearch", name := "add", desc := "(I)I" } : Jvm.MethodName)) ∈ gT := gT_in2 191 rfl rfl
theorem w_432 : (Jvm.Cond.code ({ cls := "VeilSearch", name := "add", desc := "(I)I" } : Jvm.MethodName) prog_1_method_7_code (3 : Nat) (Option.some Jvm.ClassFile.FieldType.int)) ∈ gT := gT_in2 192 rfl rfl
theorem w_433 : (Jvm.Cond.classLink "VeilSearch" (116 : Nat) "java/lang/IllegalStateException") ∈ gT := gT_in2 193 rfl rfl
theorem w_434 : (Jvm.Cond.instantiable "java/lang/IllegalStateException" (6 : Nat)) ∈ gT := gT_in2 194 rfl rfl
theorem w_435 : (Jvm.Cond.castable "java/lang/IllegalStateException" "java/lang/IllegalStateException") ∈ gN := gN_in2 195 rfl rfl
theorem w_436 : (Jvm.Cond.selects "java/lang/IllegalStateException" ({ cls := "java/lang/Throwable", name := "fillInStackTrace", desc := "(I)Ljava/lang/Throwable;" } : Jvm.MethodName) ({ cls := "java/lang/Throwable", name := "fillInStackTrace", desc := "(I)Ljava/lang/Throwable;" } : Jvm.MethodName)) ∈ gT := gT_in2 196 rfl rfl
theorem w_437 : (Jvm.Cond.lays "java/lang/IllegalStateException" "java/lang/Throwable" "cause" "Ljava/lang/Throwable;") ∈ gT := gT_in2 197 rfl rfl
theorem w_438 : (Jvm.Cond.lays "java/lang/IllegalStateException" "java/lang/Throwable" "stackTrace" "[Ljava/lang/StackTraceElement;") ∈ gT := gT_in2 198 rfl rfl
theorem w_439 : (Jvm.Cond.lays "java/lang/IllegalStateException" "java/lang/Throwable" "suppressedExceptions" "Ljava/util/List;") ∈ gT := gT_in2 199 rfl rfl
theorem w_440 : (Jvm.Cond.lays "java/lang/IllegalStateException" "java/lang/Throwable" "detailMessage" "Ljava/lang/String;") ∈ gT := gT_in2 200 rfl rfl
theorem w_441 : (Jvm.Cond.lays "java/lang/IllegalStateException" "java/lang/Throwable" "backtrace" "Ljava/lang/Object;") ∈ gT := gT_in2 201 rfl rfl
theorem w_442 : (Jvm.Cond.methodLink "VeilSearch" (118 : Nat) ({ cls := "java/lang/IllegalStateException", name := "<init>", desc := "()V" } : Jvm.MethodName)) ∈ gT := gT_in2 202 rfl rfl
theorem w_443 : (Jvm.Cond.instanceMethod ({ cls := "java/lang/IllegalStateException", name := "<init>", desc := "()V" } : Jvm.MethodName)) ∈ gT := gT_in2 203 rfl rfl
theorem w_444 : (Jvm.Cond.code ({ cls := "java/lang/IllegalStateException", name := "<init>", desc := "()V" } : Jvm.MethodName) prog_13_method_1_code (1 : Nat) (Option.none : Option Jvm.ClassFile.FieldType)) ∈ gT := gT_in2 204 rfl rfl
theorem w_445 : (Jvm.Cond.methodLink "java/lang/IllegalStateException" (1 : Nat) ({ cls := "java/lang/RuntimeException", name := "<init>", desc := "()V" } : Jvm.MethodName)) ∈ gT := gT_in2 205 rfl rfl
theorem w_446 : (Jvm.Cond.lays "java/lang/IllegalStateException" "java/lang/Throwable" "depth" "I") ∈ gT := gT_in2 206 rfl rfl
theorem w_447 : (Jvm.Cond.superclass "java/lang/IllegalStateException" "java/lang/RuntimeException") ∈ gT := gT_in2 207 rfl rfl
theorem w_448 : (Jvm.Cond.methodLink "VeilSearch" (119 : Nat) ({ cls := "VeilSearch$Documents", name := "finishDraft", desc := "(I)I" } : Jvm.MethodName)) ∈ gT := gT_in2 208 rfl rfl
theorem w_449 : (Jvm.Cond.instanceMethod ({ cls := "VeilSearch$Documents", name := "finishDraft", desc := "(I)I" } : Jvm.MethodName)) ∈ gT := gT_in2 209 rfl rfl
theorem w_450 : (Jvm.Cond.selects "VeilSearch$Documents" ({ cls := "VeilSearch$Documents", name := "finishDraft", desc := "(I)I" } : Jvm.MethodName) ({ cls := "VeilSearch$Documents", name := "finishDraft", desc := "(I)I" } : Jvm.MethodName)) ∈ gT := gT_in2 210 rfl rfl
theorem w_451 : (Jvm.Cond.code ({ cls := "VeilSearch$Documents", name := "finishDraft", desc := "(I)I" } : Jvm.MethodName) prog_2_method_4_code (3 : Nat) (Option.some Jvm.ClassFile.FieldType.int)) ∈ gT := gT_in2 211 rfl rfl
theorem w_452 : (Jvm.Cond.methodLink "VeilSearchLaw" (106 : Nat) ({ cls := "VeilSearchLaw", name := "remove", desc := "(LVeilSearch;I)I" } : Jvm.MethodName)) ∈ gT := gT_in2 212 rfl rfl
theorem w_453 : (Jvm.Cond.static ({ cls := "VeilSearchLaw", name := "remove", desc := "(LVeilSearch;I)I" } : Jvm.MethodName)) ∈ gT := gT_in2 213 rfl rfl
theorem w_454 : (Jvm.Cond.codeWith ({ cls := "VeilSearchLaw", name := "remove", desc := "(LVeilSearch;I)I" } : Jvm.MethodName) method_9_code (3 : Nat) (Option.some Jvm.ClassFile.FieldType.int) [((0 : Nat), (5 : Nat), (8 : Nat), (41 : Nat))]) ∈ gT := gT_in2 214 rfl rfl
theorem w_455 : (Jvm.Cond.classLink "VeilSearchLaw" (41 : Nat) "java/util/NoSuchElementException") ∈ gT := gT_in2 215 rfl rfl
theorem w_456 : (Jvm.Cond.methodLink "VeilSearchLaw" (37 : Nat) ({ cls := "VeilSearch", name := "remove", desc := "(I)V" } : Jvm.MethodName)) ∈ gT := gT_in2 216 rfl rfl
theorem w_457 : (Jvm.Cond.instanceMethod ({ cls := "VeilSearch", name := "remove", desc := "(I)V" } : Jvm.MethodName)) ∈ gT := gT_in2 217 rfl rfl
theorem w_458 : (Jvm.Cond.selects "VeilSearch" ({ cls := "VeilSearch", name := "remove", desc := "(I)V" } : Jvm.MethodName) ({ cls := "VeilSearch", name := "remove", desc := "(I)V" } : Jvm.MethodName)) ∈ gT := gT_in2 218 rfl rfl
theorem w_459 : (Jvm.Cond.code ({ cls := "VeilSearch", name := "remove", desc := "(I)V" } : Jvm.MethodName) prog_1_method_8_code (2 : Nat) (Option.none : Option Jvm.ClassFile.FieldType)) ∈ gT := gT_in2 219 rfl rfl
theorem w_460 : (Jvm.Cond.methodLink "VeilSearch" (126 : Nat) ({ cls := "VeilSearch", name := "holds", desc := "(JI)Z" } : Jvm.MethodName)) ∈ gT := gT_in2 220 rfl rfl
theorem w_461 : (Jvm.Cond.static ({ cls := "VeilSearch", name := "holds", desc := "(JI)Z" } : Jvm.MethodName)) ∈ gT := gT_in2 221 rfl rfl
theorem w_462 : (Jvm.Cond.code ({ cls := "VeilSearch", name := "holds", desc := "(JI)Z" } : Jvm.MethodName) prog_1_method_22_code (3 : Nat) (Option.some Jvm.ClassFile.FieldType.boolean)) ∈ gT := gT_in2 222 rfl rfl
theorem w_463 : (Jvm.Cond.classLink "VeilSearch" (130 : Nat) "java/util/NoSuchElementException") ∈ gT := gT_in2 223 rfl rfl
theorem w_464 : (Jvm.Cond.instantiable "java/util/NoSuchElementException" (6 : Nat)) ∈ gT := gT_in2 224 rfl rfl
theorem w_465 : (Jvm.Cond.castable "java/util/NoSuchElementException" "java/util/NoSuchElementException") ∈ gN := gN_in2 225 rfl rfl
theorem w_466 : (Jvm.Cond.selects "java/util/NoSuchElementException" ({ cls := "java/lang/Throwable", name := "fillInStackTrace", desc := "(I)Ljava/lang/Throwable;" } : Jvm.MethodName) ({ cls := "java/lang/Throwable", name := "fillInStackTrace", desc := "(I)Ljava/lang/Throwable;" } : Jvm.MethodName)) ∈ gT := gT_in2 226 rfl rfl
theorem w_467 : (Jvm.Cond.lays "java/util/NoSuchElementException" "java/lang/Throwable" "cause" "Ljava/lang/Throwable;") ∈ gT := gT_in2 227 rfl rfl
theorem w_468 : (Jvm.Cond.lays "java/util/NoSuchElementException" "java/lang/Throwable" "stackTrace" "[Ljava/lang/StackTraceElement;") ∈ gT := gT_in2 228 rfl rfl
theorem w_469 : (Jvm.Cond.lays "java/util/NoSuchElementException" "java/lang/Throwable" "suppressedExceptions" "Ljava/util/List;") ∈ gT := gT_in2 229 rfl rfl
theorem w_470 : (Jvm.Cond.lays "java/util/NoSuchElementException" "java/lang/Throwable" "detailMessage" "Ljava/lang/String;") ∈ gT := gT_in2 230 rfl rfl
theorem w_471 : (Jvm.Cond.lays "java/util/NoSuchElementException" "java/lang/Throwable" "backtrace" "Ljava/lang/Object;") ∈ gT := gT_in2 231 rfl rfl
theorem w_472 : (Jvm.Cond.methodLink "VeilSearch" (132 : Nat) ({ cls := "java/util/NoSuchElementException", name := "<init>", desc := "()V" } : Jvm.MethodName)) ∈ gT := gT_in2 232 rfl rfl
theorem w_473 : (Jvm.Cond.instanceMethod ({ cls := "java/util/NoSuchElementException", name := "<init>", desc := "()V" } : Jvm.MethodName)) ∈ gT := gT_in2 233 rfl rfl
theorem w_474 : (Jvm.Cond.code ({ cls := "java/util/NoSuchElementException", name := "<init>", desc := "()V" } : Jvm.MethodName) prog_21_method_1_code (1 : Nat) (Option.none : Option Jvm.ClassFile.FieldType)) ∈ gT := gT_in2 234 rfl rfl
theorem w_475 : (Jvm.Cond.methodLink "java/util/NoSuchElementException" (1 : Nat) ({ cls := "java/lang/RuntimeException", name := "<init>", desc := "()V" } : Jvm.MethodName)) ∈ gT := gT_in2 235 rfl rfl
theorem w_476 : (Jvm.Cond.lays "java/util/NoSuchElementException" "java/lang/Throwable" "depth" "I") ∈ gT := gT_in2 236 rfl rfl
theorem w_477 : (Jvm.Cond.superclass "java/util/NoSuchElementException" "java/lang/RuntimeException") ∈ gT := gT_in2 237 rfl rfl
theorem w_478 : (Jvm.Cond.methodLink "VeilSearchLaw" (110 : Nat) ({ cls := "VeilSearchLaw", name := "flush", desc := "(LVeilSearch;[J)I" } : Jvm.MethodName)) ∈ gT := gT_in2 238 rfl rfl
theorem w_479 : (Jvm.Cond.static ({ cls := "VeilSearchLaw", name := "flush", desc := "(LVeilSearch;[J)I" } : Jvm.MethodName)) ∈ gT := gT_in2 239 rfl rfl
theorem w_480 : (Jvm.Cond.codeWith ({ cls := "VeilSearchLaw", name := "flush", desc := "(LVeilSearch;[J)I" } : Jvm.MethodName) method_10_code (3 : Nat) (Option.some Jvm.ClassFile.FieldType.int) [((0 : Nat), (8 : Nat), (11 : Nat), (35 : Nat))]) ∈ gT := gT_in3 0 rfl rfl
theorem w_481 : (Jvm.Cond.methodLink "VeilSearchLaw" (43 : Nat) ({ cls := "VeilSearch", name := "flush", desc := "()I" } : Jvm.MethodName)) ∈ gT := gT_in3 1 rfl rfl
theorem w_482 : (Jvm.Cond.instanceMethod ({ cls := "VeilSearch", name := "flush", desc := "()I" } : Jvm.MethodName)) ∈ gT := gT_in3 2 rfl rfl
theorem w_483 : (Jvm.Cond.selects "VeilSearch" ({ cls := "VeilSearch", name := "flush", desc := "()I" } : Jvm.MethodName) ({ cls := "VeilSearch", name := "flush", desc := "()I" } : Jvm.MethodName)) ∈ gT := gT_in3 3 rfl rfl
theorem w_484 : (Jvm.Cond.code ({ cls := "VeilSearch", name := "flush", desc := "()I" } : Jvm.MethodName) prog_1_method_9_code (2 : Nat) (Option.some Jvm.ClassFile.FieldType.int)) ∈ gT := gT_in3 4 rfl rfl
theorem w_485 : (Jvm.Cond.methodLink "VeilSearchLaw" (122 : Nat) ({ cls := "VeilSearchLaw", name := "clause", desc := "(LVeilSearch;IIID[J)I" } : Jvm.MethodName)) ∈ gT := gT_in3 5 rfl rfl
theorem w_486 : (Jvm.Cond.static ({ cls := "VeilSearchLaw", name := "clause", desc := "(LVeilSearch;IIID[J)I" } : Jvm.MethodName)) ∈ gT := gT_in3 6 rfl rfl
theorem w_487 : (Jvm.Cond.codeWith ({ cls := "VeilSearchLaw", name := "clause", desc := "(LVeilSearch;IIID[J)I" } : Jvm.MethodName) method_11_code (8 : Nat) (Option.some Jvm.ClassFile.FieldType.int) [((0 : Nat), (14 : Nat), (17 : Nat), (13 : Nat)), ((0 : Nat), (14 : Nat), (21 : Nat), (35 : Nat))]) ∈ gT := gT_in3 7 rfl rfl
theorem w_488 : (Jvm.Cond.methodLink "VeilSearchLaw" (47 : Nat) ({ cls := "VeilSearch", name := "clause", desc := "(IIID)I" } : Jvm.MethodName)) ∈ gT := gT_in3 8 rfl rfl
theorem w_489 : (Jvm.Cond.instanceMethod ({ cls := "VeilSearch", name := "clause", desc := "(IIID)I" } : Jvm.MethodName)) ∈ gT := gT_in3 9 rfl rfl
theorem w_490 : (Jvm.Cond.selects "VeilSearch" ({ cls := "VeilSearch", name := "clause", desc := "(IIID)I" } : Jvm.MethodName) ({ cls := "VeilSearch", name := "clause", desc := "(IIID)I" } : Jvm.MethodName)) ∈ gT := gT_in3 10 rfl rfl
theorem w_491 : (Jvm.Cond.code ({ cls := "VeilSearch", name := "clause", desc := "(IIID)I" } : Jvm.MethodName) prog_1_method_12_code (6 : Nat) (Option.some Jvm.ClassFile.FieldType.int)) ∈ gT := gT_in3 11 rfl rfl
theorem w_492 : (Jvm.Cond.methodLink "VeilSearch" (177 : Nat) ({ cls := "VeilSearch$Query", name := "insert", desc := "(IIIF)V" } : Jvm.MethodName)) ∈ gT := gT_in3 12 rfl rfl
theorem w_493 : (Jvm.Cond.instanceMethod ({ cls := "VeilSearch$Query", name := "insert", desc := "(IIIF)V" } : Jvm.MethodName)) ∈ gT := gT_in3 13 rfl rfl
theorem w_494 : (Jvm.Cond.selects "VeilSearch$Query" ({ cls := "VeilSearch$Query", name := "insert", desc := "(IIIF)V" } : Jvm.MethodName) ({ cls := "VeilSearch$Query", name := "insert", desc := "(IIIF)V" } : Jvm.MethodName)) ∈ gT := gT_in3 14 rfl rfl
theorem w_495 : (Jvm.Cond.code ({ cls := "VeilSearch$Query", name := "insert", desc := "(IIIF)V" } : Jvm.MethodName) prog_5_method_2_code (6 : Nat) (Option.none : Option Jvm.ClassFile.FieldType)) ∈ gT := gT_in3 15 rfl rfl
theorem w_496 : (Jvm.Cond.methodLink "VeilSearch$Query" (37 : Nat) ({ cls := "VeilSearch$Query", name := "comesLater", desc := "(III)Z" } : Jvm.MethodName)) ∈ gT := gT_in3 16 rfl rfl
theorem w_498 : (Jvm.Cond.instanceMethod ({ cls := "VeilSearch$Query", name := "comesLater", desc := "(III)Z" } : Jvm.MethodName)) ∈ gT := gT_in3 18 rfl rfl
theorem w_499 : (Jvm.Cond.code ({ cls := "VeilSearch$Query", name := "comesLater", desc := "(III)Z" } : Jvm.MethodName) prog_5_method_3_code (4 : Nat) (Option.some Jvm.ClassFile.FieldType.boolean)) ∈ gT := gT_in3 19 rfl rfl
theorem w_500 : (Jvm.Cond.methodLink "VeilSearch$Query" (41 : Nat) ({ cls := "VeilSearch$Query", name := "move", desc := "(II)V" } : Jvm.MethodName)) ∈ gT := gT_in3 20 rfl rfl
theorem w_502 : (Jvm.Cond.instanceMethod ({ cls := "VeilSearch$Query", name := "move", desc := "(II)V" } : Jvm.MethodName)) ∈ gT := gT_in3 22 rfl rfl
theorem w_503 : (Jvm.Cond.code ({ cls := "VeilSearch$Query", name := "move", desc := "(II)V" } : Jvm.MethodName) prog_5_method_4_code (3 : Nat) (Option.none : Option Jvm.ClassFile.FieldType)) ∈ gT := gT_in3 23 rfl rfl
theorem w_504 : (Jvm.Cond.methodLink "VeilSearchLaw" (130 : Nat) ({ cls := "VeilSearchLaw", name := "search", desc := "(LVeilSearch;II[J)I" } : Jvm.MethodName)) ∈ gT := gT_in3 24 rfl rfl
theorem w_505 : (Jvm.Cond.static ({ cls := "VeilSearchLaw", name := "search", desc := "(LVeilSearch;II[J)I" } : Jvm.MethodName)) ∈ gT := gT_in3 25 rfl rfl
theorem w_506 : (Jvm.Cond.codeWith ({ cls := "VeilSearchLaw", name := "search", desc := "(LVeilSearch;II[J)I" } : Jvm.MethodName) method_12_code (5 : Nat) (Option.some Jvm.ClassFile.FieldType.int) [((0 : Nat), (10 : Nat), (13 : Nat), (13 : Nat))]) ∈ gT := gT_in3 26 rfl rfl
theorem w_507 : (Jvm.Cond.methodLink "VeilSearchLaw" (51 : Nat) ({ cls := "VeilSearch", name := "search", desc := "(II)I" } : Jvm.MethodName)) ∈ gT := gT_in3 27 rfl rfl
theorem w_508 : (Jvm.Cond.instanceMethod ({ cls := "VeilSearch", name := "search", desc := "(II)I" } : Jvm.MethodName)) ∈ gT := gT_in3 28 rfl rfl
theorem w_509 : (Jvm.Cond.selects "VeilSearch" ({ cls := "VeilSearch", name := "search", desc := "(II)I" } : Jvm.MethodName) ({ cls := "VeilSearch", name := "search", desc := "(II)I" } : Jvm.MethodName)) ∈ gT := gT_in3 29 rfl rfl
theorem w_510 : (Jvm.Cond.code ({ cls := "VeilSearch", name := "search", desc := "(II)I" } : Jvm.MethodName) prog_1_method_14_code (8 : Nat) (Option.some Jvm.ClassFile.FieldType.int)) ∈ gT := gT_in3 30 rfl rfl
theorem w_511 : (Jvm.Cond.methodLink "VeilSearch" (181 : Nat) ({ cls := "VeilSearch$Hits", name := "restart", desc := "(I)V" } : Jvm.MethodName)) ∈ gT := gT_in3 31 rfl rfl
theorem w_512 : (Jvm.Cond.instanceMethod ({ cls := "VeilSearch$Hits", name := "restart", desc := "(I)V" } : Jvm.MethodName)) ∈ gT := gT_in3 32 rfl rfl
theorem w_513 : (Jvm.Cond.selects "VeilSearch$Hits" ({ cls := "VeilSearch$Hits", name := "restart", desc := "(I)V" } : Jvm.MethodName) ({ cls := "VeilSearch$Hits", name := "restart", desc := "(I)V" } : Jvm.MethodName)) ∈ gT := gT_in3 33 rfl rfl
theorem w_514 : (Jvm.Cond.code ({ cls := "VeilSearch$Hits", name := "restart", desc := "(I)V" } : Jvm.MethodName) prog_4_method_2_code (2 : Nat) (Option.none : Option Jvm.ClassFile.FieldType)) ∈ gT := gT_in3 34 rfl rfl
theorem w_515 : (Jvm.Cond.methodLink "VeilSearch" (185 : Nat) ({ cls := "VeilSearch$Query", name := "openFor", desc := "(ILVeilSearch$Rights;)V" } : Jvm.MethodName)) ∈ gT := gT_in3 35 rfl rfl
theorem w_516 : (Jvm.Cond.instanceMethod ({ cls := "VeilSearch$Query", name := "openFor", desc := "(ILVeilSearch$Rights;)V" } : Jvm.MethodName)) ∈ gT := gT_in3 36 rfl rfl
theorem w_517 : (Jvm.Cond.selects "VeilSearch$Query" ({ cls := "VeilSearch$Query", name := "openFor", desc := "(ILVeilSearch$Rights;)V" } : Jvm.MethodName) ({ cls := "VeilSearch$Query", name := "openFor", desc := "(ILVeilSearch$Rights;)V" } : Jvm.MethodName)) ∈ gT := gT_in3 37 rfl rfl
theorem w_518 : (Jvm.Cond.code ({ cls := "VeilSearch$Query", name := "openFor", desc := "(ILVeilSearch$Rights;)V" } : Jvm.MethodName) prog_5_method_5_code (4 : Nat) (Option.none : Option Jvm.ClassFile.FieldType)) ∈ gT := gT_in3 38 rfl rfl
theorem w_519 : (Jvm.Cond.methodLink "VeilSearch$Query" (45 : Nat) ({ cls := "VeilSearch$Rights", name := "isOpen", desc := "(II)Z" } : Jvm.MethodName)) ∈ gT := gT_in3 39 rfl rfl
theorem w_520 : (Jvm.Cond.instanceMethod ({ cls := "VeilSearch$Rights", name := "isOpen", desc := "(II)Z" } : Jvm.MethodName)) ∈ gT := gT_in3 40 rfl rfl
theorem w_521 : (Jvm.Cond.selects "VeilSearch$Rights" ({ cls := "VeilSearch$Rights", name := "isOpen", desc := "(II)Z" } : Jvm.MethodName) ({ cls := "VeilSearch$Rights", name := "isOpen", desc := "(II)Z" } : Jvm.MethodName)) ∈ gT := gT_in3 41 rfl rfl
theorem w_522 : (Jvm.Cond.code ({ cls := "VeilSearch$Rights", name := "isOpen", desc := "(II)Z" } : Jvm.MethodName) prog_6_method_4_code (3 : Nat) (Option.some Jvm.ClassFile.FieldType.boolean)) ∈ gT := gT_in3 42 rfl rfl
theorem w_523 : (Jvm.Cond.methodLink "VeilSearch" (195 : Nat) ({ cls := "VeilSearch", name := "filterOf", desc := "(IJI)J" } : Jvm.MethodName)) ∈ gT := gT_in3 43 rfl rfl
theorem w_525 : (Jvm.Cond.instanceMethod ({ cls := "VeilSearch", name := "filterOf", desc := "(IJI)J" } : Jvm.MethodName)) ∈ gT := gT_in3 45 rfl rfl
theorem w_526 : (Jvm.Cond.code ({ cls := "VeilSearch", name := "filterOf", desc := "(IJI)J" } : Jvm.MethodName) prog_1_method_25_code (8 : Nat) (Option.some Jvm.ClassFile.FieldType.long)) ∈ gT := gT_in3 46 rfl rfl
theorem w_527 : (Jvm.Cond.methodLink "VeilSearch" (241 : Nat) ({ cls := "VeilSearch$Filters", name := "placeOf", desc := "(II)I" } : Jvm.MethodName)) ∈ gT := gT_in3 47 rfl rfl
theorem w_528 : (Jvm.Cond.instanceMethod ({ cls := "VeilSearch$Filters", name := "placeOf", desc := "(II)I" } : Jvm.MethodName)) ∈ gT := gT_in3 48 rfl rfl
theorem w_529 : (Jvm.Cond.selects "VeilSearch$Filters" ({ cls := "VeilSearch$Filters", name := "placeOf", desc := "(II)I" } : Jvm.MethodName) ({ cls := "VeilSearch$Filters", name := "placeOf", desc := "(II)I" } : Jvm.MethodName)) ∈ gT := gT_in3 49 rfl rfl
theorem w_530 : (Jvm.Cond.code ({ cls := "VeilSearch$Filters", name := "placeOf", desc := "(II)I" } : Jvm.MethodName) prog_3_method_2_code (4 : Nat) (Option.some Jvm.ClassFile.FieldType.int)) ∈ gT := gT_in3 50 rfl rfl
theorem w_531 : (Jvm.Cond.methodLink "VeilSearch" (244 : Nat) ({ cls := "VeilSearch$Filters", name := "reuse", desc := "(I)J" } : Jvm.MethodName)) ∈ gT := gT_in3 51 rfl rfl
theorem w_532 : (Jvm.Cond.instanceMethod ({ cls := "VeilSearch$Filters", name := "reuse", desc := "(I)J" } : Jvm.MethodName)) ∈ gT := gT_in3 52 rfl rfl
theorem w_533 : (Jvm.Cond.selects "VeilSearch$Filters" ({ cls := "VeilSearch$Filters", name := "reuse", desc := "(I)J" } : Jvm.MethodName) ({ cls := "VeilSearch$Filters", name := "reuse", desc := "(I)J" } : Jvm.MethodName)) ∈ gT := gT_in3 53 rfl rfl
theorem w_534 : (Jvm.Cond.code ({ cls := "VeilSearch$Filters", name := "reuse", desc := "(I)J" } : Jvm.MethodName) prog_3_method_3_code (6 : Nat) (Option.some Jvm.ClassFile.FieldType.long)) ∈ gT := gT_in3 54 rfl rfl
theorem w_535 : (Jvm.Cond.methodLink "VeilSearch$Filters" (36 : Nat) ({ cls := "VeilSearch$Filters", name := "append", desc := "(IIJ)V" } : Jvm.MethodName)) ∈ gT := gT_in3 55 rfl rfl
theorem w_537 : (Jvm.Cond.instanceMethod ({ cls := "VeilSearch$Filters", name := "append", desc := "(IIJ)V" } : Jvm.MethodName)) ∈ gT := gT_in3 57 rfl rfl
theorem w_538 : (Jvm.Cond.code ({ cls := "VeilSearch$Filters", name := "append", desc := "(IIJ)V" } : Jvm.MethodName) prog_3_method_6_code (5 : Nat) (Option.none : Option Jvm.ClassFile.FieldType)) ∈ gT := gT_in3 58 rfl rfl
theorem w_539 : (Jvm.Cond.methodLink "VeilSearch" (213 : Nat) ({ cls := "VeilSearch$Rights", name := "tokensOf", desc := "(I)I" } : Jvm.MethodName)) ∈ gT := gT_in3 59 rfl rfl
theorem w_540 : (Jvm.Cond.instanceMethod ({ cls := "VeilSearch$Rights", name := "tokensOf", desc := "(I)I" } : Jvm.MethodName)) ∈ gT := gT_in3 60 rfl rfl
theorem w_541 : (Jvm.Cond.selects "VeilSearch$Rights" ({ cls := "VeilSearch$Rights", name := "tokensOf", desc := "(I)I" } : Jvm.MethodName) ({ cls := "VeilSearch$Rights", name := "tokensOf", desc := "(I)I" } : Jvm.MethodName)) ∈ gT := gT_in3 61 rfl rfl
theorem w_542 : (Jvm.Cond.code ({ cls := "VeilSearch$Rights", name := "tokensOf", desc := "(I)I" } : Jvm.MethodName) prog_6_method_3_code (5 : Nat) (Option.some Jvm.ClassFile.FieldType.int)) ∈ gT := gT_in3 62 rfl rfl
theorem w_543 : (Jvm.Cond.methodLink "VeilSearch" (248 : Nat) ({ cls := "VeilSearch$Documents", name := "readableOf", desc := "(JI)J" } : Jvm.MethodName)) ∈ gT := gT_in3 63 rfl rfl
theorem w_544 : (Jvm.Cond.instanceMethod ({ cls := "VeilSearch$Documents", name := "readableOf", desc := "(JI)J" } : Jvm.MethodName)) ∈ gT := gT_in3 64 rfl rfl
theorem w_545 : (Jvm.Cond.selects "VeilSearch$Documents" ({ cls := "VeilSearch$Documents", name := "readableOf", desc := "(JI)J" } : Jvm.MethodName) ({ cls := "VeilSearch$Documents", name := "readableOf", desc := "(JI)J" } : Jvm.MethodName)) ∈ gT := gT_in3 65 rfl rfl
theorem w_546 : (Jvm.Cond.code ({ cls := "VeilSearch$Documents", name := "readableOf", desc := "(JI)J" } : Jvm.MethodName) prog_2_method_6_code (7 : Nat) (Option.some Jvm.ClassFile.FieldType.long)) ∈ gT := gT_in3 66 rfl rfl
theorem w_547 : (Jvm.Cond.methodLinkNest "VeilSearch$Documents" (32 : Nat) ({ cls := "VeilSearch", name := "holds", desc := "(JI)Z" } : Jvm.MethodName) "VeilSearch") ∈ gN := gN_in3 67 rfl rfl
theorem w_548 : (Jvm.Cond.methodLink "VeilSearch$Documents" (36 : Nat) ({ cls := "VeilSearch$Documents", name := "mayRead", desc := "(II)Z" } : Jvm.MethodName)) ∈ gT := gT_in3 68 rfl rfl
theorem w_549 : (Jvm.Cond.instanceMethod ({ cls := "VeilSearch$Documents", name := "mayRead", desc := "(II)Z" } : Jvm.MethodName)) ∈ gT := gT_in3 69 rfl rfl
theorem w_550 : (Jvm.Cond.selects "VeilSearch$Documents" ({ cls := "VeilSearch$Documents", name := "mayRead", desc := "(II)Z" } : Jvm.MethodName) ({ cls := "VeilSearch$Documents", name := "mayRead", desc := "(II)Z" } : Jvm.MethodName)) ∈ gT := gT_in3 70 rfl rfl
theorem w_551 : (Jvm.Cond.code ({ cls := "VeilSearch$Documents", name := "mayRead", desc := "(II)Z" } : Jvm.MethodName) prog_2_method_5_code (3 : Nat) (Option.some Jvm.ClassFile.FieldType.boolean)) ∈ gT := gT_in3 71 rfl rfl
theorem w_552 : (Jvm.Cond.methodLink "VeilSearch" (252 : Nat) ({ cls := "VeilSearch$Filters", name := "keepNew", desc := "(IIJ)V" } : Jvm.MethodName)) ∈ gT := gT_in3 72 rfl rfl
theorem w_553 : (Jvm.Cond.instanceMethod ({ cls := "VeilSearch$Filters", name := "keepNew", desc := "(IIJ)V" } : Jvm.MethodName)) ∈ gT := gT_in3 73 rfl rfl
theorem w_554 : (Jvm.Cond.selects "VeilSearch$Filters" ({ cls := "VeilSearch$Filters", name := "keepNew", desc := "(IIJ)V" } : Jvm.MethodName) ({ cls := "VeilSearch$Filters", name := "keepNew", desc := "(IIJ)V" } : Jvm.MethodName)) ∈ gT := gT_in3 74 rfl rfl
theorem w_555 : (Jvm.Cond.code ({ cls := "VeilSearch$Filters", name := "keepNew", desc := "(IIJ)V" } : Jvm.MethodName) prog_3_method_4_code (5 : Nat) (Option.none : Option Jvm.ClassFile.FieldType)) ∈ gT := gT_in3 75 rfl rfl
theorem w_556 : (Jvm.Cond.methodLink "VeilSearch" (199 : Nat) ({ cls := "VeilSearch", name := "passThrough", desc := "(JJ)V" } : Jvm.MethodName)) ∈ gT := gT_in3 76 rfl rfl
theorem w_558 : (Jvm.Cond.instanceMethod ({ cls := "VeilSearch", name := "passThrough", desc := "(JJ)V" } : Jvm.MethodName)) ∈ gT := gT_in3 78 rfl rfl
theorem w_559 : (Jvm.Cond.code ({ cls := "VeilSearch", name := "passThrough", desc := "(JJ)V" } : Jvm.MethodName) prog_1_method_26_code (10 : Nat) (Option.none : Option Jvm.ClassFile.FieldType)) ∈ gT := gT_in3 79 rfl rfl
theorem w_560 : (Jvm.Cond.methodLink "VeilSearch" (256 : Nat) ({ cls := "VeilSearch", name := "firstBlock", desc := "(J)J" } : Jvm.MethodName)) ∈ gT := gT_in3 80 rfl rfl
theorem w_561 : (Jvm.Cond.static ({ cls := "VeilSearch", name := "firstBlock", desc := "(J)J" } : Jvm.MethodName)) ∈ gT := gT_in3 81 rfl rfl
theorem w_562 : (Jvm.Cond.code ({ cls := "VeilSearch", name := "firstBlock", desc := "(J)J" } : Jvm.MethodName) prog_1_method_27_code (5 : Nat) (Option.some Jvm.ClassFile.FieldType.long)) ∈ gT := gT_in3 82 rfl rfl
theorem w_563 : (Jvm.Cond.methodLink "VeilSearch" (263 : Nat) ({ cls := "VeilSearch$Query", name := "scoreOf", desc := "(JLVeilSearch$Documents;)F" } : Jvm.MethodName)) ∈ gT := gT_in3 83 rfl rfl
theorem w_564 : (Jvm.Cond.instanceMethod ({ cls := "VeilSearch$Query", name := "scoreOf", desc := "(JLVeilSearch$Documents;)F" } : Jvm.MethodName)) ∈ gT := gT_in3 84 rfl rfl
theorem w_565 : (Jvm.Cond.selects "VeilSearch$Query" ({ cls := "VeilSearch$Query", name := "scoreOf", desc := "(JLVeilSearch$Documents;)F" } : Jvm.MethodName) ({ cls := "VeilSearch$Query", name := "scoreOf", desc := "(JLVeilSearch$Documents;)F" } : Jvm.MethodName)) ∈ gT := gT_in3 85 rfl rfl
theorem w_566 : (Jvm.Cond.code ({ cls := "VeilSearch$Query", name := "scoreOf", desc := "(JLVeilSearch$Documents;)F" } : Jvm.MethodName) prog_5_method_7_code (7 : Nat) (Option.some Jvm.ClassFile.FieldType.float)) ∈ gT := gT_in3 86 rfl rfl
theorem w_567 : (Jvm.Cond.methodLink "VeilSearch$Query" (60 : Nat) ({ cls := "VeilSearch$Documents", name := "greatestCode", desc := "(JII)I" } : Jvm.MethodName)) ∈ gT := gT_in3 87 rfl rfl
theorem w_568 : (Jvm.Cond.instanceMethod ({ cls := "VeilSearch$Documents", name := "greatestCode", desc := "(JII)I" } : Jvm.MethodName)) ∈ gT := gT_in3 88 rfl rfl
theorem w_569 : (Jvm.Cond.selects "VeilSearch$Documents" ({ cls := "VeilSearch$Documents", name := "greatestCode", desc := "(JII)I" } : Jvm.MethodName) ({ cls := "VeilSearch$Documents", name := "greatestCode", desc := "(JII)I" } : Jvm.MethodName)) ∈ gT := gT_in3 89 rfl rfl
theorem w_570 : (Jvm.Cond.code ({ cls := "VeilSearch$Documents", name := "greatestCode", desc := "(JII)I" } : Jvm.MethodName) prog_2_method_7_code (9 : Nat) (Option.some Jvm.ClassFile.FieldType.int)) ∈ gT := gT_in3 90 rfl rfl
theorem w_571 : (Jvm.Cond.methodLinkNest "VeilSearch$Documents" (40 : Nat) ({ cls := "VeilSearch", name := "lowestId", desc := "(J)I" } : Jvm.MethodName) "VeilSearch") ∈ gN := gN_in3 91 rfl rfl
theorem w_572 : (Jvm.Cond.static ({ cls := "VeilSearch", name := "lowestId", desc := "(J)I" } : Jvm.MethodName)) ∈ gT := gT_in3 92 rfl rfl
theorem w_573 : (Jvm.Cond.code ({ cls := "VeilSearch", name := "lowestId", desc := "(J)I" } : Jvm.MethodName) prog_1_method_23_code (2 : Nat) (Option.some Jvm.ClassFile.FieldType.int)) ∈ gT := gT_in3 93 rfl rfl
theorem w_574 : (Jvm.Cond.methodLink "VeilSearch$Documents" (44 : Nat) ({ cls := "VeilSearch$Documents", name := "codePlace", desc := "(III)I" } : Jvm.MethodName)) ∈ gT := gT_in3 94 rfl rfl
theorem w_575 : (Jvm.Cond.methodLink "VeilSearch$Documents" (48 : Nat) ({ cls := "java/lang/Math", name := "max", desc := "(II)I" } : Jvm.MethodName)) ∈ gT := gT_in3 95 rfl rfl
theorem w_576 : (Jvm.Cond.static ({ cls := "java/lang/Math", name := "max", desc := "(II)I" } : Jvm.MethodName)) ∈ gT := gT_in3 96 rfl rfl
theorem w_577 : (Jvm.Cond.code ({ cls := "java/lang/Math", name := "max", desc := "(II)I" } : Jvm.MethodName) prog_16_method_65_code (2 : Nat) (Option.some Jvm.ClassFile.FieldType.int)) ∈ gT := gT_in3 97 rfl rfl
theorem w_578 : (Jvm.Cond.constantFloat "VeilSearch$Query" (64 : Nat) (1098907648 : UInt32)) ∈ gT := gT_in3 98 rfl rfl
theorem w_579 : (Jvm.Cond.methodLink "VeilSearch" (267 : Nat) ({ cls := "VeilSearch$Hits", name := "lastScore", desc := "()F" } : Jvm.MethodName)) ∈ gT := gT_in3 99 rfl rfl
theorem w_580 : (Jvm.Cond.instanceMethod ({ cls := "VeilSearch$Hits", name := "lastScore", desc := "()F" } : Jvm.MethodName)) ∈ gT := gT_in3 100 rfl rfl
theorem w_581 : (Jvm.Cond.selects "VeilSearch$Hits" ({ cls := "VeilSearch$Hits", name := "lastScore", desc := "()F" } : Jvm.MethodName) ({ cls := "VeilSearch$Hits", name := "lastScore", desc := "()F" } : Jvm.MethodName)) ∈ gT := gT_in3 101 rfl rfl
theorem w_582 : (Jvm.Cond.code ({ cls := "VeilSearch$Hits", name := "lastScore", desc := "()F" } : Jvm.MethodName) prog_4_method_3_code (1 : Nat) (Option.some Jvm.ClassFile.FieldType.float)) ∈ gT := gT_in3 102 rfl rfl
theorem w_583 : (Jvm.Cond.methodLink "VeilSearch" (271 : Nat) ({ cls := "VeilSearch", name := "lookAt", desc := "(J)V" } : Jvm.MethodName)) ∈ gT := gT_in3 103 rfl rfl
theorem w_585 : (Jvm.Cond.instanceMethod ({ cls := "VeilSearch", name := "lookAt", desc := "(J)V" } : Jvm.MethodName)) ∈ gT := gT_in3 105 rfl rfl
theorem w_586 : (Jvm.Cond.code ({ cls := "VeilSearch", name := "lookAt", desc := "(J)V" } : Jvm.MethodName) prog_1_method_28_code (7 : Nat) (Option.none : Option Jvm.ClassFile.FieldType)) ∈ gT := gT_in3 106 rfl rfl
theorem w_587 : (Jvm.Cond.methodLink "VeilSearch" (274 : Nat) ({ cls := "VeilSearch", name := "lowestId", desc := "(J)I" } : Jvm.MethodName)) ∈ gT := gT_in3 107 rfl rfl
theorem w_588 : (Jvm.Cond.methodLink "VeilSearch" (277 : Nat) ({ cls := "VeilSearch$Query", name := "finds", desc := "(ILVeilSearch$Documents;)Z" } : Jvm.MethodName)) ∈ gT := gT_in3 108 rfl rfl
theorem w_589 : (Jvm.Cond.instanceMethod ({ cls := "VeilSearch$Query", name := "finds", desc := "(ILVeilSearch$Documents;)Z" } : Jvm.MethodName)) ∈ gT := gT_in3 109 rfl rfl
theorem w_590 : (Jvm.Cond.selects "VeilSearch$Query" ({ cls := "VeilSearch$Query", name := "finds", desc := "(ILVeilSearch$Documents;)Z" } : Jvm.MethodName) ({ cls := "VeilSearch$Query", name := "finds", desc := "(ILVeilSearch$Documents;)Z" } : Jvm.MethodName)) ∈ gT := gT_in3 110 rfl rfl
theorem w_591 : (Jvm.Cond.code ({ cls := "VeilSearch$Query", name := "finds", desc := "(ILVeilSearch$Documents;)Z" } : Jvm.MethodName) prog_5_method_6_code (6 : Nat) (Option.some Jvm.ClassFile.FieldType.boolean)) ∈ gT := gT_in3 111 rfl rfl
theorem w_592 : (Jvm.Cond.methodLink "VeilSearch$Query" (56 : Nat) ({ cls := "VeilSearch$Documents", name := "codePlace", desc := "(III)I" } : Jvm.MethodName)) ∈ gT := gT_in3 112 rfl rfl
theorem w_593 : (Jvm.Cond.methodLink "VeilSearch" (281 : Nat) ({ cls := "VeilSearch$Hits", name := "take", desc := "(IF)V" } : Jvm.MethodName)) ∈ gT := gT_in3 113 rfl rfl
theorem w_594 : (Jvm.Cond.instanceMethod ({ cls := "VeilSearch$Hits", name := "take", desc := "(IF)V" } : Jvm.MethodName)) ∈ gT := gT_in3 114 rfl rfl
theorem w_595 : (Jvm.Cond.selects "VeilSearch$Hits" ({ cls := "VeilSearch$Hits", name := "take", desc := "(IF)V" } : Jvm.MethodName) ({ cls := "VeilSearch$Hits", name := "take", desc := "(IF)V" } : Jvm.MethodName)) ∈ gT := gT_in3 115 rfl rfl
theorem w_596 : (Jvm.Cond.code ({ cls := "VeilSearch$Hits", name := "take", desc := "(IF)V" } : Jvm.MethodName) prog_4_method_4_code (4 : Nat) (Option.none : Option Jvm.ClassFile.FieldType)) ∈ gT := gT_in3 116 rfl rfl
theorem w_597 : (Jvm.Cond.methodLink "VeilSearch$Hits" (26 : Nat) ({ cls := "VeilSearch$Hits", name := "lastScore", desc := "()F" } : Jvm.MethodName)) ∈ gT := gT_in3 117 rfl rfl
theorem w_598 : (Jvm.Cond.methodLink "VeilSearch$Hits" (30 : Nat) ({ cls := "java/lang/Math", name := "min", desc := "(II)I" } : Jvm.MethodName)) ∈ gT := gT_in3 118 rfl rfl
theorem w_599 : (Jvm.Cond.static ({ cls := "java/lang/Math", name := "min", desc := "(II)I" } : Jvm.MethodName)) ∈ gT := gT_in3 119 rfl rfl
theorem w_600 : (Jvm.Cond.code ({ cls := "java/lang/Math", name := "min", desc := "(II)I" } : Jvm.MethodName) prog_16_method_69_code (2 : Nat) (Option.some Jvm.ClassFile.FieldType.int)) ∈ gT := gT_in3 120 rfl rfl
theorem w_601 : (Jvm.Cond.methodLink "VeilSearchLaw" (133 : Nat) ({ cls := "VeilSearchLaw", name := "hit", desc := "(LVeilSearch;I[J)I" } : Jvm.MethodName)) ∈ gT := gT_in3 121 rfl rfl
theorem w_602 : (Jvm.Cond.static ({ cls := "VeilSearchLaw", name := "hit", desc := "(LVeilSearch;I[J)I" } : Jvm.MethodName)) ∈ gT := gT_in3 122 rfl rfl
theorem w_603 : (Jvm.Cond.codeWith ({ cls := "VeilSearchLaw", name := "hit", desc := "(LVeilSearch;I[J)I" } : Jvm.MethodName) method_13_code (4 : Nat) (Option.some Jvm.ClassFile.FieldType.int) [((0 : Nat), (9 : Nat), (12 : Nat), (57 : Nat))]) ∈ gT := gT_in3 123 rfl rfl
theorem w_604 : (Jvm.Cond.classLink "VeilSearchLaw" (57 : Nat) "java/lang/IndexOutOfBoundsException") ∈ gT := gT_in3 124 rfl rfl
theorem w_605 : (Jvm.Cond.methodLink "VeilSearchLaw" (54 : Nat) ({ cls := "VeilSearch", name := "hit", desc := "(I)I" } : Jvm.MethodName)) ∈ gT := gT_in3 125 rfl rfl
theorem w_606 : (Jvm.Cond.instanceMethod ({ cls := "VeilSearch", name := "hit", desc := "(I)I" } : Jvm.MethodName)) ∈ gT := gT_in3 126 rfl rfl
theorem w_607 : (Jvm.Cond.selects "VeilSearch" ({ cls := "VeilSearch", name := "hit", desc := "(I)I" } : Jvm.MethodName) ({ cls := "VeilSearch", name := "hit", desc := "(I)I" } : Jvm.MethodName)) ∈ gT := gT_in3 127 rfl rfl
theorem w_608 : (Jvm.Cond.code ({ cls := "VeilSearch", name := "hit", desc := "(I)I" } : Jvm.MethodName) prog_1_method_15_code (2 : Nat) (Option.some Jvm.ClassFile.FieldType.int)) ∈ gT := gT_in3 128 rfl rfl
theorem w_609 : (Jvm.Cond.classLink "VeilSearch" (204 : Nat) "java/lang/IndexOutOfBoundsException") ∈ gT := gT_in3 129 rfl rfl
theorem w_610 : (Jvm.Cond.instantiable "java/lang/IndexOutOfBoundsException" (6 : Nat)) ∈ gT := gT_in3 130 rfl rfl
theorem w_611 : (Jvm.Cond.castable "java/lang/IndexOutOfBoundsException" "java/lang/IndexOutOfBoundsException") ∈ gN := gN_in3 131 rfl rfl
theorem w_612 : (Jvm.Cond.selects "java/lang/IndexOutOfBoundsException" ({ cls := "java/lang/Throwable", name := "fillInStackTrace", desc := "(I)Ljava/lang/Throwable;" } : Jvm.MethodName) ({ cls := "java/lang/Throwable", name := "fillInStackTrace", desc := "(I)Ljava/lang/Throwable;" } : Jvm.MethodName)) ∈ gT := gT_in3 132 rfl rfl
theorem w_613 : (Jvm.Cond.lays "java/lang/IndexOutOfBoundsException" "java/lang/Throwable" "cause" "Ljava/lang/Throwable;") ∈ gT := gT_in3 133 rfl rfl
theorem w_614 : (Jvm.Cond.lays "java/lang/IndexOutOfBoundsException" "java/lang/Throwable" "stackTrace" "[Ljava/lang/StackTraceElement;") ∈ gT := gT_in3 134 rfl rfl
theorem w_615 : (Jvm.Cond.lays "java/lang/IndexOutOfBoundsException" "java/lang/Throwable" "suppressedExceptions" "Ljava/util/List;") ∈ gT := gT_in3 135 rfl rfl
theorem w_616 : (Jvm.Cond.lays "java/lang/IndexOutOfBoundsException" "java/lang/Throwable" "detailMessage" "Ljava/lang/String;") ∈ gT := gT_in3 136 rfl rfl
theorem w_617 : (Jvm.Cond.lays "java/lang/IndexOutOfBoundsException" "java/lang/Throwable" "backtrace" "Ljava/lang/Object;") ∈ gT := gT_in3 137 rfl rfl
theorem w_618 : (Jvm.Cond.methodLink "VeilSearch" (206 : Nat) ({ cls := "java/lang/IndexOutOfBoundsException", name := "<init>", desc := "()V" } : Jvm.MethodName)) ∈ gT := gT_in3 138 rfl rfl
theorem w_619 : (Jvm.Cond.instanceMethod ({ cls := "java/lang/IndexOutOfBoundsException", name := "<init>", desc := "()V" } : Jvm.MethodName)) ∈ gT := gT_in3 139 rfl rfl
theorem w_620 : (Jvm.Cond.code ({ cls := "java/lang/IndexOutOfBoundsException", name := "<init>", desc := "()V" } : Jvm.MethodName) prog_14_method_1_code (1 : Nat) (Option.none : Option Jvm.ClassFile.FieldType)) ∈ gT := gT_in3 140 rfl rfl
theorem w_621 : (Jvm.Cond.methodLink "java/lang/IndexOutOfBoundsException" (1 : Nat) ({ cls := "java/lang/RuntimeException", name := "<init>", desc := "()V" } : Jvm.MethodName)) ∈ gT := gT_in3 141 rfl rfl
theorem w_622 : (Jvm.Cond.lays "java/lang/IndexOutOfBoundsException" "java/lang/Throwable" "depth" "I") ∈ gT := gT_in3 142 rfl rfl
theorem w_623 : (Jvm.Cond.superclass "java/lang/IndexOutOfBoundsException" "java/lang/RuntimeException") ∈ gT := gT_in3 143 rfl rfl
theorem w_624 : (Jvm.Cond.methodLink "VeilSearchLaw" (136 : Nat) ({ cls := "VeilSearchLaw", name := "score", desc := "(LVeilSearch;I[D)I" } : Jvm.MethodName)) ∈ gT := gT_in3 144 rfl rfl
theorem w_625 : (Jvm.Cond.static ({ cls := "VeilSearchLaw", name := "score", desc := "(LVeilSearch;I[D)I" } : Jvm.MethodName)) ∈ gT := gT_in3 145 rfl rfl
theorem w_626 : (Jvm.Cond.codeWith ({ cls := "VeilSearchLaw", name := "score", desc := "(LVeilSearch;I[D)I" } : Jvm.MethodName) method_14_code (4 : Nat) (Option.some Jvm.ClassFile.FieldType.int) [((0 : Nat), (8 : Nat), (11 : Nat), (57 : Nat))]) ∈ gT := gT_in3 146 rfl rfl
theorem w_627 : (Jvm.Cond.methodLink "VeilSearchLaw" (59 : Nat) ({ cls := "VeilSearch", name := "score", desc := "(I)D" } : Jvm.MethodName)) ∈ gT := gT_in3 147 rfl rfl
theorem w_628 : (Jvm.Cond.instanceMethod ({ cls := "VeilSearch", name := "score", desc := "(I)D" } : Jvm.MethodName)) ∈ gT := gT_in3 148 rfl rfl
theorem w_629 : (Jvm.Cond.selects "VeilSearch" ({ cls := "VeilSearch", name := "score", desc := "(I)D" } : Jvm.MethodName) ({ cls := "VeilSearch", name := "score", desc := "(I)D" } : Jvm.MethodName)) ∈ gT := gT_in3 149 rfl rfl
theorem w_630 : (Jvm.Cond.code ({ cls := "VeilSearch", name := "score", desc := "(I)D" } : Jvm.MethodName) prog_1_method_16_code (2 : Nat) (Option.some Jvm.ClassFile.FieldType.double)) ∈ gT := gT_in3 150 rfl rfl
theorem w_631 : (Jvm.Cond.methodLink "VeilSearchLaw" (140 : Nat) ({ cls := "VeilSearchLaw", name := "value", desc := "(LVeilSearch;III[J)I" } : Jvm.MethodName)) ∈ gT := gT_in3 151 rfl rfl
theorem w_632 : (Jvm.Cond.static ({ cls := "VeilSearchLaw", name := "value", desc := "(LVeilSearch;III[J)I" } : Jvm.MethodName)) ∈ gT := gT_in3 152 rfl rfl
theorem w_633 : (Jvm.Cond.codeWith ({ cls := "VeilSearchLaw", name := "value", desc := "(LVeilSearch;III[J)I" } : Jvm.MethodName) method_15_code (6 : Nat) (Option.some Jvm.ClassFile.FieldType.int) [((0 : Nat), (12 : Nat), (15 : Nat), (13 : Nat)), ((0 : Nat), (12 : Nat), (19 : Nat), (41 : Nat)), ((0 : Nat), (12 : Nat), (23 : Nat), (66 : Nat))]) ∈ gT := gT_in3 153 rfl rfl
theorem w_634 : (Jvm.Cond.classLink "VeilSearchLaw" (66 : Nat) "java/lang/UnsupportedOperationException") ∈ gT := gT_in3 154 rfl rfl
theorem w_635 : (Jvm.Cond.methodLink "VeilSearchLaw" (63 : Nat) ({ cls := "VeilSearch", name := "value", desc := "(III)I" } : Jvm.MethodName)) ∈ gT := gT_in3 155 rfl rfl
theorem w_636 : (Jvm.Cond.instanceMethod ({ cls := "VeilSearch", name := "value", desc := "(III)I" } : Jvm.MethodName)) ∈ gT := gT_in3 156 rfl rfl
theorem w_637 : (Jvm.Cond.selects "VeilSearch" ({ cls := "VeilSearch", name := "value", desc := "(III)I" } : Jvm.MethodName) ({ cls := "VeilSearch", name := "value", desc := "(III)I" } : Jvm.MethodName)) ∈ gT := gT_in3 157 rfl rfl
theorem w_638 : (Jvm.Cond.code ({ cls := "VeilSearch", name := "value", desc := "(III)I" } : Jvm.MethodName) prog_1_method_17_code (4 : Nat) (Option.some Jvm.ClassFile.FieldType.int)) ∈ gT := gT_in3 158 rfl rfl
theorem w_639 : (Jvm.Cond.methodLink "VeilSearch" (216 : Nat) ({ cls := "VeilSearch$Documents", name := "mayRead", desc := "(II)Z" } : Jvm.MethodName)) ∈ gT := gT_in3 159 rfl rfl
theorem w_640 : (Jvm.Cond.methodLink "VeilSearch" (219 : Nat) ({ cls := "VeilSearch$Rights", name := "isOpen", desc := "(II)Z" } : Jvm.MethodName)) ∈ gT := gT_in3 160 rfl rfl
theorem w_641 : (Jvm.Cond.classLink "VeilSearch" (222 : Nat) "java/lang/UnsupportedOperationException") ∈ gT := gT_in3 161 rfl rfl
theorem w_642 : (Jvm.Cond.instantiable "java/lang/UnsupportedOperationException" (6 : Nat)) ∈ gT := gT_in3 162 rfl rfl
theorem w_643 : (Jvm.Cond.castable "java/lang/UnsupportedOperationException" "java/lang/UnsupportedOperationException") ∈ gN := gN_in3 163 rfl rfl
theorem w_644 : (Jvm.Cond.selects "java/lang/UnsupportedOperationException" ({ cls := "java/lang/Throwable", name := "fillInStackTrace", desc := "(I)Ljava/lang/Throwable;" } : Jvm.MethodName) ({ cls := "java/lang/Throwable", name := "fillInStackTrace", desc := "(I)Ljava/lang/Throwable;" } : Jvm.MethodName)) ∈ gT := gT_in3 164 rfl rfl
theorem w_645 : (Jvm.Cond.lays "java/lang/UnsupportedOperationException" "java/lang/Throwable" "cause" "Ljava/lang/Throwable;") ∈ gT := gT_in3 165 rfl rfl
theorem w_646 : (Jvm.Cond.lays "java/lang/UnsupportedOperationException" "java/lang/Throwable" "stackTrace" "[Ljava/lang/StackTraceElement;") ∈ gT := gT_in3 166 rfl rfl
theorem w_647 : (Jvm.Cond.lays "java/lang/UnsupportedOperationException" "java/lang/Throwable" "suppressedExceptions" "Ljava/util/List;") ∈ gT := gT_in3 167 rfl rfl
theorem w_648 : (Jvm.Cond.lays "java/lang/UnsupportedOperationException" "java/lang/Throwable" "detailMessage" "Ljava/lang/String;") ∈ gT := gT_in3 168 rfl rfl
theorem w_649 : (Jvm.Cond.lays "java/lang/UnsupportedOperationException" "java/lang/Throwable" "backtrace" "Ljava/lang/Object;") ∈ gT := gT_in3 169 rfl rfl
theorem w_650 : (Jvm.Cond.methodLink "VeilSearch" (224 : Nat) ({ cls := "java/lang/UnsupportedOperationException", name := "<init>", desc := "()V" } : Jvm.MethodName)) ∈ gT := gT_in3 170 rfl rfl
theorem w_651 : (Jvm.Cond.instanceMethod ({ cls := "java/lang/UnsupportedOperationException", name := "<init>", desc := "()V" } : Jvm.MethodName)) ∈ gT := gT_in3 171 rfl rfl
theorem w_652 : (Jvm.Cond.code ({ cls := "java/lang/UnsupportedOperationException", name := "<init>", desc := "()V" } : Jvm.MethodName) prog_20_method_1_code (1 : Nat) (Option.none : Option Jvm.ClassFile.FieldType)) ∈ gT := gT_in3 172 rfl rfl
theorem w_653 : (Jvm.Cond.methodLink "java/lang/UnsupportedOperationException" (1 : Nat) ({ cls := "java/lang/RuntimeException", name := "<init>", desc := "()V" } : Jvm.MethodName)) ∈ gT := gT_in3 173 rfl rfl
theorem w_654 : (Jvm.Cond.lays "java/lang/UnsupportedOperationException" "java/lang/Throwable" "depth" "I") ∈ gT := gT_in3 174 rfl rfl
theorem w_655 : (Jvm.Cond.superclass "java/lang/UnsupportedOperationException" "java/lang/RuntimeException") ∈ gT := gT_in3 175 rfl rfl
theorem w_656 : (Jvm.Cond.methodLink "VeilSearchLaw" (143 : Nat) ({ cls := "VeilSearchLaw", name := "count", desc := "(LVeilSearch;I[J)I" } : Jvm.MethodName)) ∈ gT := gT_in3 176 rfl rfl
theorem w_657 : (Jvm.Cond.static ({ cls := "VeilSearchLaw", name := "count", desc := "(LVeilSearch;I[J)I" } : Jvm.MethodName)) ∈ gT := gT_in3 177 rfl rfl
theorem w_658 : (Jvm.Cond.codeWith ({ cls := "VeilSearchLaw", name := "count", desc := "(LVeilSearch;I[J)I" } : Jvm.MethodName) method_16_code (4 : Nat) (Option.some Jvm.ClassFile.FieldType.int) [((0 : Nat), (9 : Nat), (12 : Nat), (13 : Nat))]) ∈ gT := gT_in3 178 rfl rfl
theorem w_659 : (Jvm.Cond.methodLink "VeilSearchLaw" (68 : Nat) ({ cls := "VeilSearch", name := "count", desc := "(I)I" } : Jvm.MethodName)) ∈ gT := gT_in3 179 rfl rfl
theorem w_660 : (Jvm.Cond.instanceMethod ({ cls := "VeilSearch", name := "count", desc := "(I)I" } : Jvm.MethodName)) ∈ gT := gT_in3 180 rfl rfl
theorem w_661 : (Jvm.Cond.selects "VeilSearch" ({ cls := "VeilSearch", name := "count", desc := "(I)I" } : Jvm.MethodName) ({ cls := "VeilSearch", name := "count", desc := "(I)I" } : Jvm.MethodName)) ∈ gT := gT_in3 181 rfl rfl
theorem w_662 : (Jvm.Cond.code ({ cls := "VeilSearch", name := "count", desc := "(I)I" } : Jvm.MethodName) prog_1_method_18_code (2 : Nat) (Option.some Jvm.ClassFile.FieldType.int)) ∈ gT := gT_in3 182 rfl rfl
theorem w_663 : (Jvm.Cond.classLink "VeilSearchLaw" (72 : Nat) "VeilSearchModel") ∈ gT := gT_in3 183 rfl rfl
theorem w_664 : (Jvm.Cond.instantiable "VeilSearchModel" (40 : Nat)) ∈ gT := gT_in3 184 rfl rfl
theorem w_665 : (Jvm.Cond.methodLink "VeilSearchLaw" (74 : Nat) ({ cls := "VeilSearchModel", name := "<init>", desc := "()V" } : Jvm.MethodName)) ∈ gT := gT_in3 185 rfl rfl
theorem w_666 : (Jvm.Cond.instanceMethod ({ cls := "VeilSearchModel", name := "<init>", desc := "()V" } : Jvm.MethodName)) ∈ gT := gT_in3 186 rfl rfl
theorem w_667 : (Jvm.Cond.code ({ cls := "VeilSearchModel", name := "<init>", desc := "()V" } : Jvm.MethodName) prog_10_method_1_code (1 : Nat) (Option.none : Option Jvm.ClassFile.FieldType)) ∈ gT := gT_in3 187 rfl rfl
theorem w_668 : (Jvm.Cond.methodLink "VeilSearchModel" (1 : Nat) ({ cls := "java/lang/Object", name := "<init>", desc := "()V" } : Jvm.MethodName)) ∈ gT := gT_in3 188 rfl rfl
theorem w_669 : (Jvm.Cond.fieldLink "VeilSearchModel" (7 : Nat) "VeilSearchModel" "members" "[I") ∈ gT := gT_in3 189 rfl rfl
theorem w_670 : (Jvm.Cond.fieldLink "VeilSearchModel" (13 : Nat) "VeilSearchModel" "levels" "[I") ∈ gT := gT_in3 190 rfl rfl
theorem w_671 : (Jvm.Cond.fieldLink "VeilSearchModel" (16 : Nat) "VeilSearchModel" "clearances" "[I") ∈ gT := gT_in3 191 rfl rfl
theorem w_672 : (Jvm.Cond.fieldLink "VeilSearchModel" (19 : Nat) "VeilSearchModel" "oldMembers" "[I") ∈ gT := gT_in3 192 rfl rfl
theorem w_673 : (Jvm.Cond.fieldLink "VeilSearchModel" (22 : Nat) "VeilSearchModel" "oldLevels" "[I") ∈ gT := gT_in3 193 rfl rfl
theorem w_674 : (Jvm.Cond.fieldLink "VeilSearchModel" (25 : Nat) "VeilSearchModel" "oldClearances" "[I") ∈ gT := gT_in3 194 rfl rfl
theorem w_675 : (Jvm.Cond.fieldLink "VeilSearchModel" (28 : Nat) "VeilSearchModel" "value" "[I") ∈ gT := gT_in3 195 rfl rfl
theorem w_676 : (Jvm.Cond.fieldLink "VeilSearchModel" (31 : Nat) "VeilSearchModel" "code" "[I") ∈ gT := gT_in3 196 rfl rfl
theorem w_677 : (Jvm.Cond.fieldLink "VeilSearchModel" (34 : Nat) "VeilSearchModel" "allows" "[I") ∈ gT := gT_in3 197 rfl rfl
theorem w_678 : (Jvm.Cond.fieldLink "VeilSearchModel" (37 : Nat) "VeilSearchModel" "denies" "[I") ∈ gT := gT_in3 198 rfl rfl
theorem w_679 : (Jvm.Cond.fieldLink "VeilSearchModel" (40 : Nat) "VeilSearchModel" "parent" "[I") ∈ gT := gT_in3 199 rfl rfl
theorem w_680 : (Jvm.Cond.fieldLink "VeilSearchModel" (43 : Nat) "VeilSearchModel" "segment" "[I") ∈ gT := gT_in3 200 rfl rfl
theorem w_681 : (Jvm.Cond.fieldLink "VeilSearchModel" (46 : Nat) "VeilSearchModel" "seen" "[I") ∈ gT := gT_in3 201 rfl rfl
theorem w_682 : (Jvm.Cond.fieldLink "VeilSearchModel" (49 : Nat) "VeilSearchModel" "removed" "[Z") ∈ gT := gT_in3 202 rfl rfl
theorem w_683 : (Jvm.Cond.fieldLink "VeilSearchModel" (53 : Nat) "VeilSearchModel" "seenRemoved" "[Z") ∈ gT := gT_in3 203 rfl rfl
theorem w_684 : (Jvm.Cond.fieldLink "VeilSearchModel" (56 : Nat) "VeilSearchModel" "segments" "[I") ∈ gT := gT_in3 204 rfl rfl
theorem w_685 : (Jvm.Cond.fieldLink "VeilSearchModel" (59 : Nat) "VeilSearchModel" "shown" "[I") ∈ gT := gT_in3 205 rfl rfl
theorem w_686 : (Jvm.Cond.fieldLink "VeilSearchModel" (62 : Nat) "VeilSearchModel" "sort" "[I") ∈ gT := gT_in3 206 rfl rfl
theorem w_687 : (Jvm.Cond.fieldLink "VeilSearchModel" (65 : Nat) "VeilSearchModel" "term" "[I") ∈ gT := gT_in3 207 rfl rfl
theorem w_688 : (Jvm.Cond.fieldLink "VeilSearchModel" (68 : Nat) "VeilSearchModel" "field" "[I") ∈ gT := gT_in3 208 rfl rfl
theorem w_689 : (Jvm.Cond.fieldLink "VeilSearchModel" (71 : Nat) "VeilSearchModel" "order" "[I") ∈ gT := gT_in3 209 rfl rfl
theorem w_690 : (Jvm.Cond.fieldLink "VeilSearchModel" (74 : Nat) "VeilSearchModel" "hits" "[I") ∈ gT := gT_in3 210 rfl rfl
theorem w_691 : (Jvm.Cond.fieldLink "VeilSearchModel" (77 : Nat) "VeilSearchModel" "weight" "[D") ∈ gT := gT_in3 211 rfl rfl
theorem w_692 : (Jvm.Cond.fieldLink "VeilSearchModel" (81 : Nat) "VeilSearchModel" "scores" "[F") ∈ gT := gT_in3 212 rfl rfl
theorem w_693 : (Jvm.Cond.fieldLink "VeilSearchModel" (85 : Nat) "VeilSearchModel" "filterOf" "[I") ∈ gT := gT_in3 213 rfl rfl
theorem w_694 : (Jvm.Cond.fieldLink "VeilSearchModel" (88 : Nat) "VeilSearchModel" "filterFor" "[I") ∈ gT := gT_in3 214 rfl rfl
theorem w_695 : (Jvm.Cond.fieldLink "VeilSearchModel" (91 : Nat) "VeilSearchModel" "filterAt" "[I") ∈ gT := gT_in3 215 rfl rfl
theorem w_696 : (Jvm.Cond.fieldLink "VeilSearchModel" (116 : Nat) "VeilSearchModel" "ids" "I") ∈ gT := gT_in3 216 rfl rfl
theorem w_697 : (Jvm.Cond.fieldLink "VeilSearchModel" (119 : Nat) "VeilSearchModel" "segmentMany" "I") ∈ gT := gT_in3 217 rfl rfl
theorem w_698 : (Jvm.Cond.fieldLink "VeilSearchModel" (128 : Nat) "VeilSearchModel" "shownMany" "I") ∈ gT := gT_in3 218 rfl rfl
theorem w_699 : (Jvm.Cond.fieldLink "VeilSearchModel" (125 : Nat) "VeilSearchModel" "serial" "I") ∈ gT := gT_in3 219 rfl rfl
theorem w_700 : (Jvm.Cond.fieldLink "VeilSearchModel" (146 : Nat) "VeilSearchModel" "clauses" "I") ∈ gT := gT_in3 220 rfl rfl
theorem w_701 : (Jvm.Cond.fieldLink "VeilSearchModel" (157 : Nat) "VeilSearchModel" "found" "I") ∈ gT := gT_in3 221 rfl rfl
theorem w_702 : (Jvm.Cond.fieldLink "VeilSearchModel" (169 : Nat) "VeilSearchModel" "looked" "I") ∈ gT := gT_in3 222 rfl rfl
theorem w_703 : (Jvm.Cond.fieldLink "VeilSearchModel" (178 : Nat) "VeilSearchModel" "matched" "I") ∈ gT := gT_in3 223 rfl rfl
theorem w_704 : (Jvm.Cond.fieldLink "VeilSearchModel" (131 : Nat) "VeilSearchModel" "filters" "I") ∈ gT := gT_in3 224 rfl rfl
theorem w_705 : (Jvm.Cond.fieldLink "VeilSearchModel" (166 : Nat) "VeilSearchModel" "made" "I") ∈ gT := gT_in3 225 rfl rfl
theorem w_706 : (Jvm.Cond.fieldLink "VeilSearchModel" (163 : Nat) "VeilSearchModel" "reused" "I") ∈ gT := gT_in3 226 rfl rfl
theorem w_707 : (Jvm.Cond.fieldLink "VeilSearchModel" (160 : Nat) "VeilSearchModel" "clock" "I") ∈ gT := gT_in3 227 rfl rfl
theorem w_708 : (Jvm.Cond.fieldLink "VeilSearchModel" (94 : Nat) "VeilSearchModel" "thrown" "I") ∈ gT := gT_in3 228 rfl rfl
theorem w_709 : (Jvm.Cond.laysFinal "VeilSearchModel" "VeilSearchModel" "members" "[I") ∈ gT := gT_in3 229 rfl rfl
theorem w_711 : (Jvm.Cond.laysFinal "VeilSearchModel" "VeilSearchModel" "levels" "[I") ∈ gT := gT_in3 231 rfl rfl
theorem w_713 : (Jvm.Cond.laysFinal "VeilSearchModel" "VeilSearchModel" "clearances" "[I") ∈ gT := gT_in3 233 rfl rfl
theorem w_715 : (Jvm.Cond.laysFinal "VeilSearchModel" "VeilSearchModel" "oldMembers" "[I") ∈ gT := gT_in3 235 rfl rfl
theorem w_717 : (Jvm.Cond.laysFinal "VeilSearchModel" "VeilSearchModel" "oldLevels" "[I") ∈ gT := gT_in3 237 rfl rfl
theorem w_719 : (Jvm.Cond.laysFinal "VeilSearchModel" "VeilSearchModel" "oldClearances" "[I") ∈ gT := gT_in3 239 rfl rfl
theorem w_721 : (Jvm.Cond.laysFinal "VeilSearchModel" "VeilSearchModel" "value" "[I") ∈ gT := gT_in4 1 rfl rfl
theorem w_723 : (Jvm.Cond.laysFinal "VeilSearchModel" "VeilSearchModel" "code" "[I") ∈ gT := gT_in4 3 rfl rfl
theorem w_725 : (Jvm.Cond.laysFinal "VeilSearchModel" "VeilSearchModel" "allows" "[I") ∈ gT := gT_in4 5 rfl rfl
theorem w_727 : (Jvm.Cond.laysFinal "VeilSearchModel" "VeilSearchModel" "denies" "[I") ∈ gT := gT_in4 7 rfl rfl
theorem w_729 : (Jvm.Cond.laysFinal "VeilSearchModel" "VeilSearchModel" "parent" "[I") ∈ gT := gT_in4 9 rfl rfl
theorem w_731 : (Jvm.Cond.laysFinal "VeilSearchModel" "VeilSearchModel" "segment" "[I") ∈ gT := gT_in4 11 rfl rfl
theorem w_733 : (Jvm.Cond.laysFinal "VeilSearchModel" "VeilSearchModel" "seen" "[I") ∈ gT := gT_in4 13 rfl rfl
theorem w_735 : (Jvm.Cond.laysFinal "VeilSearchModel" "VeilSearchModel" "removed" "[Z") ∈ gT := gT_in4 15 rfl rfl
theorem w_737 : (Jvm.Cond.laysFinal "VeilSearchModel" "VeilSearchModel" "seenRemoved" "[Z") ∈ gT := gT_in4 17 rfl rfl
theorem w_739 : (Jvm.Cond.laysFinal "VeilSearchModel" "VeilSearchModel" "segments" "[I") ∈ gT := gT_in4 19 rfl rfl
theorem w_741 : (Jvm.Cond.laysFinal "VeilSearchModel" "VeilSearchModel" "shown" "[I") ∈ gT := gT_in4 21 rfl rfl
theorem w_743 : (Jvm.Cond.laysFinal "VeilSearchModel" "VeilSearchModel" "sort" "[I") ∈ gT := gT_in4 23 rfl rfl
theorem w_745 : (Jvm.Cond.laysFinal "VeilSearchModel" "VeilSearchModel" "term" "[I") ∈ gT := gT_in4 25 rfl rfl
theorem w_747 : (Jvm.Cond.laysFinal "VeilSearchModel" "VeilSearchModel" "field" "[I") ∈ gT := gT_in4 27 rfl rfl
theorem w_749 : (Jvm.Cond.laysFinal "VeilSearchModel" "VeilSearchModel" "order" "[I") ∈ gT := gT_in4 29 rfl rfl
theorem w_751 : (Jvm.Cond.laysFinal "VeilSearchModel" "VeilSearchModel" "hits" "[I") ∈ gT := gT_in4 31 rfl rfl
theorem w_753 : (Jvm.Cond.laysFinal "VeilSearchModel" "VeilSearchModel" "weight" "[D") ∈ gT := gT_in4 33 rfl rfl
theorem w_755 : (Jvm.Cond.laysFinal "VeilSearchModel" "VeilSearchModel" "scores" "[F") ∈ gT := gT_in4 35 rfl rfl
theorem w_757 : (Jvm.Cond.laysFinal "VeilSearchModel" "VeilSearchModel" "filterOf" "[I") ∈ gT := gT_in4 37 rfl rfl
theorem w_759 : (Jvm.Cond.laysFinal "VeilSearchModel" "VeilSearchModel" "filterFor" "[I") ∈ gT := gT_in4 39 rfl rfl
theorem w_761 : (Jvm.Cond.laysFinal "VeilSearchModel" "VeilSearchModel" "filterAt" "[I") ∈ gT := gT_in4 41 rfl rfl
theorem w_763 : (Jvm.Cond.lays "VeilSearchModel" "VeilSearchModel" "ids" "I") ∈ gT := gT_in4 43 rfl rfl
theorem w_765 : (Jvm.Cond.lays "VeilSearchModel" "VeilSearchModel" "segmentMany" "I") ∈ gT := gT_in4 45 rfl rfl
theorem w_767 : (Jvm.Cond.lays "VeilSearchModel" "VeilSearchModel" "shownMany" "I") ∈ gT := gT_in4 47 rfl rfl
theorem w_769 : (Jvm.Cond.lays "VeilSearchModel" "VeilSearchModel" "serial" "I") ∈ gT := gT_in4 49 rfl rfl
theorem w_771 : (Jvm.Cond.lays "VeilSearchModel" "VeilSearchModel" "clauses" "I") ∈ gT := gT_in4 51 rfl rfl
theorem w_773 : (Jvm.Cond.lays "VeilSearchModel" "VeilSearchModel" "found" "I") ∈ gT := gT_in4 53 rfl rfl
theorem w_775 : (Jvm.Cond.lays "VeilSearchModel" "VeilSearchModel" "looked" "I") ∈ gT := gT_in4 55 rfl rfl
theorem w_777 : (Jvm.Cond.lays "VeilSearchModel" "VeilSearchModel" "matched" "I") ∈ gT := gT_in4 57 rfl rfl
theorem w_779 : (Jvm.Cond.lays "VeilSearchModel" "VeilSearchModel" "filters" "I") ∈ gT := gT_in4 59 rfl rfl
theorem w_781 : (Jvm.Cond.lays "VeilSearchModel" "VeilSearchModel" "made" "I") ∈ gT := gT_in4 61 rfl rfl
theorem w_783 : (Jvm.Cond.lays "VeilSearchModel" "VeilSearchModel" "reused" "I") ∈ gT := gT_in4 63 rfl rfl
theorem w_785 : (Jvm.Cond.lays "VeilSearchModel" "VeilSearchModel" "clock" "I") ∈ gT := gT_in4 65 rfl rfl
theorem w_787 : (Jvm.Cond.lays "VeilSearchModel" "VeilSearchModel" "thrown" "I") ∈ gT := gT_in4 67 rfl rfl
theorem w_789 : (Jvm.Cond.superclass "VeilSearchModel" "java/lang/Object") ∈ gT := gT_in4 69 rfl rfl
theorem w_790 : (Jvm.Cond.arrayClass Jvm.ClassFile.FieldType.double) ∈ gT := gT_in4 70 rfl rfl
theorem w_791 : (Jvm.Cond.methodLink "VeilSearchLaw" (81 : Nat) ({ cls := "VeilSearchModel", name := "thrown", desc := "()I" } : Jvm.MethodName)) ∈ gT := gT_in4 71 rfl rfl
theorem w_792 : (Jvm.Cond.instanceMethod ({ cls := "VeilSearchModel", name := "thrown", desc := "()I" } : Jvm.MethodName)) ∈ gT := gT_in4 72 rfl rfl
theorem w_793 : (Jvm.Cond.selects "VeilSearchModel" ({ cls := "VeilSearchModel", name := "thrown", desc := "()I" } : Jvm.MethodName) ({ cls := "VeilSearchModel", name := "thrown", desc := "()I" } : Jvm.MethodName)) ∈ gT := gT_in4 73 rfl rfl
theorem w_794 : (Jvm.Cond.code ({ cls := "VeilSearchModel", name := "thrown", desc := "()I" } : Jvm.MethodName) prog_10_method_2_code (1 : Nat) (Option.some Jvm.ClassFile.FieldType.int)) ∈ gT := gT_in4 74 rfl rfl
theorem w_795 : (Jvm.Cond.methodLink "VeilSearchLaw" (80 : Nat) ({ cls := "VeilSearchModel", name := "member", desc := "(IIZ)Z" } : Jvm.MethodName)) ∈ gT := gT_in4 75 rfl rfl
theorem w_796 : (Jvm.Cond.instanceMethod ({ cls := "VeilSearchModel", name := "member", desc := "(IIZ)Z" } : Jvm.MethodName)) ∈ gT := gT_in4 76 rfl rfl
theorem w_797 : (Jvm.Cond.selects "VeilSearchModel" ({ cls := "VeilSearchModel", name := "member", desc := "(IIZ)Z" } : Jvm.MethodName) ({ cls := "VeilSearchModel", name := "member", desc := "(IIZ)Z" } : Jvm.MethodName)) ∈ gT := gT_in4 77 rfl rfl
theorem w_798 : (Jvm.Cond.code ({ cls := "VeilSearchModel", name := "member", desc := "(IIZ)Z" } : Jvm.MethodName) prog_10_method_5_code (6 : Nat) (Option.some Jvm.ClassFile.FieldType.boolean)) ∈ gT := gT_in4 78 rfl rfl
theorem w_799 : (Jvm.Cond.methodLink "VeilSearchModel" (98 : Nat) ({ cls := "VeilSearchModel", name := "in", desc := "(III)Z" } : Jvm.MethodName)) ∈ gT := gT_in4 79 rfl rfl
theorem w_800 : (Jvm.Cond.static ({ cls := "VeilSearchModel", name := "in", desc := "(III)Z" } : Jvm.MethodName)) ∈ gT := gT_in4 80 rfl rfl
theorem w_801 : (Jvm.Cond.code ({ cls := "VeilSearchModel", name := "in", desc := "(III)Z" } : Jvm.MethodName) prog_10_method_3_code (3 : Nat) (Option.some Jvm.ClassFile.FieldType.boolean)) ∈ gT := gT_in4 81 rfl rfl
theorem w_802 : (Jvm.Cond.methodLink "VeilSearchLaw" (87 : Nat) ({ cls := "VeilSearchModel", name := "level", desc := "(III)I" } : Jvm.MethodName)) ∈ gT := gT_in4 82 rfl rfl
theorem w_803 : (Jvm.Cond.instanceMethod ({ cls := "VeilSearchModel", name := "level", desc := "(III)I" } : Jvm.MethodName)) ∈ gT := gT_in4 83 rfl rfl
theorem w_804 : (Jvm.Cond.selects "VeilSearchModel" ({ cls := "VeilSearchModel", name := "level", desc := "(III)I" } : Jvm.MethodName) ({ cls := "VeilSearchModel", name := "level", desc := "(III)I" } : Jvm.MethodName)) ∈ gT := gT_in4 84 rfl rfl
theorem w_805 : (Jvm.Cond.code ({ cls := "VeilSearchModel", name := "level", desc := "(III)I" } : Jvm.MethodName) prog_10_method_6_code (5 : Nat) (Option.some Jvm.ClassFile.FieldType.int)) ∈ gT := gT_in4 85 rfl rfl
theorem w_806 : (Jvm.Cond.methodLink "VeilSearchModel" (102 : Nat) ({ cls := "VeilSearchModel", name := "fail", desc := "(I)I" } : Jvm.MethodName)) ∈ gT := gT_in4 86 rfl rfl
theorem w_808 : (Jvm.Cond.instanceMethod ({ cls := "VeilSearchModel", name := "fail", desc := "(I)I" } : Jvm.MethodName)) ∈ gT := gT_in4 88 rfl rfl
theorem w_809 : (Jvm.Cond.code ({ cls := "VeilSearchModel", name := "fail", desc := "(I)I" } : Jvm.MethodName) prog_10_method_4_code (2 : Nat) (Option.some Jvm.ClassFile.FieldType.int)) ∈ gT := gT_in4 89 rfl rfl
theorem w_810 : (Jvm.Cond.methodLink "VeilSearchLaw" (93 : Nat) ({ cls := "VeilSearchModel", name := "weigh", desc := "(IID)I" } : Jvm.MethodName)) ∈ gT := gT_in4 90 rfl rfl
theorem w_811 : (Jvm.Cond.instanceMethod ({ cls := "VeilSearchModel", name := "weigh", desc := "(IID)I" } : Jvm.MethodName)) ∈ gT := gT_in4 91 rfl rfl
theorem w_812 : (Jvm.Cond.selects "VeilSearchModel" ({ cls := "VeilSearchModel", name := "weigh", desc := "(IID)I" } : Jvm.MethodName) ({ cls := "VeilSearchModel", name := "weigh", desc := "(IID)I" } : Jvm.MethodName)) ∈ gT := gT_in4 92 rfl rfl
theorem w_813 : (Jvm.Cond.code ({ cls := "VeilSearchModel", name := "weigh", desc := "(IID)I" } : Jvm.MethodName) prog_10_method_9_code (6 : Nat) (Option.some Jvm.ClassFile.FieldType.int)) ∈ gT := gT_in4 93 rfl rfl
theorem w_814 : (Jvm.Cond.methodLink "VeilSearchModel" (110 : Nat) ({ cls := "VeilSearchModel", name := "isWeight", desc := "(D)Z" } : Jvm.MethodName)) ∈ gT := gT_in4 94 rfl rfl
theorem w_815 : (Jvm.Cond.static ({ cls := "VeilSearchModel", name := "isWeight", desc := "(D)Z" } : Jvm.MethodName)) ∈ gT := gT_in4 95 rfl rfl
theorem w_816 : (Jvm.Cond.code ({ cls := "VeilSearchModel", name := "isWeight", desc := "(D)Z" } : Jvm.MethodName) prog_10_method_8_code (2 : Nat) (Option.some Jvm.ClassFile.FieldType.boolean)) ∈ gT := gT_in4 96 rfl rfl
theorem w_817 : (Jvm.Cond.constantDouble "VeilSearchModel" (106 : Nat) (4652007308841189376 : UInt64)) ∈ gT := gT_in4 97 rfl rfl
theorem w_818 : (Jvm.Cond.constantDouble "VeilSearchModel" (108 : Nat) (4158027847206421152 : UInt64)) ∈ gT := gT_in4 98 rfl rfl
theorem w_819 : (Jvm.Cond.constantFloat "VeilSearchModel" (114 : Nat) (1098907648 : UInt32)) ∈ gT := gT_in4 99 rfl rfl
theorem w_820 : (Jvm.Cond.constantFloat "VeilSearchModel" (115 : Nat) (1056964608 : UInt32)) ∈ gT := gT_in4 100 rfl rfl
theorem w_821 : (Jvm.Cond.methodLink "VeilSearchLaw" (97 : Nat) ({ cls := "VeilSearchModel", name := "put", desc := "(II)I" } : Jvm.MethodName)) ∈ gT := gT_in4 101 rfl rfl
theorem w_822 : (Jvm.Cond.instanceMethod ({ cls := "VeilSearchModel", name := "put", desc := "(II)I" } : Jvm.MethodName)) ∈ gT := gT_in4 102 rfl rfl
theorem w_823 : (Jvm.Cond.selects "VeilSearchModel" ({ cls := "VeilSearchModel", name := "put", desc := "(II)I" } : Jvm.MethodName) ({ cls := "VeilSearchModel", name := "put", desc := "(II)I" } : Jvm.MethodName)) ∈ gT := gT_in4 103 rfl rfl
theorem w_824 : (Jvm.Cond.code ({ cls := "VeilSearchModel", name := "put", desc := "(II)I" } : Jvm.MethodName) prog_10_method_10_code (4 : Nat) (Option.some Jvm.ClassFile.FieldType.int)) ∈ gT := gT_in4 104 rfl rfl
theorem w_825 : (Jvm.Cond.methodLink "VeilSearchLaw" (101 : Nat) ({ cls := "VeilSearchModel", name := "rule", desc := "(IZ)Z" } : Jvm.MethodName)) ∈ gT := gT_in4 105 rfl rfl
theorem w_826 : (Jvm.Cond.instanceMethod ({ cls := "VeilSearchModel", name := "rule", desc := "(IZ)Z" } : Jvm.MethodName)) ∈ gT := gT_in4 106 rfl rfl
theorem w_827 : (Jvm.Cond.selects "VeilSearchModel" ({ cls := "VeilSearchModel", name := "rule", desc := "(IZ)Z" } : Jvm.MethodName) ({ cls := "VeilSearchModel", name := "rule", desc := "(IZ)Z" } : Jvm.MethodName)) ∈ gT := gT_in4 107 rfl rfl
theorem w_828 : (Jvm.Cond.code ({ cls := "VeilSearchModel", name := "rule", desc := "(IZ)Z" } : Jvm.MethodName) prog_10_method_11_code (5 : Nat) (Option.some Jvm.ClassFile.FieldType.boolean)) ∈ gT := gT_in4 108 rfl rfl
theorem w_829 : (Jvm.Cond.methodLink "VeilSearchLaw" (105 : Nat) ({ cls := "VeilSearchModel", name := "add", desc := "(I)I" } : Jvm.MethodName)) ∈ gT := gT_in4 109 rfl rfl
theorem w_830 : (Jvm.Cond.instanceMethod ({ cls := "VeilSearchModel", name := "add", desc := "(I)I" } : Jvm.MethodName)) ∈ gT := gT_in4 110 rfl rfl
theorem w_831 : (Jvm.Cond.selects "VeilSearchModel" ({ cls := "VeilSearchModel", name := "add", desc := "(I)I" } : Jvm.MethodName) ({ cls := "VeilSearchModel", name := "add", desc := "(I)I" } : Jvm.MethodName)) ∈ gT := gT_in4 111 rfl rfl
theorem w_832 : (Jvm.Cond.code ({ cls := "VeilSearchModel", name := "add", desc := "(I)I" } : Jvm.MethodName) prog_10_method_12_code (4 : Nat) (Option.some Jvm.ClassFile.FieldType.int)) ∈ gT := gT_in4 112 rfl rfl
theorem w_833 : (Jvm.Cond.methodLink "VeilSearchLaw" (109 : Nat) ({ cls := "VeilSearchModel", name := "remove", desc := "(I)V" } : Jvm.MethodName)) ∈ gT := gT_in4 113 rfl rfl
theorem w_834 : (Jvm.Cond.instanceMethod ({ cls := "VeilSearchModel", name := "remove", desc := "(I)V" } : Jvm.MethodName)) ∈ gT := gT_in4 114 rfl rfl
theorem w_835 : (Jvm.Cond.selects "VeilSearchModel" ({ cls := "VeilSearchModel", name := "remove", desc := "(I)V" } : Jvm.MethodName) ({ cls := "VeilSearchModel", name := "remove", desc := "(I)V" } : Jvm.MethodName)) ∈ gT := gT_in4 115 rfl rfl
theorem w_836 : (Jvm.Cond.code ({ cls := "VeilSearchModel", name := "remove", desc := "(I)V" } : Jvm.MethodName) prog_10_method_13_code (2 : Nat) (Option.none : Option Jvm.ClassFile.FieldType)) ∈ gT := gT_in4 116 rfl rfl
theorem w_837 : (Jvm.Cond.methodLink "VeilSearchLaw" (113 : Nat) ({ cls := "VeilSearchModel", name := "flush", desc := "()I" } : Jvm.MethodName)) ∈ gT := gT_in4 117 rfl rfl
theorem w_838 : (Jvm.Cond.instanceMethod ({ cls := "VeilSearchModel", name := "flush", desc := "()I" } : Jvm.MethodName)) ∈ gT := gT_in4 118 rfl rfl
theorem w_839 : (Jvm.Cond.selects "VeilSearchModel" ({ cls := "VeilSearchModel", name := "flush", desc := "()I" } : Jvm.MethodName) ({ cls := "VeilSearchModel", name := "flush", desc := "()I" } : Jvm.MethodName)) ∈ gT := gT_in4 119 rfl rfl
theorem w_840 : (Jvm.Cond.code ({ cls := "VeilSearchModel", name := "flush", desc := "()I" } : Jvm.MethodName) prog_10_method_15_code (3 : Nat) (Option.some Jvm.ClassFile.FieldType.int)) ∈ gT := gT_in4 120 rfl rfl
theorem w_841 : (Jvm.Cond.methodLink "VeilSearchModel" (122 : Nat) ({ cls := "VeilSearchModel", name := "sizeOf", desc := "(I)I" } : Jvm.MethodName)) ∈ gT := gT_in4 121 rfl rfl
theorem w_843 : (Jvm.Cond.instanceMethod ({ cls := "VeilSearchModel", name := "sizeOf", desc := "(I)I" } : Jvm.MethodName)) ∈ gT := gT_in4 123 rfl rfl
theorem w_844 : (Jvm.Cond.code ({ cls := "VeilSearchModel", name := "sizeOf", desc := "(I)I" } : Jvm.MethodName) prog_10_method_14_code (4 : Nat) (Option.some Jvm.ClassFile.FieldType.int)) ∈ gT := gT_in4 124 rfl rfl
theorem w_845 : (Jvm.Cond.methodLink "VeilSearchLaw" (117 : Nat) ({ cls := "VeilSearchModel", name := "merge", desc := "()I" } : Jvm.MethodName)) ∈ gT := gT_in4 125 rfl rfl
theorem w_846 : (Jvm.Cond.instanceMethod ({ cls := "VeilSearchModel", name := "merge", desc := "()I" } : Jvm.MethodName)) ∈ gT := gT_in4 126 rfl rfl
theorem w_847 : (Jvm.Cond.selects "VeilSearchModel" ({ cls := "VeilSearchModel", name := "merge", desc := "()I" } : Jvm.MethodName) ({ cls := "VeilSearchModel", name := "merge", desc := "()I" } : Jvm.MethodName)) ∈ gT := gT_in4 127 rfl rfl
theorem w_848 : (Jvm.Cond.code ({ cls := "VeilSearchModel", name := "merge", desc := "()I" } : Jvm.MethodName) prog_10_method_16_code (4 : Nat) (Option.some Jvm.ClassFile.FieldType.int)) ∈ gT := gT_in4 128 rfl rfl
theorem w_849 : (Jvm.Cond.methodLink "VeilSearchLaw" (121 : Nat) ({ cls := "VeilSearchModel", name := "refresh", desc := "()I" } : Jvm.MethodName)) ∈ gT := gT_in4 129 rfl rfl
theorem w_850 : (Jvm.Cond.instanceMethod ({ cls := "VeilSearchModel", name := "refresh", desc := "()I" } : Jvm.MethodName)) ∈ gT := gT_in4 130 rfl rfl
theorem w_851 : (Jvm.Cond.selects "VeilSearchModel" ({ cls := "VeilSearchModel", name := "refresh", desc := "()I" } : Jvm.MethodName) ({ cls := "VeilSearchModel", name := "refresh", desc := "()I" } : Jvm.MethodName)) ∈ gT := gT_in4 131 rfl rfl
theorem w_852 : (Jvm.Cond.code ({ cls := "VeilSearchModel", name := "refresh", desc := "()I" } : Jvm.MethodName) prog_10_method_20_code (5 : Nat) (Option.some Jvm.ClassFile.FieldType.int)) ∈ gT := gT_in4 132 rfl rfl
theorem w_853 : (Jvm.Cond.methodLink "VeilSearchModel" (134 : Nat) ({ cls := "VeilSearchModel", name := "isOther", desc := "()Z" } : Jvm.MethodName)) ∈ gT := gT_in4 133 rfl rfl
theorem w_855 : (Jvm.Cond.instanceMethod ({ cls := "VeilSearchModel", name := "isOther", desc := "()Z" } : Jvm.MethodName)) ∈ gT := gT_in4 135 rfl rfl
theorem w_856 : (Jvm.Cond.code ({ cls := "VeilSearchModel", name := "isOther", desc := "()Z" } : Jvm.MethodName) prog_10_method_17_code (2 : Nat) (Option.some Jvm.ClassFile.FieldType.boolean)) ∈ gT := gT_in4 136 rfl rfl
theorem w_857 : (Jvm.Cond.methodLink "VeilSearchModel" (138 : Nat) ({ cls := "VeilSearchModel", name := "isShown", desc := "(I)Z" } : Jvm.MethodName)) ∈ gT := gT_in4 137 rfl rfl
theorem w_859 : (Jvm.Cond.instanceMethod ({ cls := "VeilSearchModel", name := "isShown", desc := "(I)Z" } : Jvm.MethodName)) ∈ gT := gT_in4 139 rfl rfl
theorem w_860 : (Jvm.Cond.code ({ cls := "VeilSearchModel", name := "isShown", desc := "(I)Z" } : Jvm.MethodName) prog_10_method_18_code (3 : Nat) (Option.some Jvm.ClassFile.FieldType.boolean)) ∈ gT := gT_in4 140 rfl rfl
theorem w_861 : (Jvm.Cond.methodLink "VeilSearchModel" (142 : Nat) ({ cls := "VeilSearchModel", name := "drop", desc := "(I)V" } : Jvm.MethodName)) ∈ gT := gT_in4 141 rfl rfl
theorem w_863 : (Jvm.Cond.instanceMethod ({ cls := "VeilSearchModel", name := "drop", desc := "(I)V" } : Jvm.MethodName)) ∈ gT := gT_in4 143 rfl rfl
theorem w_864 : (Jvm.Cond.code ({ cls := "VeilSearchModel", name := "drop", desc := "(I)V" } : Jvm.MethodName) prog_10_method_19_code (3 : Nat) (Option.none : Option Jvm.ClassFile.FieldType)) ∈ gT := gT_in4 144 rfl rfl
theorem w_865 : (Jvm.Cond.methodLink "VeilSearchLaw" (125 : Nat) ({ cls := "VeilSearchModel", name := "clause", desc := "(IIID)I" } : Jvm.MethodName)) ∈ gT := gT_in4 145 rfl rfl
theorem w_866 : (Jvm.Cond.instanceMethod ({ cls := "VeilSearchModel", name := "clause", desc := "(IIID)I" } : Jvm.MethodName)) ∈ gT := gT_in4 146 rfl rfl
theorem w_867 : (Jvm.Cond.selects "VeilSearchModel" ({ cls := "VeilSearchModel", name := "clause", desc := "(IIID)I" } : Jvm.MethodName) ({ cls := "VeilSearchModel", name := "clause", desc := "(IIID)I" } : Jvm.MethodName)) ∈ gT := gT_in4 147 rfl rfl
theorem w_868 : (Jvm.Cond.code ({ cls := "VeilSearchModel", name := "clause", desc := "(IIID)I" } : Jvm.MethodName) prog_10_method_21_code (6 : Nat) (Option.some Jvm.ClassFile.FieldType.int)) ∈ gT := gT_in4 148 rfl rfl
theorem w_869 : (Jvm.Cond.methodLink "VeilSearchLaw" (129 : Nat) ({ cls := "VeilSearchModel", name := "clear", desc := "()I" } : Jvm.MethodName)) ∈ gT := gT_in4 149 rfl rfl
theorem w_870 : (Jvm.Cond.instanceMethod ({ cls := "VeilSearchModel", name := "clear", desc := "()I" } : Jvm.MethodName)) ∈ gT := gT_in4 150 rfl rfl
theorem w_871 : (Jvm.Cond.selects "VeilSearchModel" ({ cls := "VeilSearchModel", name := "clear", desc := "()I" } : Jvm.MethodName) ({ cls := "VeilSearchModel", name := "clear", desc := "()I" } : Jvm.MethodName)) ∈ gT := gT_in4 151 rfl rfl
theorem w_872 : (Jvm.Cond.code ({ cls := "VeilSearchModel", name := "clear", desc := "()I" } : Jvm.MethodName) prog_10_method_22_code (2 : Nat) (Option.some Jvm.ClassFile.FieldType.int)) ∈ gT := gT_in4 152 rfl rfl
theorem w_873 : (Jvm.Cond.methodLink "VeilSearchLaw" (132 : Nat) ({ cls := "VeilSearchModel", name := "search", desc := "(II)I" } : Jvm.MethodName)) ∈ gT := gT_in4 153 rfl rfl
theorem w_874 : (Jvm.Cond.instanceMethod ({ cls := "VeilSearchModel", name := "search", desc := "(II)I" } : Jvm.MethodName)) ∈ gT := gT_in4 154 rfl rfl
theorem w_875 : (Jvm.Cond.selects "VeilSearchModel" ({ cls := "VeilSearchModel", name := "search", desc := "(II)I" } : Jvm.MethodName) ({ cls := "VeilSearchModel", name := "search", desc := "(II)I" } : Jvm.MethodName)) ∈ gT := gT_in4 155 rfl rfl
theorem w_876 : (Jvm.Cond.code ({ cls := "VeilSearchModel", name := "search", desc := "(II)I" } : Jvm.MethodName) prog_10_method_33_code (9 : Nat) (Option.some Jvm.ClassFile.FieldType.int)) ∈ gT := gT_in4 156 rfl rfl
theorem w_877 : (Jvm.Cond.methodLink "VeilSearchModel" (189 : Nat) ({ cls := "VeilSearchModel", name := "arrange", desc := "()V" } : Jvm.MethodName)) ∈ gT := gT_in4 157 rfl rfl
theorem w_879 : (Jvm.Cond.instanceMethod ({ cls := "VeilSearchModel", name := "arrange", desc := "()V" } : Jvm.MethodName)) ∈ gT := gT_in4 159 rfl rfl
theorem w_880 : (Jvm.Cond.code ({ cls := "VeilSearchModel", name := "arrange", desc := "()V" } : Jvm.MethodName) prog_10_method_25_code (3 : Nat) (Option.none : Option Jvm.ClassFile.FieldType)) ∈ gT := gT_in4 160 rfl rfl
theorem w_881 : (Jvm.Cond.methodLink "VeilSearchModel" (192 : Nat) ({ cls := "VeilSearchModel", name := "useFilter", desc := "(II)V" } : Jvm.MethodName)) ∈ gT := gT_in4 161 rfl rfl
theorem w_883 : (Jvm.Cond.instanceMethod ({ cls := "VeilSearchModel", name := "useFilter", desc := "(II)V" } : Jvm.MethodName)) ∈ gT := gT_in4 163 rfl rfl
theorem w_884 : (Jvm.Cond.code ({ cls := "VeilSearchModel", name := "useFilter", desc := "(II)V" } : Jvm.MethodName) prog_10_method_29_code (5 : Nat) (Option.none : Option Jvm.ClassFile.FieldType)) ∈ gT := gT_in4 164 rfl rfl
theorem w_885 : (Jvm.Cond.methodLink "VeilSearchModel" (196 : Nat) ({ cls := "VeilSearchModel", name := "isLeft", desc := "(II)Z" } : Jvm.MethodName)) ∈ gT := gT_in4 165 rfl rfl
theorem w_887 : (Jvm.Cond.instanceMethod ({ cls := "VeilSearchModel", name := "isLeft", desc := "(II)Z" } : Jvm.MethodName)) ∈ gT := gT_in4 167 rfl rfl
theorem w_888 : (Jvm.Cond.code ({ cls := "VeilSearchModel", name := "isLeft", desc := "(II)Z" } : Jvm.MethodName) prog_10_method_32_code (4 : Nat) (Option.some Jvm.ClassFile.FieldType.boolean)) ∈ gT := gT_in4 168 rfl rfl
theorem w_889 : (Jvm.Cond.methodLink "VeilSearchModel" (199 : Nat) ({ cls := "VeilSearchModel", name := "behindBlock", desc := "(II)I" } : Jvm.MethodName)) ∈ gT := gT_in4 169 rfl rfl
theorem w_891 : (Jvm.Cond.instanceMethod ({ cls := "VeilSearchModel", name := "behindBlock", desc := "(II)I" } : Jvm.MethodName)) ∈ gT := gT_in4 171 rfl rfl
theorem w_892 : (Jvm.Cond.code ({ cls := "VeilSearchModel", name := "behindBlock", desc := "(II)I" } : Jvm.MethodName) prog_10_method_30_code (5 : Nat) (Option.some Jvm.ClassFile.FieldType.int)) ∈ gT := gT_in4 172 rfl rfl
theorem w_893 : (Jvm.Cond.methodLink "VeilSearchModel" (181 : Nat) ({ cls := "VeilSearchModel", name := "scoreOf", desc := "(IIII)F" } : Jvm.MethodName)) ∈ gT := gT_in4 173 rfl rfl
theorem w_895 : (Jvm.Cond.instanceMethod ({ cls := "VeilSearchModel", name := "scoreOf", desc := "(IIII)F" } : Jvm.MethodName)) ∈ gT := gT_in4 175 rfl rfl
theorem w_896 : (Jvm.Cond.code ({ cls := "VeilSearchModel", name := "scoreOf", desc := "(IIII)F" } : Jvm.MethodName) prog_10_method_27_code (12 : Nat) (Option.some Jvm.ClassFile.FieldType.float)) ∈ gT := gT_in4 176 rfl rfl
theorem w_897 : (Jvm.Cond.methodLink "VeilSearchModel" (153 : Nat) ({ cls := "VeilSearchModel", name := "isOpen", desc := "(II)Z" } : Jvm.MethodName)) ∈ gT := gT_in4 177 rfl rfl
theorem w_899 : (Jvm.Cond.instanceMethod ({ cls := "VeilSearchModel", name := "isOpen", desc := "(II)Z" } : Jvm.MethodName)) ∈ gT := gT_in4 179 rfl rfl
theorem w_900 : (Jvm.Cond.code ({ cls := "VeilSearchModel", name := "isOpen", desc := "(II)Z" } : Jvm.MethodName) prog_10_method_23_code (3 : Nat) (Option.some Jvm.ClassFile.FieldType.boolean)) ∈ gT := gT_in4 180 rfl rfl
theorem w_901 : (Jvm.Cond.methodLink "VeilSearchModel" (203 : Nat) ({ cls := "VeilSearchModel", name := "lookAt", desc := "(IIIII)V" } : Jvm.MethodName)) ∈ gT := gT_in4 181 rfl rfl
theorem w_903 : (Jvm.Cond.instanceMethod ({ cls := "VeilSearchModel", name := "lookAt", desc := "(IIIII)V" } : Jvm.MethodName)) ∈ gT := gT_in4 183 rfl rfl
theorem w_904 : (Jvm.Cond.code ({ cls := "VeilSearchModel", name := "lookAt", desc := "(IIIII)V" } : Jvm.MethodName) prog_10_method_31_code (8 : Nat) (Option.none : Option Jvm.ClassFile.FieldType)) ∈ gT := gT_in4 184 rfl rfl
theorem w_905 : (Jvm.Cond.methodLink "VeilSearchModel" (172 : Nat) ({ cls := "VeilSearchModel", name := "isFound", desc := "(II)Z" } : Jvm.MethodName)) ∈ gT := gT_in4 185 rfl rfl
theorem w_907 : (Jvm.Cond.instanceMethod ({ cls := "VeilSearchModel", name := "isFound", desc := "(II)Z" } : Jvm.MethodName)) ∈ gT := gT_in4 187 rfl rfl
theorem w_908 : (Jvm.Cond.code ({ cls := "VeilSearchModel", name := "isFound", desc := "(II)Z" } : Jvm.MethodName) prog_10_method_26_code (7 : Nat) (Option.some Jvm.ClassFile.FieldType.boolean)) ∈ gT := gT_in4 188 rfl rfl
theorem w_909 : (Jvm.Cond.methodLink "VeilSearchModel" (175 : Nat) ({ cls := "VeilSearchModel", name := "mayRead", desc := "(II)Z" } : Jvm.MethodName)) ∈ gT := gT_in4 189 rfl rfl
theorem w_911 : (Jvm.Cond.instanceMethod ({ cls := "VeilSearchModel", name := "mayRead", desc := "(II)Z" } : Jvm.MethodName)) ∈ gT := gT_in4 191 rfl rfl
theorem w_912 : (Jvm.Cond.code ({ cls := "VeilSearchModel", name := "mayRead", desc := "(II)Z" } : Jvm.MethodName) prog_10_method_24_code (7 : Nat) (Option.some Jvm.ClassFile.FieldType.boolean)) ∈ gT := gT_in4 192 rfl rfl
theorem w_913 : (Jvm.Cond.methodLink "VeilSearchModel" (149 : Nat) ({ cls := "VeilSearchModel", name := "tokens", desc := "(IZ)I" } : Jvm.MethodName)) ∈ gT := gT_in4 193 rfl rfl
theorem w_915 : (Jvm.Cond.instanceMethod ({ cls := "VeilSearchModel", name := "tokens", desc := "(IZ)I" } : Jvm.MethodName)) ∈ gT := gT_in4 195 rfl rfl
theorem w_916 : (Jvm.Cond.code ({ cls := "VeilSearchModel", name := "tokens", desc := "(IZ)I" } : Jvm.MethodName) prog_10_method_7_code (6 : Nat) (Option.some Jvm.ClassFile.FieldType.int)) ∈ gT := gT_in4 196 rfl rfl
theorem w_917 : (Jvm.Cond.methodLink "VeilSearchModel" (185 : Nat) ({ cls := "VeilSearchModel", name := "enter", desc := "(IFI)V" } : Jvm.MethodName)) ∈ gT := gT_in4 197 rfl rfl
theorem w_919 : (Jvm.Cond.instanceMethod ({ cls := "VeilSearchModel", name := "enter", desc := "(IFI)V" } : Jvm.MethodName)) ∈ gT := gT_in4 199 rfl rfl
theorem w_920 : (Jvm.Cond.code ({ cls := "VeilSearchModel", name := "enter", desc := "(IFI)V" } : Jvm.MethodName) prog_10_method_28_code (5 : Nat) (Option.none : Option Jvm.ClassFile.FieldType)) ∈ gT := gT_in4 200 rfl rfl
theorem w_921 : (Jvm.Cond.methodLink "VeilSearchLaw" (135 : Nat) ({ cls := "VeilSearchModel", name := "hit", desc := "(I)I" } : Jvm.MethodName)) ∈ gT := gT_in4 201 rfl rfl
theorem w_922 : (Jvm.Cond.instanceMethod ({ cls := "VeilSearchModel", name := "hit", desc := "(I)I" } : Jvm.MethodName)) ∈ gT := gT_in4 202 rfl rfl
theorem w_923 : (Jvm.Cond.selects "VeilSearchModel" ({ cls := "VeilSearchModel", name := "hit", desc := "(I)I" } : Jvm.MethodName) ({ cls := "VeilSearchModel", name := "hit", desc := "(I)I" } : Jvm.MethodName)) ∈ gT := gT_in4 203 rfl rfl
theorem w_924 : (Jvm.Cond.code ({ cls := "VeilSearchModel", name := "hit", desc := "(I)I" } : Jvm.MethodName) prog_10_method_34_code (2 : Nat) (Option.some Jvm.ClassFile.FieldType.int)) ∈ gT := gT_in4 204 rfl rfl
theorem w_925 : (Jvm.Cond.methodLink "VeilSearchLaw" (139 : Nat) ({ cls := "VeilSearchModel", name := "score", desc := "(I)D" } : Jvm.MethodName)) ∈ gT := gT_in4 205 rfl rfl
theorem w_926 : (Jvm.Cond.instanceMethod ({ cls := "VeilSearchModel", name := "score", desc := "(I)D" } : Jvm.MethodName)) ∈ gT := gT_in4 206 rfl rfl
theorem w_927 : (Jvm.Cond.selects "VeilSearchModel" ({ cls := "VeilSearchModel", name := "score", desc := "(I)D" } : Jvm.MethodName) ({ cls := "VeilSearchModel", name := "score", desc := "(I)D" } : Jvm.MethodName)) ∈ gT := gT_in4 207 rfl rfl
theorem w_928 : (Jvm.Cond.code ({ cls := "VeilSearchModel", name := "score", desc := "(I)D" } : Jvm.MethodName) prog_10_method_35_code (2 : Nat) (Option.some Jvm.ClassFile.FieldType.double)) ∈ gT := gT_in4 208 rfl rfl
theorem w_929 : (Jvm.Cond.methodLink "VeilSearchLaw" (142 : Nat) ({ cls := "VeilSearchModel", name := "value", desc := "(III)I" } : Jvm.MethodName)) ∈ gT := gT_in4 209 rfl rfl
theorem w_930 : (Jvm.Cond.instanceMethod ({ cls := "VeilSearchModel", name := "value", desc := "(III)I" } : Jvm.MethodName)) ∈ gT := gT_in4 210 rfl rfl
theorem w_931 : (Jvm.Cond.selects "VeilSearchModel" ({ cls := "VeilSearchModel", name := "value", desc := "(III)I" } : Jvm.MethodName) ({ cls := "VeilSearchModel", name := "value", desc := "(III)I" } : Jvm.MethodName)) ∈ gT := gT_in4 211 rfl rfl
theorem w_932 : (Jvm.Cond.code ({ cls := "VeilSearchModel", name := "value", desc := "(III)I" } : Jvm.MethodName) prog_10_method_36_code (6 : Nat) (Option.some Jvm.ClassFile.FieldType.int)) ∈ gT := gT_in4 212 rfl rfl
theorem w_933 : (Jvm.Cond.methodLink "VeilSearchLaw" (145 : Nat) ({ cls := "VeilSearchModel", name := "count", desc := "(I)I" } : Jvm.MethodName)) ∈ gT := gT_in4 213 rfl rfl
theorem w_934 : (Jvm.Cond.instanceMethod ({ cls := "VeilSearchModel", name := "count", desc := "(I)I" } : Jvm.MethodName)) ∈ gT := gT_in4 214 rfl rfl
theorem w_935 : (Jvm.Cond.selects "VeilSearchModel" ({ cls := "VeilSearchModel", name := "count", desc := "(I)I" } : Jvm.MethodName) ({ cls := "VeilSearchModel", name := "count", desc := "(I)I" } : Jvm.MethodName)) ∈ gT := gT_in4 215 rfl rfl
theorem w_936 : (Jvm.Cond.code ({ cls := "VeilSearchModel", name := "count", desc := "(I)I" } : Jvm.MethodName) prog_10_method_37_code (2 : Nat) (Option.some Jvm.ClassFile.FieldType.int)) ∈ gT := gT_in4 216 rfl rfl
theorem w_937 : (Jvm.Cond.constantDouble "VeilSearchLaw" (88 : Nat) (4593671619917905920 : UInt64)) ∈ gT := gT_in4 217 rfl rfl
theorem w_938 : (Jvm.Cond.sameMethod "java/lang/Throwable" "java/lang/Throwable" "fillInStackTrace" "(I)Ljava/lang/Throwable;") ∈ gT := gT_in4 218 rfl rfl
theorem ws_0 : Cond.selects "VeilSearch" ⟨"VeilSearch", "appendSegment", "(J)V"⟩ ⟨"VeilSearch", "appendSegment", "(J)V"⟩ ∈ gT := gS_in 0 (q := (⟨"VeilSearch", "appendSegment", "(J)V"⟩, 10)) rfl
theorem ws_1 : Cond.selects "VeilSearch$Filters" ⟨"VeilSearch$Filters", "drop", "(I)V"⟩ ⟨"VeilSearch$Filters", "drop", "(I)V"⟩ ∈ gT := gS_in 1 (q := (⟨"VeilSearch$Filters", "drop", "(I)V"⟩, 6)) rfl
theorem ws_2 : Cond.selects "java/lang/Throwable" ⟨"java/lang/Throwable", "fillInStackTrace", "(I)Ljava/lang/Throwable;"⟩ ⟨"java/lang/Throwable", "fillInStackTrace", "(I)Ljava/lang/Throwable;"⟩ ∈ gT := gS_in 2 (q := (⟨"java/lang/Throwable", "fillInStackTrace", "(I)Ljava/lang/Throwable;"⟩, 6)) rfl
theorem ws_3 : Cond.selects "VeilSearch$Query" ⟨"VeilSearch$Query", "comesLater", "(III)Z"⟩ ⟨"VeilSearch$Query", "comesLater", "(III)Z"⟩ ∈ gT := gS_in 3 (q := (⟨"VeilSearch$Query", "comesLater", "(III)Z"⟩, 7)) rfl
theorem ws_4 : Cond.selects "VeilSearch$Query" ⟨"VeilSearch$Query", "move", "(II)V"⟩ ⟨"VeilSearch$Query", "move", "(II)V"⟩ ∈ gT := gS_in 4 (q := (⟨"VeilSearch$Query", "move", "(II)V"⟩, 7)) rfl
theorem ws_5 : Cond.selects "VeilSearch" ⟨"VeilSearch", "filterOf", "(IJI)J"⟩ ⟨"VeilSearch", "filterOf", "(IJI)J"⟩ ∈ gT := gS_in 5 (q := (⟨"VeilSearch", "filterOf", "(IJI)J"⟩, 10)) rfl
theorem ws_6 : Cond.selects "VeilSearch$Filters" ⟨"VeilSearch$Filters", "append", "(IIJ)V"⟩ ⟨"VeilSearch$Filters", "append", "(IIJ)V"⟩ ∈ gT := gS_in 6 (q := (⟨"VeilSearch$Filters", "append", "(IIJ)V"⟩, 6)) rfl
theorem ws_7 : Cond.selects "VeilSearch" ⟨"VeilSearch", "passThrough", "(JJ)V"⟩ ⟨"VeilSearch", "passThrough", "(JJ)V"⟩ ∈ gT := gS_in 7 (q := (⟨"VeilSearch", "passThrough", "(JJ)V"⟩, 10)) rfl
theorem ws_8 : Cond.selects "VeilSearch" ⟨"VeilSearch", "lookAt", "(J)V"⟩ ⟨"VeilSearch", "lookAt", "(J)V"⟩ ∈ gT := gS_in 8 (q := (⟨"VeilSearch", "lookAt", "(J)V"⟩, 10)) rfl
theorem ws_9 : Cond.selects "VeilSearchModel" ⟨"VeilSearchModel", "fail", "(I)I"⟩ ⟨"VeilSearchModel", "fail", "(I)I"⟩ ∈ gT := gS_in 9 (q := (⟨"VeilSearchModel", "fail", "(I)I"⟩, 40)) rfl
theorem ws_10 : Cond.selects "VeilSearchModel" ⟨"VeilSearchModel", "sizeOf", "(I)I"⟩ ⟨"VeilSearchModel", "sizeOf", "(I)I"⟩ ∈ gT := gS_in 10 (q := (⟨"VeilSearchModel", "sizeOf", "(I)I"⟩, 40)) rfl
theorem ws_11 : Cond.selects "VeilSearchModel" ⟨"VeilSearchModel", "isOther", "()Z"⟩ ⟨"VeilSearchModel", "isOther", "()Z"⟩ ∈ gT := gS_in 11 (q := (⟨"VeilSearchModel", "isOther", "()Z"⟩, 40)) rfl
theorem ws_12 : Cond.selects "VeilSearchModel" ⟨"VeilSearchModel", "isShown", "(I)Z"⟩ ⟨"VeilSearchModel", "isShown", "(I)Z"⟩ ∈ gT := gS_in 12 (q := (⟨"VeilSearchModel", "isShown", "(I)Z"⟩, 40)) rfl
theorem ws_13 : Cond.selects "VeilSearchModel" ⟨"VeilSearchModel", "drop", "(I)V"⟩ ⟨"VeilSearchModel", "drop", "(I)V"⟩ ∈ gT := gS_in 13 (q := (⟨"VeilSearchModel", "drop", "(I)V"⟩, 40)) rfl
theorem ws_14 : Cond.selects "VeilSearchModel" ⟨"VeilSearchModel", "arrange", "()V"⟩ ⟨"VeilSearchModel", "arrange", "()V"⟩ ∈ gT := gS_in 14 (q := (⟨"VeilSearchModel", "arrange", "()V"⟩, 40)) rfl
theorem ws_15 : Cond.selects "VeilSearchModel" ⟨"VeilSearchModel", "useFilter", "(II)V"⟩ ⟨"VeilSearchModel", "useFilter", "(II)V"⟩ ∈ gT := gS_in 15 (q := (⟨"VeilSearchModel", "useFilter", "(II)V"⟩, 40)) rfl
theorem ws_16 : Cond.selects "VeilSearchModel" ⟨"VeilSearchModel", "isLeft", "(II)Z"⟩ ⟨"VeilSearchModel", "isLeft", "(II)Z"⟩ ∈ gT := gS_in 16 (q := (⟨"VeilSearchModel", "isLeft", "(II)Z"⟩, 40)) rfl
theorem ws_17 : Cond.selects "VeilSearchModel" ⟨"VeilSearchModel", "behindBlock", "(II)I"⟩ ⟨"VeilSearchModel", "behindBlock", "(II)I"⟩ ∈ gT := gS_in 17 (q := (⟨"VeilSearchModel", "behindBlock", "(II)I"⟩, 40)) rfl
theorem ws_18 : Cond.selects "VeilSearchModel" ⟨"VeilSearchModel", "scoreOf", "(IIII)F"⟩ ⟨"VeilSearchModel", "scoreOf", "(IIII)F"⟩ ∈ gT := gS_in 18 (q := (⟨"VeilSearchModel", "scoreOf", "(IIII)F"⟩, 40)) rfl
theorem ws_19 : Cond.selects "VeilSearchModel" ⟨"VeilSearchModel", "isOpen", "(II)Z"⟩ ⟨"VeilSearchModel", "isOpen", "(II)Z"⟩ ∈ gT := gS_in 19 (q := (⟨"VeilSearchModel", "isOpen", "(II)Z"⟩, 40)) rfl
theorem ws_20 : Cond.selects "VeilSearchModel" ⟨"VeilSearchModel", "lookAt", "(IIIII)V"⟩ ⟨"VeilSearchModel", "lookAt", "(IIIII)V"⟩ ∈ gT := gS_in 20 (q := (⟨"VeilSearchModel", "lookAt", "(IIIII)V"⟩, 40)) rfl
theorem ws_21 : Cond.selects "VeilSearchModel" ⟨"VeilSearchModel", "isFound", "(II)Z"⟩ ⟨"VeilSearchModel", "isFound", "(II)Z"⟩ ∈ gT := gS_in 21 (q := (⟨"VeilSearchModel", "isFound", "(II)Z"⟩, 40)) rfl
theorem ws_22 : Cond.selects "VeilSearchModel" ⟨"VeilSearchModel", "mayRead", "(II)Z"⟩ ⟨"VeilSearchModel", "mayRead", "(II)Z"⟩ ∈ gT := gS_in 22 (q := (⟨"VeilSearchModel", "mayRead", "(II)Z"⟩, 40)) rfl
theorem ws_23 : Cond.selects "VeilSearchModel" ⟨"VeilSearchModel", "tokens", "(IZ)I"⟩ ⟨"VeilSearchModel", "tokens", "(IZ)I"⟩ ∈ gT := gS_in 23 (q := (⟨"VeilSearchModel", "tokens", "(IZ)I"⟩, 40)) rfl
theorem ws_24 : Cond.selects "VeilSearchModel" ⟨"VeilSearchModel", "enter", "(IFI)V"⟩ ⟨"VeilSearchModel", "enter", "(IFI)V"⟩ ∈ gT := gS_in 24 (q := (⟨"VeilSearchModel", "enter", "(IFI)V"⟩, 40)) rfl
