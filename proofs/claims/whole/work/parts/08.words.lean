/-! WORDS: one list for all methods -/
def x_Wd : List Cond := lw_tbl.filter goodWord
theorem x_in {w : Cond} (h : w ∈ tables_1) (g : goodWord w = true) : w ∈ x_Wd := List.mem_filter.mpr ⟨List.mem_append_right _ h, g⟩
theorem x_in1 {w : Cond} {i : Nat} (h : tables_1_1[i]? = some w) (g : goodWord w = true) : w ∈ x_Wd := x_in (List.mem_append_left _ (List.mem_of_getElem? h)) g
theorem x_in2 {w : Cond} {i : Nat} (h : tables_1_2[i]? = some w) (g : goodWord w = true) : w ∈ x_Wd := x_in (List.mem_append_right _ (List.mem_append_left _ (List.mem_of_getElem? h))) g
theorem x_in3 {w : Cond} {i : Nat} (h : tables_1_3[i]? = some w) (g : goodWord w = true) : w ∈ x_Wd := x_in (List.mem_append_right _ (List.mem_append_right _ (List.mem_append_left _ (List.mem_of_getElem? h)))) g
theorem x_in4 {w : Cond} {i : Nat} (h : tables_1_4[i]? = some w) (g : goodWord w = true) : w ∈ x_Wd := x_in (List.mem_append_right _ (List.mem_append_right _ (List.mem_append_right _ (List.mem_append_left _ (List.mem_of_getElem? h))))) g
theorem x_in5 {w : Cond} {i : Nat} (h : tables_1_5[i]? = some w) (g : goodWord w = true) : w ∈ x_Wd := x_in (List.mem_append_right _ (List.mem_append_right _ (List.mem_append_right _ (List.mem_append_right _ ((List.mem_of_getElem? h)))))) g
theorem x_inS {q : MethodName × Nat} {i : Nat} (h : lw_privs[i]? = some q) (g : goodWord (Cond.selects q.1.cls q.1 q.1) = true) : Cond.selects q.1.cls q.1 q.1 ∈ x_Wd := List.mem_filter.mpr ⟨List.mem_append_left _ (List.mem_map.mpr ⟨q, List.mem_of_getElem? h, rfl⟩), g⟩
theorem q_0 : (Cond.initialized "CheckedMachineLaw") ∈ x_Wd := x_in1 (i := 0) rfl rfl
theorem q_1 : (Cond.initialized "CheckedMachine") ∈ x_Wd := x_in1 (i := 1) rfl rfl
theorem q_2 : (Cond.initialized "CheckedMachine$Program") ∈ x_Wd := x_in1 (i := 2) rfl rfl
theorem q_3 : (Cond.initialized "CheckedMachine$Step") ∈ x_Wd := x_in1 (i := 3) rfl rfl
theorem q_4 : (Cond.initialized "CheckedMachine$Checker") ∈ x_Wd := x_in1 (i := 4) rfl rfl
theorem q_5 : (Cond.initialized "CheckedMachine$Guesses") ∈ x_Wd := x_in1 (i := 5) rfl rfl
theorem q_6 : (Cond.initialized "CheckedMachine$Judge") ∈ x_Wd := x_in1 (i := 6) rfl rfl
theorem q_7 : (Cond.initialized "CheckedMachine$Effects") ∈ x_Wd := x_in1 (i := 7) rfl rfl
theorem q_8 : (Cond.initialized "CheckedMachine$Runner") ∈ x_Wd := x_in1 (i := 8) rfl rfl
theorem q_9 : (Cond.initialized "CheckedMachineModel") ∈ x_Wd := x_in1 (i := 9) rfl rfl
theorem q_10 : (Cond.initialized "java/lang/Throwable") ∈ x_Wd := x_in1 (i := 10) rfl rfl
theorem q_11 : (Cond.initialized "java/lang/Exception") ∈ x_Wd := x_in1 (i := 11) rfl rfl
theorem q_12 : (Cond.initialized "java/lang/RuntimeException") ∈ x_Wd := x_in1 (i := 12) rfl rfl
theorem q_13 : (Cond.initialized "java/lang/IllegalArgumentException") ∈ x_Wd := x_in1 (i := 13) rfl rfl
theorem q_14 : (Cond.initialized "java/lang/IllegalStateException") ∈ x_Wd := x_in1 (i := 14) rfl rfl
theorem q_15 : (Cond.initialized "java/util/NoSuchElementException") ∈ x_Wd := x_in1 (i := 15) rfl rfl
theorem q_16 : (Cond.initialized "java/lang/Math") ∈ x_Wd := x_in1 (i := 16) rfl rfl
theorem q_17 : (Cond.initialized "java/lang/System") ∈ x_Wd := x_in1 (i := 17) rfl rfl
theorem q_18 : (Cond.initialized "CheckedMachine$Fork") ∈ x_Wd := x_in1 (i := 18) rfl rfl
theorem q_19 : (Cond.initialized "java/lang/UnsupportedOperationException") ∈ x_Wd := x_in1 (i := 19) rfl rfl
theorem q_20 : (Cond.classLink "CheckedMachineLaw" (8 : Nat) "CheckedMachine") ∈ x_Wd := x_in1 (i := 20) rfl rfl
theorem q_21 : (Cond.instantiable "CheckedMachine" (4 : Nat)) ∈ x_Wd := x_in1 (i := 21) rfl rfl
theorem q_22 : (Cond.methodLink "CheckedMachineLaw" (49 : Nat) ({ cls := "CheckedMachine", name := "<init>", desc := "()V" } : Jvm.MethodName)) ∈ x_Wd := x_in1 (i := 22) rfl rfl
theorem q_23 : (Cond.instanceMethod ({ cls := "CheckedMachine", name := "<init>", desc := "()V" } : Jvm.MethodName)) ∈ x_Wd := x_in1 (i := 23) rfl rfl
theorem q_24 : (Cond.code ({ cls := "CheckedMachine", name := "<init>", desc := "()V" } : Jvm.MethodName) prog_1_method_1_code (1 : Nat) (Option.none : Option Jvm.ClassFile.FieldType)) ∈ x_Wd := x_in1 (i := 24) rfl rfl
theorem q_25 : (Cond.methodLink "CheckedMachine" (3 : Nat) ({ cls := "java/lang/Object", name := "<init>", desc := "()V" } : Jvm.MethodName)) ∈ x_Wd := x_in1 (i := 25) rfl rfl
theorem q_26 : (Cond.instanceMethod ({ cls := "java/lang/Object", name := "<init>", desc := "()V" } : Jvm.MethodName)) ∈ x_Wd := x_in1 (i := 26) rfl rfl
theorem q_27 : (Cond.code ({ cls := "java/lang/Object", name := "<init>", desc := "()V" } : Jvm.MethodName) object_method_1_code (1 : Nat) (Option.none : Option Jvm.ClassFile.FieldType)) ∈ x_Wd := x_in1 (i := 27) rfl rfl
theorem q_28 : (Cond.classLink "CheckedMachine" (9 : Nat) "CheckedMachine$Program") ∈ x_Wd := x_in1 (i := 28) rfl rfl
theorem q_29 : (Cond.instantiable "CheckedMachine$Program" (2 : Nat)) ∈ x_Wd := x_in1 (i := 29) rfl rfl
theorem q_30 : (Cond.methodLink "CheckedMachine" (11 : Nat) ({ cls := "CheckedMachine$Program", name := "<init>", desc := "()V" } : Jvm.MethodName)) ∈ x_Wd := x_in1 (i := 30) rfl rfl
theorem q_31 : (Cond.instanceMethod ({ cls := "CheckedMachine$Program", name := "<init>", desc := "()V" } : Jvm.MethodName)) ∈ x_Wd := x_in1 (i := 31) rfl rfl
theorem q_32 : (Cond.code ({ cls := "CheckedMachine$Program", name := "<init>", desc := "()V" } : Jvm.MethodName) prog_7_method_1_code (2 : Nat) (Option.none : Option Jvm.ClassFile.FieldType)) ∈ x_Wd := x_in1 (i := 32) rfl rfl
theorem q_33 : (Cond.methodLink "CheckedMachine$Program" (3 : Nat) ({ cls := "java/lang/Object", name := "<init>", desc := "()V" } : Jvm.MethodName)) ∈ x_Wd := x_in1 (i := 33) rfl rfl
theorem q_34 : (Cond.classLink "CheckedMachine$Program" (9 : Nat) "CheckedMachine$Step") ∈ x_Wd := x_in1 (i := 34) rfl rfl
theorem q_36 : (Cond.instantiable "CheckedMachine$Step" (5 : Nat)) ∈ x_Wd := x_in1 (i := 36) rfl rfl
theorem q_38 : (Cond.instanceMethod ({ cls := "CheckedMachine$Step", name := "<init>", desc := "()V" } : Jvm.MethodName)) ∈ x_Wd := x_in1 (i := 38) rfl rfl
theorem q_39 : (Cond.code ({ cls := "CheckedMachine$Step", name := "<init>", desc := "()V" } : Jvm.MethodName) prog_9_method_1_code (1 : Nat) (Option.none : Option Jvm.ClassFile.FieldType)) ∈ x_Wd := x_in1 (i := 39) rfl rfl
theorem q_40 : (Cond.methodLink "CheckedMachine$Step" (3 : Nat) ({ cls := "java/lang/Object", name := "<init>", desc := "()V" } : Jvm.MethodName)) ∈ x_Wd := x_in1 (i := 40) rfl rfl
theorem q_41 : (Cond.fieldLink "CheckedMachine$Step" (9 : Nat) "CheckedMachine$Step" "op" "I") ∈ x_Wd := x_in1 (i := 41) rfl rfl
theorem q_42 : (Cond.fieldLink "CheckedMachine$Fork" (9 : Nat) "CheckedMachine$Step" "op" "I") ∈ x_Wd := x_in1 (i := 42) rfl rfl
theorem q_43 : (Cond.fieldLink "CheckedMachine$Effects" (21 : Nat) "CheckedMachine$Step" "op" "I") ∈ x_Wd := x_in1 (i := 43) rfl rfl
theorem q_44 : (Cond.fieldLink "CheckedMachine$Judge" (61 : Nat) "CheckedMachine$Step" "op" "I") ∈ x_Wd := x_in1 (i := 44) rfl rfl
theorem q_45 : (Cond.fieldLink "CheckedMachine$Program" (30 : Nat) "CheckedMachine$Step" "op" "I") ∈ x_Wd := x_in1 (i := 45) rfl rfl
theorem q_46 : (Cond.fieldLink "CheckedMachine$Runner" (53 : Nat) "CheckedMachine$Step" "op" "I") ∈ x_Wd := x_in1 (i := 46) rfl rfl
theorem q_47 : (Cond.fieldLink "CheckedMachine$Checker" (94 : Nat) "CheckedMachine$Step" "op" "I") ∈ x_Wd := x_in1 (i := 47) rfl rfl
theorem q_48 : (Cond.fieldLink "CheckedMachine$Effects" (15 : Nat) "CheckedMachine$Step" "d" "I") ∈ x_Wd := x_in1 (i := 48) rfl rfl
theorem q_49 : (Cond.fieldLink "CheckedMachine$Fork" (21 : Nat) "CheckedMachine$Step" "d" "I") ∈ x_Wd := x_in1 (i := 49) rfl rfl
theorem q_50 : (Cond.fieldLink "CheckedMachine$Judge" (76 : Nat) "CheckedMachine$Step" "d" "I") ∈ x_Wd := x_in1 (i := 50) rfl rfl
theorem q_51 : (Cond.fieldLink "CheckedMachine$Program" (33 : Nat) "CheckedMachine$Step" "d" "I") ∈ x_Wd := x_in1 (i := 51) rfl rfl
theorem q_52 : (Cond.fieldLink "CheckedMachine$Runner" (76 : Nat) "CheckedMachine$Step" "d" "I") ∈ x_Wd := x_in1 (i := 52) rfl rfl
theorem q_53 : (Cond.fieldLink "CheckedMachine$Fork" (36 : Nat) "CheckedMachine$Step" "s" "I") ∈ x_Wd := x_in1 (i := 53) rfl rfl
theorem q_54 : (Cond.fieldLink "CheckedMachine$Effects" (33 : Nat) "CheckedMachine$Step" "s" "I") ∈ x_Wd := x_in1 (i := 54) rfl rfl
theorem q_55 : (Cond.fieldLink "CheckedMachine$Judge" (82 : Nat) "CheckedMachine$Step" "s" "I") ∈ x_Wd := x_in1 (i := 55) rfl rfl
theorem q_56 : (Cond.fieldLink "CheckedMachine$Program" (36 : Nat) "CheckedMachine$Step" "s" "I") ∈ x_Wd := x_in1 (i := 56) rfl rfl
theorem q_57 : (Cond.fieldLink "CheckedMachine$Runner" (82 : Nat) "CheckedMachine$Step" "s" "I") ∈ x_Wd := x_in1 (i := 57) rfl rfl
theorem q_58 : (Cond.fieldLink "CheckedMachine$Step" (15 : Nat) "CheckedMachine$Step" "number" "I") ∈ x_Wd := x_in1 (i := 58) rfl rfl
theorem q_59 : (Cond.fieldLink "CheckedMachine$Fork" (30 : Nat) "CheckedMachine$Step" "number" "I") ∈ x_Wd := x_in1 (i := 59) rfl rfl
theorem q_60 : (Cond.fieldLink "CheckedMachine$Effects" (24 : Nat) "CheckedMachine$Step" "number" "I") ∈ x_Wd := x_in1 (i := 60) rfl rfl
theorem q_61 : (Cond.fieldLink "CheckedMachine$Judge" (64 : Nat) "CheckedMachine$Step" "number" "I") ∈ x_Wd := x_in1 (i := 61) rfl rfl
theorem q_62 : (Cond.fieldLink "CheckedMachine$Program" (39 : Nat) "CheckedMachine$Step" "number" "I") ∈ x_Wd := x_in1 (i := 62) rfl rfl
theorem q_63 : (Cond.fieldLink "CheckedMachine$Runner" (79 : Nat) "CheckedMachine$Step" "number" "I") ∈ x_Wd := x_in1 (i := 63) rfl rfl
theorem q_64 : (Cond.fieldLink "CheckedMachine$Judge" (51 : Nat) "CheckedMachine$Step" "target" "I") ∈ x_Wd := x_in1 (i := 64) rfl rfl
theorem q_65 : (Cond.fieldLink "CheckedMachine$Program" (42 : Nat) "CheckedMachine$Step" "target" "I") ∈ x_Wd := x_in1 (i := 65) rfl rfl
theorem q_66 : (Cond.fieldLink "CheckedMachine$Runner" (66 : Nat) "CheckedMachine$Step" "target" "I") ∈ x_Wd := x_in1 (i := 66) rfl rfl
theorem q_67 : (Cond.fieldLink "CheckedMachine$Checker" (147 : Nat) "CheckedMachine$Step" "target" "I") ∈ x_Wd := x_in1 (i := 67) rfl rfl
theorem q_68 : (Cond.lays "CheckedMachine$Step" "CheckedMachine$Step" "op" "I") ∈ x_Wd := x_in1 (i := 68) rfl rfl
theorem q_69 : (Cond.soleField "CheckedMachine$Step" "op") ∈ x_Wd := x_in1 (i := 69) rfl rfl
theorem q_70 : (Cond.lays "CheckedMachine$Step" "CheckedMachine$Step" "d" "I") ∈ x_Wd := x_in1 (i := 70) rfl rfl
theorem q_71 : (Cond.soleField "CheckedMachine$Step" "d") ∈ x_Wd := x_in1 (i := 71) rfl rfl
theorem q_72 : (Cond.lays "CheckedMachine$Step" "CheckedMachine$Step" "s" "I") ∈ x_Wd := x_in1 (i := 72) rfl rfl
theorem q_73 : (Cond.soleField "CheckedMachine$Step" "s") ∈ x_Wd := x_in1 (i := 73) rfl rfl
theorem q_74 : (Cond.lays "CheckedMachine$Step" "CheckedMachine$Step" "number" "I") ∈ x_Wd := x_in1 (i := 74) rfl rfl
theorem q_75 : (Cond.soleField "CheckedMachine$Step" "number") ∈ x_Wd := x_in1 (i := 75) rfl rfl
theorem q_76 : (Cond.lays "CheckedMachine$Step" "CheckedMachine$Step" "target" "I") ∈ x_Wd := x_in1 (i := 76) rfl rfl
theorem q_77 : (Cond.soleField "CheckedMachine$Step" "target") ∈ x_Wd := x_in1 (i := 77) rfl rfl
theorem q_78 : (Cond.superclass "CheckedMachine$Step" "java/lang/Object") ∈ x_Wd := x_in1 (i := 78) rfl rfl
theorem q_79 : (Cond.fieldLink "CheckedMachine$Program" (11 : Nat) "CheckedMachine$Program" "steps" "[LCheckedMachine$Step;") ∈ x_Wd := x_in1 (i := 79) rfl rfl
theorem q_80 : (Cond.fieldLink "CheckedMachine$Program" (18 : Nat) "CheckedMachine$Program" "size" "I") ∈ x_Wd := x_in1 (i := 80) rfl rfl
theorem q_81 : (Cond.laysFinal "CheckedMachine$Program" "CheckedMachine$Program" "steps" "[LCheckedMachine$Step;") ∈ x_Wd := x_in1 (i := 81) rfl rfl
theorem q_82 : (Cond.soleField "CheckedMachine$Program" "steps") ∈ x_Wd := x_in1 (i := 82) rfl rfl
theorem q_83 : (Cond.lays "CheckedMachine$Program" "CheckedMachine$Program" "size" "I") ∈ x_Wd := x_in1 (i := 83) rfl rfl
theorem q_84 : (Cond.soleField "CheckedMachine$Program" "size") ∈ x_Wd := x_in1 (i := 84) rfl rfl
theorem q_85 : (Cond.superclass "CheckedMachine$Program" "java/lang/Object") ∈ x_Wd := x_in1 (i := 85) rfl rfl
theorem q_86 : (Cond.classLink "CheckedMachine" (16 : Nat) "CheckedMachine$Checker") ∈ x_Wd := x_in1 (i := 86) rfl rfl
theorem q_87 : (Cond.instantiable "CheckedMachine$Checker" (13 : Nat)) ∈ x_Wd := x_in1 (i := 87) rfl rfl
theorem q_88 : (Cond.methodLink "CheckedMachine" (18 : Nat) ({ cls := "CheckedMachine$Checker", name := "<init>", desc := "(LCheckedMachine$Program;)V" } : Jvm.MethodName)) ∈ x_Wd := x_in1 (i := 88) rfl rfl
theorem q_89 : (Cond.instanceMethod ({ cls := "CheckedMachine$Checker", name := "<init>", desc := "(LCheckedMachine$Program;)V" } : Jvm.MethodName)) ∈ x_Wd := x_in1 (i := 89) rfl rfl
theorem q_90 : (Cond.code ({ cls := "CheckedMachine$Checker", name := "<init>", desc := "(LCheckedMachine$Program;)V" } : Jvm.MethodName) prog_2_method_1_code (3 : Nat) (Option.none : Option Jvm.ClassFile.FieldType)) ∈ x_Wd := x_in1 (i := 90) rfl rfl
theorem q_91 : (Cond.methodLink "CheckedMachine$Checker" (3 : Nat) ({ cls := "java/lang/Object", name := "<init>", desc := "()V" } : Jvm.MethodName)) ∈ x_Wd := x_in1 (i := 91) rfl rfl
theorem q_92 : (Cond.classLink "CheckedMachine$Checker" (15 : Nat) "CheckedMachine$Guesses") ∈ x_Wd := x_in1 (i := 92) rfl rfl
theorem q_93 : (Cond.instantiable "CheckedMachine$Guesses" (3 : Nat)) ∈ x_Wd := x_in1 (i := 93) rfl rfl
theorem q_94 : (Cond.methodLink "CheckedMachine$Checker" (17 : Nat) ({ cls := "CheckedMachine$Guesses", name := "<init>", desc := "()V" } : Jvm.MethodName)) ∈ x_Wd := x_in1 (i := 94) rfl rfl
theorem q_95 : (Cond.instanceMethod ({ cls := "CheckedMachine$Guesses", name := "<init>", desc := "()V" } : Jvm.MethodName)) ∈ x_Wd := x_in1 (i := 95) rfl rfl
theorem q_96 : (Cond.code ({ cls := "CheckedMachine$Guesses", name := "<init>", desc := "()V" } : Jvm.MethodName) prog_5_method_1_code (1 : Nat) (Option.none : Option Jvm.ClassFile.FieldType)) ∈ x_Wd := x_in1 (i := 96) rfl rfl
theorem q_97 : (Cond.methodLink "CheckedMachine$Guesses" (3 : Nat) ({ cls := "java/lang/Object", name := "<init>", desc := "()V" } : Jvm.MethodName)) ∈ x_Wd := x_in1 (i := 97) rfl rfl
theorem q_98 : (Cond.fieldLink "CheckedMachine$Guesses" (9 : Nat) "CheckedMachine$Guesses" "kinds" "[I") ∈ x_Wd := x_in1 (i := 98) rfl rfl
theorem q_99 : (Cond.fieldLink "CheckedMachine$Guesses" (15 : Nat) "CheckedMachine$Guesses" "los" "[J") ∈ x_Wd := x_in1 (i := 99) rfl rfl
theorem q_100 : (Cond.fieldLink "CheckedMachine$Guesses" (19 : Nat) "CheckedMachine$Guesses" "his" "[J") ∈ x_Wd := x_in1 (i := 100) rfl rfl
theorem q_101 : (Cond.laysFinal "CheckedMachine$Guesses" "CheckedMachine$Guesses" "kinds" "[I") ∈ x_Wd := x_in1 (i := 101) rfl rfl
theorem q_102 : (Cond.soleField "CheckedMachine$Guesses" "kinds") ∈ x_Wd := x_in1 (i := 102) rfl rfl
theorem q_103 : (Cond.laysFinal "CheckedMachine$Guesses" "CheckedMachine$Guesses" "los" "[J") ∈ x_Wd := x_in1 (i := 103) rfl rfl
theorem q_104 : (Cond.soleField "CheckedMachine$Guesses" "los") ∈ x_Wd := x_in1 (i := 104) rfl rfl
theorem q_105 : (Cond.laysFinal "CheckedMachine$Guesses" "CheckedMachine$Guesses" "his" "[J") ∈ x_Wd := x_in1 (i := 105) rfl rfl
theorem q_106 : (Cond.soleField "CheckedMachine$Guesses" "his") ∈ x_Wd := x_in1 (i := 106) rfl rfl
theorem q_107 : (Cond.superclass "CheckedMachine$Guesses" "java/lang/Object") ∈ x_Wd := x_in1 (i := 107) rfl rfl
theorem q_108 : (Cond.arrayClass Jvm.ClassFile.FieldType.int) ∈ x_Wd := x_in1 (i := 108) rfl rfl
theorem q_109 : (Cond.arrayClass Jvm.ClassFile.FieldType.long) ∈ x_Wd := x_in1 (i := 109) rfl rfl
theorem q_110 : (Cond.classLink "CheckedMachine$Checker" (22 : Nat) "CheckedMachine$Judge") ∈ x_Wd := x_in1 (i := 110) rfl rfl
theorem q_111 : (Cond.instantiable "CheckedMachine$Judge" (2 : Nat)) ∈ x_Wd := x_in1 (i := 111) rfl rfl
theorem q_112 : (Cond.methodLink "CheckedMachine$Checker" (24 : Nat) ({ cls := "CheckedMachine$Judge", name := "<init>", desc := "(LCheckedMachine$Program;LCheckedMachine$Guesses;)V" } : Jvm.MethodName)) ∈ x_Wd := x_in1 (i := 112) rfl rfl
theorem q_113 : (Cond.instanceMethod ({ cls := "CheckedMachine$Judge", name := "<init>", desc := "(LCheckedMachine$Program;LCheckedMachine$Guesses;)V" } : Jvm.MethodName)) ∈ x_Wd := x_in1 (i := 113) rfl rfl
theorem q_114 : (Cond.code ({ cls := "CheckedMachine$Judge", name := "<init>", desc := "(LCheckedMachine$Program;LCheckedMachine$Guesses;)V" } : Jvm.MethodName) prog_6_method_1_code (3 : Nat) (Option.none : Option Jvm.ClassFile.FieldType)) ∈ x_Wd := x_in1 (i := 114) rfl rfl
theorem q_115 : (Cond.methodLink "CheckedMachine$Judge" (3 : Nat) ({ cls := "java/lang/Object", name := "<init>", desc := "()V" } : Jvm.MethodName)) ∈ x_Wd := x_in1 (i := 115) rfl rfl
theorem q_116 : (Cond.fieldLink "CheckedMachine$Judge" (9 : Nat) "CheckedMachine$Judge" "program" "LCheckedMachine$Program;") ∈ x_Wd := x_in1 (i := 116) rfl rfl
theorem q_117 : (Cond.fieldLink "CheckedMachine$Judge" (15 : Nat) "CheckedMachine$Judge" "now" "LCheckedMachine$Guesses;") ∈ x_Wd := x_in1 (i := 117) rfl rfl
theorem q_118 : (Cond.laysFinal "CheckedMachine$Judge" "CheckedMachine$Judge" "program" "LCheckedMachine$Program;") ∈ x_Wd := x_in1 (i := 118) rfl rfl
theorem q_119 : (Cond.soleField "CheckedMachine$Judge" "program") ∈ x_Wd := x_in1 (i := 119) rfl rfl
theorem q_120 : (Cond.laysFinal "CheckedMachine$Judge" "CheckedMachine$Judge" "now" "LCheckedMachine$Guesses;") ∈ x_Wd := x_in1 (i := 120) rfl rfl
theorem q_121 : (Cond.soleField "CheckedMachine$Judge" "now") ∈ x_Wd := x_in1 (i := 121) rfl rfl
theorem q_122 : (Cond.superclass "CheckedMachine$Judge" "java/lang/Object") ∈ x_Wd := x_in1 (i := 122) rfl rfl
theorem q_123 : (Cond.classLink "CheckedMachine$Checker" (31 : Nat) "CheckedMachine$Effects") ∈ x_Wd := x_in1 (i := 123) rfl rfl
theorem q_124 : (Cond.instantiable "CheckedMachine$Effects" (1 : Nat)) ∈ x_Wd := x_in1 (i := 124) rfl rfl
theorem q_125 : (Cond.methodLink "CheckedMachine$Checker" (33 : Nat) ({ cls := "CheckedMachine$Effects", name := "<init>", desc := "(LCheckedMachine$Guesses;)V" } : Jvm.MethodName)) ∈ x_Wd := x_in1 (i := 125) rfl rfl
theorem q_126 : (Cond.instanceMethod ({ cls := "CheckedMachine$Effects", name := "<init>", desc := "(LCheckedMachine$Guesses;)V" } : Jvm.MethodName)) ∈ x_Wd := x_in1 (i := 126) rfl rfl
theorem q_127 : (Cond.code ({ cls := "CheckedMachine$Effects", name := "<init>", desc := "(LCheckedMachine$Guesses;)V" } : Jvm.MethodName) prog_3_method_1_code (2 : Nat) (Option.none : Option Jvm.ClassFile.FieldType)) ∈ x_Wd := x_in1 (i := 127) rfl rfl
theorem q_128 : (Cond.methodLink "CheckedMachine$Effects" (3 : Nat) ({ cls := "java/lang/Object", name := "<init>", desc := "()V" } : Jvm.MethodName)) ∈ x_Wd := x_in1 (i := 128) rfl rfl
theorem q_129 : (Cond.fieldLink "CheckedMachine$Effects" (9 : Nat) "CheckedMachine$Effects" "now" "LCheckedMachine$Guesses;") ∈ x_Wd := x_in1 (i := 129) rfl rfl
theorem q_130 : (Cond.laysFinal "CheckedMachine$Effects" "CheckedMachine$Effects" "now" "LCheckedMachine$Guesses;") ∈ x_Wd := x_in1 (i := 130) rfl rfl
theorem q_131 : (Cond.soleField "CheckedMachine$Effects" "now") ∈ x_Wd := x_in1 (i := 131) rfl rfl
theorem q_132 : (Cond.superclass "CheckedMachine$Effects" "java/lang/Object") ∈ x_Wd := x_in1 (i := 132) rfl rfl
theorem q_134 : (Cond.fieldLink "CheckedMachine$Checker" (9 : Nat) "CheckedMachine$Checker" "program" "LCheckedMachine$Program;") ∈ x_Wd := x_in1 (i := 134) rfl rfl
theorem q_135 : (Cond.fieldLink "CheckedMachine$Checker" (18 : Nat) "CheckedMachine$Checker" "now" "LCheckedMachine$Guesses;") ∈ x_Wd := x_in1 (i := 135) rfl rfl
theorem q_136 : (Cond.fieldLink "CheckedMachine$Checker" (27 : Nat) "CheckedMachine$Checker" "judge" "LCheckedMachine$Judge;") ∈ x_Wd := x_in1 (i := 136) rfl rfl
theorem q_137 : (Cond.fieldLink "CheckedMachine$Checker" (36 : Nat) "CheckedMachine$Checker" "effects" "LCheckedMachine$Effects;") ∈ x_Wd := x_in1 (i := 137) rfl rfl
theorem q_138 : (Cond.fieldLink "CheckedMachine$Checker" (40 : Nat) "CheckedMachine$Checker" "left" "[LCheckedMachine$Guesses;") ∈ x_Wd := x_in1 (i := 138) rfl rfl
theorem q_139 : (Cond.fieldLink "CheckedMachine$Checker" (44 : Nat) "CheckedMachine$Checker" "open" "[Z") ∈ x_Wd := x_in1 (i := 139) rfl rfl
theorem q_140 : (Cond.fieldLink "CheckedMachine$Checker" (72 : Nat) "CheckedMachine$Checker" "verdict" "I") ∈ x_Wd := x_in1 (i := 140) rfl rfl
theorem q_141 : (Cond.fieldLink "CheckedMachine$Checker" (48 : Nat) "CheckedMachine$Checker" "looked" "I") ∈ x_Wd := x_in1 (i := 141) rfl rfl
theorem q_142 : (Cond.fieldLink "CheckedMachine$Checker" (52 : Nat) "CheckedMachine$Checker" "reason" "I") ∈ x_Wd := x_in1 (i := 142) rfl rfl
theorem q_143 : (Cond.fieldLink "CheckedMachine$Checker" (55 : Nat) "CheckedMachine$Checker" "rejectedAt" "I") ∈ x_Wd := x_in1 (i := 143) rfl rfl
theorem q_144 : (Cond.fieldLink "CheckedMachine$Checker" (76 : Nat) "CheckedMachine$Checker" "exited" "Z") ∈ x_Wd := x_in1 (i := 144) rfl rfl
theorem q_145 : (Cond.fieldLink "CheckedMachine$Checker" (58 : Nat) "CheckedMachine$Checker" "least" "J") ∈ x_Wd := x_in1 (i := 145) rfl rfl
theorem q_146 : (Cond.fieldLink "CheckedMachine$Checker" (62 : Nat) "CheckedMachine$Checker" "greatest" "J") ∈ x_Wd := x_in1 (i := 146) rfl rfl
theorem q_147 : (Cond.laysFinal "CheckedMachine$Checker" "CheckedMachine$Checker" "program" "LCheckedMachine$Program;") ∈ x_Wd := x_in1 (i := 147) rfl rfl
theorem q_148 : (Cond.soleField "CheckedMachine$Checker" "program") ∈ x_Wd := x_in1 (i := 148) rfl rfl
theorem q_149 : (Cond.laysFinal "CheckedMachine$Checker" "CheckedMachine$Checker" "now" "LCheckedMachine$Guesses;") ∈ x_Wd := x_in1 (i := 149) rfl rfl
theorem q_150 : (Cond.soleField "CheckedMachine$Checker" "now") ∈ x_Wd := x_in1 (i := 150) rfl rfl
theorem q_151 : (Cond.laysFinal "CheckedMachine$Checker" "CheckedMachine$Checker" "judge" "LCheckedMachine$Judge;") ∈ x_Wd := x_in1 (i := 151) rfl rfl
theorem q_152 : (Cond.soleField "CheckedMachine$Checker" "judge") ∈ x_Wd := x_in1 (i := 152) rfl rfl
theorem q_153 : (Cond.laysFinal "CheckedMachine$Checker" "CheckedMachine$Checker" "effects" "LCheckedMachine$Effects;") ∈ x_Wd := x_in1 (i := 153) rfl rfl
theorem q_154 : (Cond.soleField "CheckedMachine$Checker" "effects") ∈ x_Wd := x_in1 (i := 154) rfl rfl
theorem q_155 : (Cond.laysFinal "CheckedMachine$Checker" "CheckedMachine$Checker" "left" "[LCheckedMachine$Guesses;") ∈ x_Wd := x_in1 (i := 155) rfl rfl
theorem q_156 : (Cond.soleField "CheckedMachine$Checker" "left") ∈ x_Wd := x_in1 (i := 156) rfl rfl
theorem q_157 : (Cond.laysFinal "CheckedMachine$Checker" "CheckedMachine$Checker" "open" "[Z") ∈ x_Wd := x_in1 (i := 157) rfl rfl
theorem q_158 : (Cond.soleField "CheckedMachine$Checker" "open") ∈ x_Wd := x_in1 (i := 158) rfl rfl
theorem q_159 : (Cond.lays "CheckedMachine$Checker" "CheckedMachine$Checker" "verdict" "I") ∈ x_Wd := x_in1 (i := 159) rfl rfl
theorem q_160 : (Cond.soleField "CheckedMachine$Checker" "verdict") ∈ x_Wd := x_in1 (i := 160) rfl rfl
theorem q_161 : (Cond.lays "CheckedMachine$Checker" "CheckedMachine$Checker" "looked" "I") ∈ x_Wd := x_in1 (i := 161) rfl rfl
theorem q_162 : (Cond.soleField "CheckedMachine$Checker" "looked") ∈ x_Wd := x_in1 (i := 162) rfl rfl
theorem q_163 : (Cond.lays "CheckedMachine$Checker" "CheckedMachine$Checker" "reason" "I") ∈ x_Wd := x_in1 (i := 163) rfl rfl
theorem q_164 : (Cond.soleField "CheckedMachine$Checker" "reason") ∈ x_Wd := x_in1 (i := 164) rfl rfl
theorem q_165 : (Cond.lays "CheckedMachine$Checker" "CheckedMachine$Checker" "rejectedAt" "I") ∈ x_Wd := x_in1 (i := 165) rfl rfl
theorem q_166 : (Cond.soleField "CheckedMachine$Checker" "rejectedAt") ∈ x_Wd := x_in1 (i := 166) rfl rfl
theorem q_167 : (Cond.lays "CheckedMachine$Checker" "CheckedMachine$Checker" "exited" "Z") ∈ x_Wd := x_in1 (i := 167) rfl rfl
theorem q_168 : (Cond.soleField "CheckedMachine$Checker" "exited") ∈ x_Wd := x_in1 (i := 168) rfl rfl
theorem q_169 : (Cond.lays "CheckedMachine$Checker" "CheckedMachine$Checker" "least" "J") ∈ x_Wd := x_in1 (i := 169) rfl rfl
theorem q_170 : (Cond.soleField "CheckedMachine$Checker" "least") ∈ x_Wd := x_in1 (i := 170) rfl rfl
theorem q_171 : (Cond.lays "CheckedMachine$Checker" "CheckedMachine$Checker" "greatest" "J") ∈ x_Wd := x_in1 (i := 171) rfl rfl
theorem q_172 : (Cond.soleField "CheckedMachine$Checker" "greatest") ∈ x_Wd := x_in1 (i := 172) rfl rfl
theorem q_173 : (Cond.superclass "CheckedMachine$Checker" "java/lang/Object") ∈ x_Wd := x_in1 (i := 173) rfl rfl
theorem q_174 : (Cond.arrayClass Jvm.ClassFile.FieldType.boolean) ∈ x_Wd := x_in1 (i := 174) rfl rfl
theorem q_175 : (Cond.classLink "CheckedMachine" (25 : Nat) "CheckedMachine$Runner") ∈ x_Wd := x_in1 (i := 175) rfl rfl
theorem q_176 : (Cond.instantiable "CheckedMachine$Runner" (6 : Nat)) ∈ x_Wd := x_in1 (i := 176) rfl rfl
theorem q_177 : (Cond.methodLink "CheckedMachine" (27 : Nat) ({ cls := "CheckedMachine$Runner", name := "<init>", desc := "(LCheckedMachine$Program;)V" } : Jvm.MethodName)) ∈ x_Wd := x_in1 (i := 177) rfl rfl
theorem q_178 : (Cond.instanceMethod ({ cls := "CheckedMachine$Runner", name := "<init>", desc := "(LCheckedMachine$Program;)V" } : Jvm.MethodName)) ∈ x_Wd := x_in1 (i := 178) rfl rfl
theorem q_179 : (Cond.code ({ cls := "CheckedMachine$Runner", name := "<init>", desc := "(LCheckedMachine$Program;)V" } : Jvm.MethodName) prog_8_method_1_code (2 : Nat) (Option.none : Option Jvm.ClassFile.FieldType)) ∈ x_Wd := x_in1 (i := 179) rfl rfl
theorem q_180 : (Cond.methodLink "CheckedMachine$Runner" (3 : Nat) ({ cls := "java/lang/Object", name := "<init>", desc := "()V" } : Jvm.MethodName)) ∈ x_Wd := x_in1 (i := 180) rfl rfl
theorem q_181 : (Cond.classLink "CheckedMachine$Runner" (15 : Nat) "[[J") ∈ x_Wd := x_in1 (i := 181) rfl rfl
theorem q_183 : (Cond.fieldLink "CheckedMachine$Runner" (9 : Nat) "CheckedMachine$Runner" "program" "LCheckedMachine$Program;") ∈ x_Wd := x_in1 (i := 183) rfl rfl
theorem q_184 : (Cond.fieldLink "CheckedMachine$Runner" (17 : Nat) "CheckedMachine$Runner" "map" "[[J") ∈ x_Wd := x_in1 (i := 184) rfl rfl
theorem q_185 : (Cond.fieldLink "CheckedMachine$Runner" (20 : Nat) "CheckedMachine$Runner" "kinds" "[I") ∈ x_Wd := x_in1 (i := 185) rfl rfl
theorem q_186 : (Cond.fieldLink "CheckedMachine$Runner" (24 : Nat) "CheckedMachine$Runner" "values" "[J") ∈ x_Wd := x_in1 (i := 186) rfl rfl
theorem q_187 : (Cond.fieldLink "CheckedMachine$Runner" (28 : Nat) "CheckedMachine$Runner" "stepsRun" "I") ∈ x_Wd := x_in1 (i := 187) rfl rfl
theorem q_188 : (Cond.fieldLink "CheckedMachine$Runner" (32 : Nat) "CheckedMachine$Runner" "countCalls" "I") ∈ x_Wd := x_in1 (i := 188) rfl rfl
theorem q_189 : (Cond.laysFinal "CheckedMachine$Runner" "CheckedMachine$Runner" "program" "LCheckedMachine$Program;") ∈ x_Wd := x_in1 (i := 189) rfl rfl
theorem q_190 : (Cond.soleField "CheckedMachine$Runner" "program") ∈ x_Wd := x_in1 (i := 190) rfl rfl
theorem q_191 : (Cond.laysFinal "CheckedMachine$Runner" "CheckedMachine$Runner" "map" "[[J") ∈ x_Wd := x_in1 (i := 191) rfl rfl
theorem q_192 : (Cond.soleField "CheckedMachine$Runner" "map") ∈ x_Wd := x_in1 (i := 192) rfl rfl
theorem q_193 : (Cond.laysFinal "CheckedMachine$Runner" "CheckedMachine$Runner" "kinds" "[I") ∈ x_Wd := x_in1 (i := 193) rfl rfl
theorem q_194 : (Cond.soleField "CheckedMachine$Runner" "kinds") ∈ x_Wd := x_in1 (i := 194) rfl rfl
theorem q_195 : (Cond.laysFinal "CheckedMachine$Runner" "CheckedMachine$Runner" "values" "[J") ∈ x_Wd := x_in1 (i := 195) rfl rfl
theorem q_196 : (Cond.soleField "CheckedMachine$Runner" "values") ∈ x_Wd := x_in1 (i := 196) rfl rfl
theorem q_197 : (Cond.lays "CheckedMachine$Runner" "CheckedMachine$Runner" "stepsRun" "I") ∈ x_Wd := x_in1 (i := 197) rfl rfl
theorem q_198 : (Cond.soleField "CheckedMachine$Runner" "stepsRun") ∈ x_Wd := x_in1 (i := 198) rfl rfl
theorem q_199 : (Cond.lays "CheckedMachine$Runner" "CheckedMachine$Runner" "countCalls" "I") ∈ x_Wd := x_in1 (i := 199) rfl rfl
theorem q_200 : (Cond.soleField "CheckedMachine$Runner" "countCalls") ∈ x_Wd := x_in1 (i := 200) rfl rfl
theorem q_201 : (Cond.superclass "CheckedMachine$Runner" "java/lang/Object") ∈ x_Wd := x_in1 (i := 201) rfl rfl
theorem q_202 : (Cond.fieldLink "CheckedMachine" (12 : Nat) "CheckedMachine" "program" "LCheckedMachine$Program;") ∈ x_Wd := x_in1 (i := 202) rfl rfl
theorem q_203 : (Cond.fieldLink "CheckedMachine" (21 : Nat) "CheckedMachine" "checker" "LCheckedMachine$Checker;") ∈ x_Wd := x_in1 (i := 203) rfl rfl
theorem q_204 : (Cond.fieldLink "CheckedMachine" (28 : Nat) "CheckedMachine" "runner" "LCheckedMachine$Runner;") ∈ x_Wd := x_in1 (i := 204) rfl rfl
theorem q_205 : (Cond.fieldLink "CheckedMachine" (32 : Nat) "CheckedMachine" "checked" "Z") ∈ x_Wd := x_in1 (i := 205) rfl rfl
theorem q_206 : (Cond.laysFinal "CheckedMachine" "CheckedMachine" "program" "LCheckedMachine$Program;") ∈ x_Wd := x_in1 (i := 206) rfl rfl
theorem q_207 : (Cond.soleField "CheckedMachine" "program") ∈ x_Wd := x_in1 (i := 207) rfl rfl
theorem q_208 : (Cond.laysFinal "CheckedMachine" "CheckedMachine" "checker" "LCheckedMachine$Checker;") ∈ x_Wd := x_in1 (i := 208) rfl rfl
theorem q_209 : (Cond.soleField "CheckedMachine" "checker") ∈ x_Wd := x_in1 (i := 209) rfl rfl
theorem q_210 : (Cond.laysFinal "CheckedMachine" "CheckedMachine" "runner" "LCheckedMachine$Runner;") ∈ x_Wd := x_in1 (i := 210) rfl rfl
theorem q_211 : (Cond.soleField "CheckedMachine" "runner") ∈ x_Wd := x_in1 (i := 211) rfl rfl
theorem q_212 : (Cond.lays "CheckedMachine" "CheckedMachine" "checked" "Z") ∈ x_Wd := x_in1 (i := 212) rfl rfl
theorem q_213 : (Cond.soleField "CheckedMachine" "checked") ∈ x_Wd := x_in1 (i := 213) rfl rfl
theorem q_214 : (Cond.superclass "CheckedMachine" "java/lang/Object") ∈ x_Wd := x_in1 (i := 214) rfl rfl
theorem q_215 : (Cond.methodLink "CheckedMachineLaw" (92 : Nat) ({ cls := "CheckedMachine", name := "count", desc := "(I)I" } : Jvm.MethodName)) ∈ x_Wd := x_in1 (i := 215) rfl rfl
theorem q_216 : (Cond.instanceMethod ({ cls := "CheckedMachine", name := "count", desc := "(I)I" } : Jvm.MethodName)) ∈ x_Wd := x_in1 (i := 216) rfl rfl
theorem q_217 : (Cond.selects "CheckedMachine" ({ cls := "CheckedMachine", name := "count", desc := "(I)I" } : Jvm.MethodName) ({ cls := "CheckedMachine", name := "count", desc := "(I)I" } : Jvm.MethodName)) ∈ x_Wd := x_in1 (i := 217) rfl rfl
theorem q_218 : (Cond.code ({ cls := "CheckedMachine", name := "count", desc := "(I)I" } : Jvm.MethodName) prog_1_method_10_code (2 : Nat) (Option.some Jvm.ClassFile.FieldType.int)) ∈ x_Wd := x_in1 (i := 218) rfl rfl
theorem q_219 : (Cond.methodLink "CheckedMachine" (47 : Nat) ({ cls := "CheckedMachine$Program", name := "size", desc := "()I" } : Jvm.MethodName)) ∈ x_Wd := x_in1 (i := 219) rfl rfl
theorem q_220 : (Cond.instanceMethod ({ cls := "CheckedMachine$Program", name := "size", desc := "()I" } : Jvm.MethodName)) ∈ x_Wd := x_in1 (i := 220) rfl rfl
theorem q_221 : (Cond.selects "CheckedMachine$Program" ({ cls := "CheckedMachine$Program", name := "size", desc := "()I" } : Jvm.MethodName) ({ cls := "CheckedMachine$Program", name := "size", desc := "()I" } : Jvm.MethodName)) ∈ x_Wd := x_in1 (i := 221) rfl rfl
theorem q_222 : (Cond.code ({ cls := "CheckedMachine$Program", name := "size", desc := "()I" } : Jvm.MethodName) prog_7_method_4_code (1 : Nat) (Option.some Jvm.ClassFile.FieldType.int)) ∈ x_Wd := x_in1 (i := 222) rfl rfl
theorem q_223 : (Cond.methodLink "CheckedMachine" (114 : Nat) ({ cls := "CheckedMachine$Checker", name := "reason", desc := "()I" } : Jvm.MethodName)) ∈ x_Wd := x_in1 (i := 223) rfl rfl
theorem q_224 : (Cond.instanceMethod ({ cls := "CheckedMachine$Checker", name := "reason", desc := "()I" } : Jvm.MethodName)) ∈ x_Wd := x_in1 (i := 224) rfl rfl
theorem q_225 : (Cond.selects "CheckedMachine$Checker" ({ cls := "CheckedMachine$Checker", name := "reason", desc := "()I" } : Jvm.MethodName) ({ cls := "CheckedMachine$Checker", name := "reason", desc := "()I" } : Jvm.MethodName)) ∈ x_Wd := x_in1 (i := 225) rfl rfl
theorem q_226 : (Cond.code ({ cls := "CheckedMachine$Checker", name := "reason", desc := "()I" } : Jvm.MethodName) prog_2_method_3_code (1 : Nat) (Option.some Jvm.ClassFile.FieldType.int)) ∈ x_Wd := x_in1 (i := 226) rfl rfl
theorem q_227 : (Cond.methodLink "CheckedMachine" (117 : Nat) ({ cls := "CheckedMachine$Checker", name := "rejectedAt", desc := "()I" } : Jvm.MethodName)) ∈ x_Wd := x_in1 (i := 227) rfl rfl
theorem q_228 : (Cond.instanceMethod ({ cls := "CheckedMachine$Checker", name := "rejectedAt", desc := "()I" } : Jvm.MethodName)) ∈ x_Wd := x_in1 (i := 228) rfl rfl
theorem q_229 : (Cond.selects "CheckedMachine$Checker" ({ cls := "CheckedMachine$Checker", name := "rejectedAt", desc := "()I" } : Jvm.MethodName) ({ cls := "CheckedMachine$Checker", name := "rejectedAt", desc := "()I" } : Jvm.MethodName)) ∈ x_Wd := x_in1 (i := 229) rfl rfl
theorem q_230 : (Cond.code ({ cls := "CheckedMachine$Checker", name := "rejectedAt", desc := "()I" } : Jvm.MethodName) prog_2_method_4_code (1 : Nat) (Option.some Jvm.ClassFile.FieldType.int)) ∈ x_Wd := x_in1 (i := 230) rfl rfl
theorem q_231 : (Cond.methodLink "CheckedMachine" (84 : Nat) ({ cls := "CheckedMachine$Checker", name := "looked", desc := "()I" } : Jvm.MethodName)) ∈ x_Wd := x_in1 (i := 231) rfl rfl
theorem q_232 : (Cond.instanceMethod ({ cls := "CheckedMachine$Checker", name := "looked", desc := "()I" } : Jvm.MethodName)) ∈ x_Wd := x_in1 (i := 232) rfl rfl
theorem q_233 : (Cond.selects "CheckedMachine$Checker" ({ cls := "CheckedMachine$Checker", name := "looked", desc := "()I" } : Jvm.MethodName) ({ cls := "CheckedMachine$Checker", name := "looked", desc := "()I" } : Jvm.MethodName)) ∈ x_Wd := x_in1 (i := 233) rfl rfl
theorem q_234 : (Cond.code ({ cls := "CheckedMachine$Checker", name := "looked", desc := "()I" } : Jvm.MethodName) prog_2_method_2_code (1 : Nat) (Option.some Jvm.ClassFile.FieldType.int)) ∈ x_Wd := x_in1 (i := 234) rfl rfl
theorem q_235 : (Cond.methodLink "CheckedMachine" (120 : Nat) ({ cls := "CheckedMachine$Runner", name := "stepsRun", desc := "()I" } : Jvm.MethodName)) ∈ x_Wd := x_in1 (i := 235) rfl rfl
theorem q_236 : (Cond.instanceMethod ({ cls := "CheckedMachine$Runner", name := "stepsRun", desc := "()I" } : Jvm.MethodName)) ∈ x_Wd := x_in1 (i := 236) rfl rfl
theorem q_237 : (Cond.selects "CheckedMachine$Runner" ({ cls := "CheckedMachine$Runner", name := "stepsRun", desc := "()I" } : Jvm.MethodName) ({ cls := "CheckedMachine$Runner", name := "stepsRun", desc := "()I" } : Jvm.MethodName)) ∈ x_Wd := x_in1 (i := 237) rfl rfl
theorem q_238 : (Cond.code ({ cls := "CheckedMachine$Runner", name := "stepsRun", desc := "()I" } : Jvm.MethodName) prog_8_method_2_code (1 : Nat) (Option.some Jvm.ClassFile.FieldType.int)) ∈ x_Wd := x_in1 (i := 238) rfl rfl
theorem q_239 : (Cond.methodLink "CheckedMachine" (123 : Nat) ({ cls := "CheckedMachine$Runner", name := "countCalls", desc := "()I" } : Jvm.MethodName)) ∈ x_Wd := x_in1 (i := 239) rfl rfl
theorem q_240 : (Cond.instanceMethod ({ cls := "CheckedMachine$Runner", name := "countCalls", desc := "()I" } : Jvm.MethodName)) ∈ x_Wd := x_in2 (i := 0) rfl rfl
theorem q_241 : (Cond.selects "CheckedMachine$Runner" ({ cls := "CheckedMachine$Runner", name := "countCalls", desc := "()I" } : Jvm.MethodName) ({ cls := "CheckedMachine$Runner", name := "countCalls", desc := "()I" } : Jvm.MethodName)) ∈ x_Wd := x_in2 (i := 1) rfl rfl
theorem q_242 : (Cond.code ({ cls := "CheckedMachine$Runner", name := "countCalls", desc := "()I" } : Jvm.MethodName) prog_8_method_3_code (1 : Nat) (Option.some Jvm.ClassFile.FieldType.int)) ∈ x_Wd := x_in2 (i := 2) rfl rfl
theorem q_243 : (Cond.methodLink "CheckedMachineLaw" (53 : Nat) ({ cls := "CheckedMachineLaw", name := "add", desc := "(LCheckedMachine;IIIII[J)I" } : Jvm.MethodName)) ∈ x_Wd := x_in2 (i := 3) rfl rfl
theorem q_244 : (Cond.static ({ cls := "CheckedMachineLaw", name := "add", desc := "(LCheckedMachine;IIIII[J)I" } : Jvm.MethodName)) ∈ x_Wd := x_in2 (i := 4) rfl rfl
theorem q_245 : (Cond.codeWith ({ cls := "CheckedMachineLaw", name := "add", desc := "(LCheckedMachine;IIIII[J)I" } : Jvm.MethodName) method_3_code (8 : Nat) (Option.some Jvm.ClassFile.FieldType.int) [((0 : Nat), (16 : Nat), (19 : Nat), (13 : Nat)), ((0 : Nat), (16 : Nat), (23 : Nat), (15 : Nat))]) ∈ x_Wd := x_in2 (i := 5) rfl rfl
theorem q_246 : (Cond.classLink "CheckedMachineLaw" (13 : Nat) "java/lang/IllegalArgumentException") ∈ x_Wd := x_in2 (i := 6) rfl rfl
theorem q_247 : (Cond.classLink "CheckedMachineLaw" (15 : Nat) "java/lang/IllegalStateException") ∈ x_Wd := x_in2 (i := 7) rfl rfl
theorem q_248 : (Cond.methodLink "CheckedMachineLaw" (7 : Nat) ({ cls := "CheckedMachine", name := "add", desc := "(IIIII)I" } : Jvm.MethodName)) ∈ x_Wd := x_in2 (i := 8) rfl rfl
theorem q_249 : (Cond.instanceMethod ({ cls := "CheckedMachine", name := "add", desc := "(IIIII)I" } : Jvm.MethodName)) ∈ x_Wd := x_in2 (i := 9) rfl rfl
theorem q_250 : (Cond.selects "CheckedMachine" ({ cls := "CheckedMachine", name := "add", desc := "(IIIII)I" } : Jvm.MethodName) ({ cls := "CheckedMachine", name := "add", desc := "(IIIII)I" } : Jvm.MethodName)) ∈ x_Wd := x_in2 (i := 10) rfl rfl
theorem q_251 : (Cond.code ({ cls := "CheckedMachine", name := "add", desc := "(IIIII)I" } : Jvm.MethodName) prog_1_method_2_code (7 : Nat) (Option.some Jvm.ClassFile.FieldType.int)) ∈ x_Wd := x_in2 (i := 11) rfl rfl
theorem q_252 : (Cond.methodLink "CheckedMachine" (36 : Nat) ({ cls := "CheckedMachine$Program", name := "allows", desc := "(IIII)Z" } : Jvm.MethodName)) ∈ x_Wd := x_in2 (i := 12) rfl rfl
theorem q_253 : (Cond.static ({ cls := "CheckedMachine$Program", name := "allows", desc := "(IIII)Z" } : Jvm.MethodName)) ∈ x_Wd := x_in2 (i := 13) rfl rfl
theorem q_254 : (Cond.code ({ cls := "CheckedMachine$Program", name := "allows", desc := "(IIII)Z" } : Jvm.MethodName) prog_7_method_2_code (4 : Nat) (Option.some Jvm.ClassFile.FieldType.boolean)) ∈ x_Wd := x_in2 (i := 14) rfl rfl
theorem q_255 : (Cond.methodLink "CheckedMachine$Program" (22 : Nat) ({ cls := "CheckedMachine$Program", name := "isRegister", desc := "(I)Z" } : Jvm.MethodName)) ∈ x_Wd := x_in2 (i := 15) rfl rfl
theorem q_256 : (Cond.static ({ cls := "CheckedMachine$Program", name := "isRegister", desc := "(I)Z" } : Jvm.MethodName)) ∈ x_Wd := x_in2 (i := 16) rfl rfl
theorem q_257 : (Cond.code ({ cls := "CheckedMachine$Program", name := "isRegister", desc := "(I)Z" } : Jvm.MethodName) prog_7_method_3_code (1 : Nat) (Option.some Jvm.ClassFile.FieldType.boolean)) ∈ x_Wd := x_in2 (i := 17) rfl rfl
theorem q_258 : (Cond.classLink "CheckedMachine" (40 : Nat) "java/lang/IllegalArgumentException") ∈ x_Wd := x_in2 (i := 18) rfl rfl
theorem q_259 : (Cond.instantiable "java/lang/IllegalArgumentException" (6 : Nat)) ∈ x_Wd := x_in2 (i := 19) rfl rfl
theorem q_267 : (Cond.selects "java/lang/IllegalArgumentException" ({ cls := "java/lang/Throwable", name := "fillInStackTrace", desc := "(I)Ljava/lang/Throwable;" } : Jvm.MethodName) ({ cls := "java/lang/Throwable", name := "fillInStackTrace", desc := "(I)Ljava/lang/Throwable;" } : Jvm.MethodName)) ∈ x_Wd := x_in2 (i := 27) rfl rfl
theorem q_268 : (Cond.selects "java/lang/IllegalArgumentException" ({ cls := "java/lang/Throwable", name := "fillInStackTrace", desc := "()Ljava/lang/Throwable;" } : Jvm.MethodName) ({ cls := "java/lang/Throwable", name := "fillInStackTrace", desc := "()Ljava/lang/Throwable;" } : Jvm.MethodName)) ∈ x_Wd := x_in2 (i := 28) rfl rfl
theorem q_269 : (Cond.lays "java/lang/IllegalArgumentException" "java/lang/Throwable" "cause" "Ljava/lang/Throwable;") ∈ x_Wd := x_in2 (i := 29) rfl rfl
theorem q_270 : (Cond.lays "java/lang/Throwable" "java/lang/Throwable" "cause" "Ljava/lang/Throwable;") ∈ x_Wd := x_in2 (i := 30) rfl rfl
theorem q_271 : (Cond.lays "java/lang/IllegalArgumentException" "java/lang/Throwable" "stackTrace" "[Ljava/lang/StackTraceElement;") ∈ x_Wd := x_in2 (i := 31) rfl rfl
theorem q_272 : (Cond.lays "java/lang/Throwable" "java/lang/Throwable" "stackTrace" "[Ljava/lang/StackTraceElement;") ∈ x_Wd := x_in2 (i := 32) rfl rfl
theorem q_273 : (Cond.lays "java/lang/IllegalArgumentException" "java/lang/Throwable" "suppressedExceptions" "Ljava/util/List;") ∈ x_Wd := x_in2 (i := 33) rfl rfl
theorem q_274 : (Cond.lays "java/lang/Throwable" "java/lang/Throwable" "suppressedExceptions" "Ljava/util/List;") ∈ x_Wd := x_in2 (i := 34) rfl rfl
theorem q_275 : (Cond.lays "java/lang/IllegalArgumentException" "java/lang/Throwable" "detailMessage" "Ljava/lang/String;") ∈ x_Wd := x_in2 (i := 35) rfl rfl
theorem q_276 : (Cond.lays "java/lang/Throwable" "java/lang/Throwable" "detailMessage" "Ljava/lang/String;") ∈ x_Wd := x_in2 (i := 36) rfl rfl
theorem q_277 : (Cond.lays "java/lang/IllegalArgumentException" "java/lang/Throwable" "backtrace" "Ljava/lang/Object;") ∈ x_Wd := x_in2 (i := 37) rfl rfl
theorem q_278 : (Cond.lays "java/lang/Throwable" "java/lang/Throwable" "backtrace" "Ljava/lang/Object;") ∈ x_Wd := x_in2 (i := 38) rfl rfl
theorem q_279 : (Cond.fieldLink "java/lang/Throwable" (198 : Nat) "java/lang/Throwable" "backtrace" "Ljava/lang/Object;") ∈ x_Wd := x_in2 (i := 39) rfl rfl
theorem q_280 : (Cond.superclass "java/lang/Throwable" "java/lang/Object") ∈ x_Wd := x_in2 (i := 40) rfl rfl
theorem q_281 : (Cond.instanceMethod ({ cls := "java/lang/Throwable", name := "<init>", desc := "()V" } : Jvm.MethodName)) ∈ x_Wd := x_in2 (i := 41) rfl rfl
theorem q_282 : (Cond.code ({ cls := "java/lang/Throwable", name := "<init>", desc := "()V" } : Jvm.MethodName) prog_19_method_1_code (1 : Nat) (Option.none : Option Jvm.ClassFile.FieldType)) ∈ x_Wd := x_in2 (i := 42) rfl rfl
theorem q_283 : (Cond.methodLink "java/lang/Throwable" (1 : Nat) ({ cls := "java/lang/Object", name := "<init>", desc := "()V" } : Jvm.MethodName)) ∈ x_Wd := x_in2 (i := 43) rfl rfl
theorem q_284 : (Cond.fieldLink "java/lang/Throwable" (13 : Nat) "java/lang/Throwable" "UNASSIGNED_STACK" "[Ljava/lang/StackTraceElement;") ∈ x_Wd := x_in2 (i := 44) rfl rfl
theorem q_286 : (Cond.fieldLink "java/lang/Throwable" (20 : Nat) "java/lang/Throwable" "SUPPRESSED_SENTINEL" "Ljava/util/List;") ∈ x_Wd := x_in2 (i := 46) rfl rfl
theorem q_288 : (Cond.methodLink "java/lang/Throwable" (27 : Nat) ({ cls := "java/lang/Throwable", name := "fillInStackTrace", desc := "()Ljava/lang/Throwable;" } : Jvm.MethodName)) ∈ x_Wd := x_in2 (i := 48) rfl rfl
theorem q_289 : (Cond.instanceMethod ({ cls := "java/lang/Throwable", name := "fillInStackTrace", desc := "()Ljava/lang/Throwable;" } : Jvm.MethodName)) ∈ x_Wd := x_in2 (i := 49) rfl rfl
theorem q_290 : (Cond.sameMethod "java/lang/Throwable" "java/lang/Throwable" "fillInStackTrace" "()Ljava/lang/Throwable;") ∈ x_Wd := x_in2 (i := 50) rfl rfl
theorem q_291 : (Cond.selects "java/lang/IllegalStateException" ({ cls := "java/lang/Throwable", name := "fillInStackTrace", desc := "()Ljava/lang/Throwable;" } : Jvm.MethodName) ({ cls := "java/lang/Throwable", name := "fillInStackTrace", desc := "()Ljava/lang/Throwable;" } : Jvm.MethodName)) ∈ x_Wd := x_in2 (i := 51) rfl rfl
theorem q_292 : (Cond.selects "java/lang/UnsupportedOperationException" ({ cls := "java/lang/Throwable", name := "fillInStackTrace", desc := "()Ljava/lang/Throwable;" } : Jvm.MethodName) ({ cls := "java/lang/Throwable", name := "fillInStackTrace", desc := "()Ljava/lang/Throwable;" } : Jvm.MethodName)) ∈ x_Wd := x_in2 (i := 52) rfl rfl
theorem q_293 : (Cond.selects "java/util/NoSuchElementException" ({ cls := "java/lang/Throwable", name := "fillInStackTrace", desc := "()Ljava/lang/Throwable;" } : Jvm.MethodName) ({ cls := "java/lang/Throwable", name := "fillInStackTrace", desc := "()Ljava/lang/Throwable;" } : Jvm.MethodName)) ∈ x_Wd := x_in2 (i := 53) rfl rfl
theorem q_294 : (Cond.codeSync ({ cls := "java/lang/Throwable", name := "fillInStackTrace", desc := "()Ljava/lang/Throwable;" } : Jvm.MethodName) prog_19_method_18_code (1 : Nat) (Option.some (Jvm.ClassFile.FieldType.object "java/lang/Throwable"))) ∈ x_Wd := x_in2 (i := 54) rfl rfl
theorem q_295 : (Cond.methodLink "java/lang/Throwable" (202 : Nat) ({ cls := "java/lang/Throwable", name := "fillInStackTrace", desc := "(I)Ljava/lang/Throwable;" } : Jvm.MethodName)) ∈ x_Wd := x_in2 (i := 55) rfl rfl
theorem q_297 : (Cond.instanceMethod ({ cls := "java/lang/Throwable", name := "fillInStackTrace", desc := "(I)Ljava/lang/Throwable;" } : Jvm.MethodName)) ∈ x_Wd := x_in2 (i := 57) rfl rfl
theorem q_298 : (Cond.instantiable "java/lang/Throwable" (6 : Nat)) ∈ x_Wd := x_in2 (i := 58) rfl rfl
theorem q_299 : (Cond.native ({ cls := "java/lang/Throwable", name := "fillInStackTrace", desc := "(I)Ljava/lang/Throwable;" } : Jvm.MethodName)) ∈ x_Wd := x_in2 (i := 59) rfl rfl
theorem q_301 : (Cond.methodLink "CheckedMachine" (44 : Nat) ({ cls := "java/lang/IllegalArgumentException", name := "<init>", desc := "(Ljava/lang/String;)V" } : Jvm.MethodName)) ∈ x_Wd := x_in2 (i := 61) rfl rfl
theorem q_302 : (Cond.instanceMethod ({ cls := "java/lang/IllegalArgumentException", name := "<init>", desc := "(Ljava/lang/String;)V" } : Jvm.MethodName)) ∈ x_Wd := x_in2 (i := 62) rfl rfl
theorem q_303 : (Cond.code ({ cls := "java/lang/IllegalArgumentException", name := "<init>", desc := "(Ljava/lang/String;)V" } : Jvm.MethodName) prog_13_method_2_code (2 : Nat) (Option.none : Option Jvm.ClassFile.FieldType)) ∈ x_Wd := x_in2 (i := 63) rfl rfl
theorem q_304 : (Cond.methodLink "java/lang/IllegalArgumentException" (7 : Nat) ({ cls := "java/lang/RuntimeException", name := "<init>", desc := "(Ljava/lang/String;)V" } : Jvm.MethodName)) ∈ x_Wd := x_in2 (i := 64) rfl rfl
theorem q_305 : (Cond.instanceMethod ({ cls := "java/lang/RuntimeException", name := "<init>", desc := "(Ljava/lang/String;)V" } : Jvm.MethodName)) ∈ x_Wd := x_in2 (i := 65) rfl rfl
theorem q_306 : (Cond.code ({ cls := "java/lang/RuntimeException", name := "<init>", desc := "(Ljava/lang/String;)V" } : Jvm.MethodName) prog_16_method_2_code (2 : Nat) (Option.none : Option Jvm.ClassFile.FieldType)) ∈ x_Wd := x_in2 (i := 66) rfl rfl
theorem q_307 : (Cond.methodLink "java/lang/RuntimeException" (7 : Nat) ({ cls := "java/lang/Exception", name := "<init>", desc := "(Ljava/lang/String;)V" } : Jvm.MethodName)) ∈ x_Wd := x_in2 (i := 67) rfl rfl
theorem q_308 : (Cond.instanceMethod ({ cls := "java/lang/Exception", name := "<init>", desc := "(Ljava/lang/String;)V" } : Jvm.MethodName)) ∈ x_Wd := x_in2 (i := 68) rfl rfl
theorem q_309 : (Cond.code ({ cls := "java/lang/Exception", name := "<init>", desc := "(Ljava/lang/String;)V" } : Jvm.MethodName) prog_12_method_2_code (2 : Nat) (Option.none : Option Jvm.ClassFile.FieldType)) ∈ x_Wd := x_in2 (i := 69) rfl rfl
theorem q_310 : (Cond.methodLink "java/lang/Exception" (7 : Nat) ({ cls := "java/lang/Throwable", name := "<init>", desc := "(Ljava/lang/String;)V" } : Jvm.MethodName)) ∈ x_Wd := x_in2 (i := 70) rfl rfl
theorem q_311 : (Cond.instanceMethod ({ cls := "java/lang/Throwable", name := "<init>", desc := "(Ljava/lang/String;)V" } : Jvm.MethodName)) ∈ x_Wd := x_in2 (i := 71) rfl rfl
theorem q_312 : (Cond.code ({ cls := "java/lang/Throwable", name := "<init>", desc := "(Ljava/lang/String;)V" } : Jvm.MethodName) prog_19_method_2_code (2 : Nat) (Option.none : Option Jvm.ClassFile.FieldType)) ∈ x_Wd := x_in2 (i := 72) rfl rfl
theorem q_313 : (Cond.fieldLink "java/lang/Throwable" (198 : Nat) "java/lang/Throwable" "backtrace" "Ljava/lang/Object;") ∈ x_Wd := x_in2 (i := 73) rfl rfl
theorem q_314 : (Cond.fieldLink "java/lang/Throwable" (31 : Nat) "java/lang/Throwable" "detailMessage" "Ljava/lang/String;") ∈ x_Wd := x_in2 (i := 74) rfl rfl
theorem q_315 : (Cond.fieldLink "java/lang/Throwable" (7 : Nat) "java/lang/Throwable" "cause" "Ljava/lang/Throwable;") ∈ x_Wd := x_in2 (i := 75) rfl rfl
theorem q_316 : (Cond.fieldLink "java/lang/Throwable" (17 : Nat) "java/lang/Throwable" "stackTrace" "[Ljava/lang/StackTraceElement;") ∈ x_Wd := x_in2 (i := 76) rfl rfl
theorem q_317 : (Cond.fieldLink "java/lang/Throwable" (24 : Nat) "java/lang/Throwable" "suppressedExceptions" "Ljava/util/List;") ∈ x_Wd := x_in2 (i := 77) rfl rfl
theorem q_318 : (Cond.soleField "java/lang/Throwable" "backtrace") ∈ x_Wd := x_in2 (i := 78) rfl rfl
theorem q_319 : (Cond.soleField "java/lang/Throwable" "detailMessage") ∈ x_Wd := x_in2 (i := 79) rfl rfl
theorem q_320 : (Cond.soleField "java/lang/Throwable" "cause") ∈ x_Wd := x_in2 (i := 80) rfl rfl
theorem q_321 : (Cond.soleField "java/lang/Throwable" "stackTrace") ∈ x_Wd := x_in2 (i := 81) rfl rfl
theorem q_322 : (Cond.lays "java/lang/IllegalArgumentException" "java/lang/Throwable" "depth" "I") ∈ x_Wd := x_in2 (i := 82) rfl rfl
theorem q_323 : (Cond.soleField "java/lang/Throwable" "depth") ∈ x_Wd := x_in2 (i := 83) rfl rfl
theorem q_324 : (Cond.soleField "java/lang/Throwable" "suppressedExceptions") ∈ x_Wd := x_in2 (i := 84) rfl rfl
theorem q_325 : (Cond.superclass "java/lang/IllegalArgumentException" "java/lang/RuntimeException") ∈ x_Wd := x_in2 (i := 85) rfl rfl
theorem q_326 : (Cond.arrayClass Jvm.ClassFile.FieldType.byte) ∈ x_Wd := x_in2 (i := 86) rfl rfl
theorem q_327 : (Cond.classLink "CheckedMachine" (51 : Nat) "java/lang/IllegalStateException") ∈ x_Wd := x_in2 (i := 87) rfl rfl
theorem q_328 : (Cond.instantiable "java/lang/IllegalStateException" (6 : Nat)) ∈ x_Wd := x_in2 (i := 88) rfl rfl
theorem q_330 : (Cond.selects "java/lang/IllegalStateException" ({ cls := "java/lang/Throwable", name := "fillInStackTrace", desc := "(I)Ljava/lang/Throwable;" } : Jvm.MethodName) ({ cls := "java/lang/Throwable", name := "fillInStackTrace", desc := "(I)Ljava/lang/Throwable;" } : Jvm.MethodName)) ∈ x_Wd := x_in2 (i := 90) rfl rfl
theorem q_331 : (Cond.lays "java/lang/IllegalStateException" "java/lang/Throwable" "cause" "Ljava/lang/Throwable;") ∈ x_Wd := x_in2 (i := 91) rfl rfl
theorem q_332 : (Cond.lays "java/lang/IllegalStateException" "java/lang/Throwable" "stackTrace" "[Ljava/lang/StackTraceElement;") ∈ x_Wd := x_in2 (i := 92) rfl rfl
theorem q_333 : (Cond.lays "java/lang/IllegalStateException" "java/lang/Throwable" "suppressedExceptions" "Ljava/util/List;") ∈ x_Wd := x_in2 (i := 93) rfl rfl
theorem q_334 : (Cond.lays "java/lang/IllegalStateException" "java/lang/Throwable" "detailMessage" "Ljava/lang/String;") ∈ x_Wd := x_in2 (i := 94) rfl rfl
theorem q_335 : (Cond.lays "java/lang/IllegalStateException" "java/lang/Throwable" "backtrace" "Ljava/lang/Object;") ∈ x_Wd := x_in2 (i := 95) rfl rfl
theorem q_337 : (Cond.methodLink "CheckedMachine" (55 : Nat) ({ cls := "java/lang/IllegalStateException", name := "<init>", desc := "(Ljava/lang/String;)V" } : Jvm.MethodName)) ∈ x_Wd := x_in2 (i := 97) rfl rfl
theorem q_338 : (Cond.instanceMethod ({ cls := "java/lang/IllegalStateException", name := "<init>", desc := "(Ljava/lang/String;)V" } : Jvm.MethodName)) ∈ x_Wd := x_in2 (i := 98) rfl rfl
theorem q_339 : (Cond.code ({ cls := "java/lang/IllegalStateException", name := "<init>", desc := "(Ljava/lang/String;)V" } : Jvm.MethodName) prog_14_method_2_code (2 : Nat) (Option.none : Option Jvm.ClassFile.FieldType)) ∈ x_Wd := x_in2 (i := 99) rfl rfl
theorem q_340 : (Cond.methodLink "java/lang/IllegalStateException" (7 : Nat) ({ cls := "java/lang/RuntimeException", name := "<init>", desc := "(Ljava/lang/String;)V" } : Jvm.MethodName)) ∈ x_Wd := x_in2 (i := 100) rfl rfl
theorem q_341 : (Cond.lays "java/lang/IllegalStateException" "java/lang/Throwable" "depth" "I") ∈ x_Wd := x_in2 (i := 101) rfl rfl
theorem q_342 : (Cond.superclass "java/lang/IllegalStateException" "java/lang/RuntimeException") ∈ x_Wd := x_in2 (i := 102) rfl rfl
theorem q_343 : (Cond.methodLink "CheckedMachine" (56 : Nat) ({ cls := "CheckedMachine$Program", name := "grow", desc := "()I" } : Jvm.MethodName)) ∈ x_Wd := x_in2 (i := 103) rfl rfl
theorem q_344 : (Cond.instanceMethod ({ cls := "CheckedMachine$Program", name := "grow", desc := "()I" } : Jvm.MethodName)) ∈ x_Wd := x_in2 (i := 104) rfl rfl
theorem q_345 : (Cond.selects "CheckedMachine$Program" ({ cls := "CheckedMachine$Program", name := "grow", desc := "()I" } : Jvm.MethodName) ({ cls := "CheckedMachine$Program", name := "grow", desc := "()I" } : Jvm.MethodName)) ∈ x_Wd := x_in2 (i := 105) rfl rfl
theorem q_346 : (Cond.code ({ cls := "CheckedMachine$Program", name := "grow", desc := "()I" } : Jvm.MethodName) prog_7_method_5_code (1 : Nat) (Option.some Jvm.ClassFile.FieldType.int)) ∈ x_Wd := x_in2 (i := 106) rfl rfl
theorem q_347 : (Cond.methodLink "CheckedMachine" (59 : Nat) ({ cls := "CheckedMachine$Program", name := "write", desc := "(IIIIII)V" } : Jvm.MethodName)) ∈ x_Wd := x_in2 (i := 107) rfl rfl
theorem q_348 : (Cond.instanceMethod ({ cls := "CheckedMachine$Program", name := "write", desc := "(IIIIII)V" } : Jvm.MethodName)) ∈ x_Wd := x_in2 (i := 108) rfl rfl
theorem q_349 : (Cond.selects "CheckedMachine$Program" ({ cls := "CheckedMachine$Program", name := "write", desc := "(IIIIII)V" } : Jvm.MethodName) ({ cls := "CheckedMachine$Program", name := "write", desc := "(IIIIII)V" } : Jvm.MethodName)) ∈ x_Wd := x_in2 (i := 109) rfl rfl
theorem q_350 : (Cond.code ({ cls := "CheckedMachine$Program", name := "write", desc := "(IIIIII)V" } : Jvm.MethodName) prog_7_method_7_code (8 : Nat) (Option.none : Option Jvm.ClassFile.FieldType)) ∈ x_Wd := x_in2 (i := 110) rfl rfl
theorem q_351 : (Cond.methodLink "CheckedMachine$Program" (26 : Nat) ({ cls := "CheckedMachine$Program", name := "stepAt", desc := "(I)LCheckedMachine$Step;" } : Jvm.MethodName)) ∈ x_Wd := x_in2 (i := 111) rfl rfl
theorem q_352 : (Cond.instanceMethod ({ cls := "CheckedMachine$Program", name := "stepAt", desc := "(I)LCheckedMachine$Step;" } : Jvm.MethodName)) ∈ x_Wd := x_in2 (i := 112) rfl rfl
theorem q_353 : (Cond.selects "CheckedMachine$Program" ({ cls := "CheckedMachine$Program", name := "stepAt", desc := "(I)LCheckedMachine$Step;" } : Jvm.MethodName) ({ cls := "CheckedMachine$Program", name := "stepAt", desc := "(I)LCheckedMachine$Step;" } : Jvm.MethodName)) ∈ x_Wd := x_in2 (i := 113) rfl rfl
theorem q_354 : (Cond.code ({ cls := "CheckedMachine$Program", name := "stepAt", desc := "(I)LCheckedMachine$Step;" } : Jvm.MethodName) prog_7_method_8_code (2 : Nat) (Option.some (Jvm.ClassFile.FieldType.object "CheckedMachine$Step"))) ∈ x_Wd := x_in2 (i := 114) rfl rfl
theorem q_355 : (Cond.methodLink "CheckedMachineLaw" (62 : Nat) ({ cls := "CheckedMachineLaw", name := "put", desc := "(LCheckedMachine;IIIIII)I" } : Jvm.MethodName)) ∈ x_Wd := x_in2 (i := 115) rfl rfl
theorem q_356 : (Cond.static ({ cls := "CheckedMachineLaw", name := "put", desc := "(LCheckedMachine;IIIIII)I" } : Jvm.MethodName)) ∈ x_Wd := x_in2 (i := 116) rfl rfl
theorem q_357 : (Cond.codeWith ({ cls := "CheckedMachineLaw", name := "put", desc := "(LCheckedMachine;IIIIII)I" } : Jvm.MethodName) method_4_code (8 : Nat) (Option.some Jvm.ClassFile.FieldType.int) [((0 : Nat), (13 : Nat), (16 : Nat), (13 : Nat)), ((0 : Nat), (13 : Nat), (20 : Nat), (21 : Nat))]) ∈ x_Wd := x_in2 (i := 117) rfl rfl
theorem q_358 : (Cond.classLink "CheckedMachineLaw" (21 : Nat) "java/util/NoSuchElementException") ∈ x_Wd := x_in2 (i := 118) rfl rfl
theorem q_359 : (Cond.methodLink "CheckedMachineLaw" (17 : Nat) ({ cls := "CheckedMachine", name := "put", desc := "(IIIIII)V" } : Jvm.MethodName)) ∈ x_Wd := x_in2 (i := 119) rfl rfl
theorem q_360 : (Cond.instanceMethod ({ cls := "CheckedMachine", name := "put", desc := "(IIIIII)V" } : Jvm.MethodName)) ∈ x_Wd := x_in2 (i := 120) rfl rfl
theorem q_361 : (Cond.selects "CheckedMachine" ({ cls := "CheckedMachine", name := "put", desc := "(IIIIII)V" } : Jvm.MethodName) ({ cls := "CheckedMachine", name := "put", desc := "(IIIIII)V" } : Jvm.MethodName)) ∈ x_Wd := x_in2 (i := 121) rfl rfl
theorem q_362 : (Cond.code ({ cls := "CheckedMachine", name := "put", desc := "(IIIIII)V" } : Jvm.MethodName) prog_1_method_3_code (7 : Nat) (Option.none : Option Jvm.ClassFile.FieldType)) ∈ x_Wd := x_in2 (i := 122) rfl rfl
theorem q_363 : (Cond.classLink "CheckedMachine" (63 : Nat) "java/util/NoSuchElementException") ∈ x_Wd := x_in2 (i := 123) rfl rfl
theorem q_364 : (Cond.instantiable "java/util/NoSuchElementException" (6 : Nat)) ∈ x_Wd := x_in2 (i := 124) rfl rfl
theorem q_366 : (Cond.selects "java/util/NoSuchElementException" ({ cls := "java/lang/Throwable", name := "fillInStackTrace", desc := "(I)Ljava/lang/Throwable;" } : Jvm.MethodName) ({ cls := "java/lang/Throwable", name := "fillInStackTrace", desc := "(I)Ljava/lang/Throwable;" } : Jvm.MethodName)) ∈ x_Wd := x_in2 (i := 126) rfl rfl
theorem q_367 : (Cond.lays "java/util/NoSuchElementException" "java/lang/Throwable" "cause" "Ljava/lang/Throwable;") ∈ x_Wd := x_in2 (i := 127) rfl rfl
theorem q_368 : (Cond.lays "java/util/NoSuchElementException" "java/lang/Throwable" "stackTrace" "[Ljava/lang/StackTraceElement;") ∈ x_Wd := x_in2 (i := 128) rfl rfl
theorem q_369 : (Cond.lays "java/util/NoSuchElementException" "java/lang/Throwable" "suppressedExceptions" "Ljava/util/List;") ∈ x_Wd := x_in2 (i := 129) rfl rfl
theorem q_370 : (Cond.lays "java/util/NoSuchElementException" "java/lang/Throwable" "detailMessage" "Ljava/lang/String;") ∈ x_Wd := x_in2 (i := 130) rfl rfl
theorem q_371 : (Cond.lays "java/util/NoSuchElementException" "java/lang/Throwable" "backtrace" "Ljava/lang/Object;") ∈ x_Wd := x_in2 (i := 131) rfl rfl
theorem q_373 : (Cond.methodLink "CheckedMachine" (67 : Nat) ({ cls := "java/util/NoSuchElementException", name := "<init>", desc := "(Ljava/lang/String;)V" } : Jvm.MethodName)) ∈ x_Wd := x_in2 (i := 133) rfl rfl
theorem q_374 : (Cond.instanceMethod ({ cls := "java/util/NoSuchElementException", name := "<init>", desc := "(Ljava/lang/String;)V" } : Jvm.MethodName)) ∈ x_Wd := x_in2 (i := 134) rfl rfl
theorem q_375 : (Cond.code ({ cls := "java/util/NoSuchElementException", name := "<init>", desc := "(Ljava/lang/String;)V" } : Jvm.MethodName) prog_21_method_4_code (2 : Nat) (Option.none : Option Jvm.ClassFile.FieldType)) ∈ x_Wd := x_in2 (i := 135) rfl rfl
theorem q_376 : (Cond.methodLink "java/util/NoSuchElementException" (13 : Nat) ({ cls := "java/lang/RuntimeException", name := "<init>", desc := "(Ljava/lang/String;)V" } : Jvm.MethodName)) ∈ x_Wd := x_in2 (i := 136) rfl rfl
theorem q_377 : (Cond.lays "java/util/NoSuchElementException" "java/lang/Throwable" "depth" "I") ∈ x_Wd := x_in2 (i := 137) rfl rfl
theorem q_378 : (Cond.superclass "java/util/NoSuchElementException" "java/lang/RuntimeException") ∈ x_Wd := x_in2 (i := 138) rfl rfl
theorem q_379 : (Cond.methodLink "CheckedMachineLaw" (66 : Nat) ({ cls := "CheckedMachineLaw", name := "cut", desc := "(LCheckedMachine;I)I" } : Jvm.MethodName)) ∈ x_Wd := x_in2 (i := 139) rfl rfl
theorem q_380 : (Cond.static ({ cls := "CheckedMachineLaw", name := "cut", desc := "(LCheckedMachine;I)I" } : Jvm.MethodName)) ∈ x_Wd := x_in2 (i := 140) rfl rfl
theorem q_381 : (Cond.codeWith ({ cls := "CheckedMachineLaw", name := "cut", desc := "(LCheckedMachine;I)I" } : Jvm.MethodName) method_5_code (3 : Nat) (Option.some Jvm.ClassFile.FieldType.int) [((0 : Nat), (5 : Nat), (8 : Nat), (13 : Nat))]) ∈ x_Wd := x_in2 (i := 141) rfl rfl
theorem q_382 : (Cond.methodLink "CheckedMachineLaw" (23 : Nat) ({ cls := "CheckedMachine", name := "cut", desc := "(I)V" } : Jvm.MethodName)) ∈ x_Wd := x_in2 (i := 142) rfl rfl
theorem q_383 : (Cond.instanceMethod ({ cls := "CheckedMachine", name := "cut", desc := "(I)V" } : Jvm.MethodName)) ∈ x_Wd := x_in2 (i := 143) rfl rfl
theorem q_384 : (Cond.selects "CheckedMachine" ({ cls := "CheckedMachine", name := "cut", desc := "(I)V" } : Jvm.MethodName) ({ cls := "CheckedMachine", name := "cut", desc := "(I)V" } : Jvm.MethodName)) ∈ x_Wd := x_in2 (i := 144) rfl rfl
theorem q_385 : (Cond.code ({ cls := "CheckedMachine", name := "cut", desc := "(I)V" } : Jvm.MethodName) prog_1_method_4_code (2 : Nat) (Option.none : Option Jvm.ClassFile.FieldType)) ∈ x_Wd := x_in2 (i := 145) rfl rfl
theorem q_387 : (Cond.methodLink "CheckedMachine" (70 : Nat) ({ cls := "CheckedMachine$Program", name := "shorten", desc := "(I)V" } : Jvm.MethodName)) ∈ x_Wd := x_in2 (i := 147) rfl rfl
theorem q_388 : (Cond.instanceMethod ({ cls := "CheckedMachine$Program", name := "shorten", desc := "(I)V" } : Jvm.MethodName)) ∈ x_Wd := x_in2 (i := 148) rfl rfl
theorem q_389 : (Cond.selects "CheckedMachine$Program" ({ cls := "CheckedMachine$Program", name := "shorten", desc := "(I)V" } : Jvm.MethodName) ({ cls := "CheckedMachine$Program", name := "shorten", desc := "(I)V" } : Jvm.MethodName)) ∈ x_Wd := x_in2 (i := 149) rfl rfl
theorem q_390 : (Cond.code ({ cls := "CheckedMachine$Program", name := "shorten", desc := "(I)V" } : Jvm.MethodName) prog_7_method_6_code (2 : Nat) (Option.none : Option Jvm.ClassFile.FieldType)) ∈ x_Wd := x_in2 (i := 150) rfl rfl
theorem q_391 : (Cond.methodLink "CheckedMachineLaw" (70 : Nat) ({ cls := "CheckedMachineLaw", name := "check", desc := "(LCheckedMachine;[J)I" } : Jvm.MethodName)) ∈ x_Wd := x_in2 (i := 151) rfl rfl
theorem q_392 : (Cond.static ({ cls := "CheckedMachineLaw", name := "check", desc := "(LCheckedMachine;[J)I" } : Jvm.MethodName)) ∈ x_Wd := x_in2 (i := 152) rfl rfl
theorem q_393 : (Cond.codeWith ({ cls := "CheckedMachineLaw", name := "check", desc := "(LCheckedMachine;[J)I" } : Jvm.MethodName) method_6_code (3 : Nat) (Option.some Jvm.ClassFile.FieldType.int) [((0 : Nat), (8 : Nat), (11 : Nat), (13 : Nat)), ((0 : Nat), (8 : Nat), (14 : Nat), (31 : Nat))]) ∈ x_Wd := x_in2 (i := 153) rfl rfl
theorem q_394 : (Cond.classLink "CheckedMachineLaw" (31 : Nat) "java/lang/UnsupportedOperationException") ∈ x_Wd := x_in2 (i := 154) rfl rfl
theorem q_395 : (Cond.methodLink "CheckedMachineLaw" (27 : Nat) ({ cls := "CheckedMachine", name := "check", desc := "()I" } : Jvm.MethodName)) ∈ x_Wd := x_in2 (i := 155) rfl rfl
theorem q_396 : (Cond.instanceMethod ({ cls := "CheckedMachine", name := "check", desc := "()I" } : Jvm.MethodName)) ∈ x_Wd := x_in2 (i := 156) rfl rfl
theorem q_397 : (Cond.selects "CheckedMachine" ({ cls := "CheckedMachine", name := "check", desc := "()I" } : Jvm.MethodName) ({ cls := "CheckedMachine", name := "check", desc := "()I" } : Jvm.MethodName)) ∈ x_Wd := x_in2 (i := 157) rfl rfl
theorem q_398 : (Cond.code ({ cls := "CheckedMachine", name := "check", desc := "()I" } : Jvm.MethodName) prog_1_method_5_code (2 : Nat) (Option.some Jvm.ClassFile.FieldType.int)) ∈ x_Wd := x_in2 (i := 158) rfl rfl
theorem q_399 : (Cond.methodLink "CheckedMachine" (74 : Nat) ({ cls := "CheckedMachine$Checker", name := "goDownAllWays", desc := "()I" } : Jvm.MethodName)) ∈ x_Wd := x_in2 (i := 159) rfl rfl
theorem q_400 : (Cond.instanceMethod ({ cls := "CheckedMachine$Checker", name := "goDownAllWays", desc := "()I" } : Jvm.MethodName)) ∈ x_Wd := x_in2 (i := 160) rfl rfl
theorem q_401 : (Cond.selects "CheckedMachine$Checker" ({ cls := "CheckedMachine$Checker", name := "goDownAllWays", desc := "()I" } : Jvm.MethodName) ({ cls := "CheckedMachine$Checker", name := "goDownAllWays", desc := "()I" } : Jvm.MethodName)) ∈ x_Wd := x_in2 (i := 161) rfl rfl
theorem q_402 : (Cond.code ({ cls := "CheckedMachine$Checker", name := "goDownAllWays", desc := "()I" } : Jvm.MethodName) prog_2_method_7_code (3 : Nat) (Option.some Jvm.ClassFile.FieldType.int)) ∈ x_Wd := x_in2 (i := 162) rfl rfl
theorem q_403 : (Cond.methodLink "CheckedMachine$Checker" (65 : Nat) ({ cls := "CheckedMachine$Checker", name := "begin", desc := "()V" } : Jvm.MethodName)) ∈ x_Wd := x_in2 (i := 163) rfl rfl
theorem q_405 : (Cond.instanceMethod ({ cls := "CheckedMachine$Checker", name := "begin", desc := "()V" } : Jvm.MethodName)) ∈ x_Wd := x_in2 (i := 165) rfl rfl
theorem q_406 : (Cond.code ({ cls := "CheckedMachine$Checker", name := "begin", desc := "()V" } : Jvm.MethodName) prog_2_method_8_code (2 : Nat) (Option.none : Option Jvm.ClassFile.FieldType)) ∈ x_Wd := x_in2 (i := 166) rfl rfl
theorem q_407 : (Cond.methodLink "CheckedMachine$Checker" (75 : Nat) ({ cls := "CheckedMachine$Guesses", name := "begin", desc := "()V" } : Jvm.MethodName)) ∈ x_Wd := x_in2 (i := 167) rfl rfl
theorem q_408 : (Cond.instanceMethod ({ cls := "CheckedMachine$Guesses", name := "begin", desc := "()V" } : Jvm.MethodName)) ∈ x_Wd := x_in2 (i := 168) rfl rfl
theorem q_409 : (Cond.selects "CheckedMachine$Guesses" ({ cls := "CheckedMachine$Guesses", name := "begin", desc := "()V" } : Jvm.MethodName) ({ cls := "CheckedMachine$Guesses", name := "begin", desc := "()V" } : Jvm.MethodName)) ∈ x_Wd := x_in2 (i := 169) rfl rfl
theorem q_410 : (Cond.code ({ cls := "CheckedMachine$Guesses", name := "begin", desc := "()V" } : Jvm.MethodName) prog_5_method_2_code (2 : Nat) (Option.none : Option Jvm.ClassFile.FieldType)) ∈ x_Wd := x_in2 (i := 170) rfl rfl
theorem q_411 : (Cond.methodLink "CheckedMachine$Guesses" (22 : Nat) ({ cls := "CheckedMachine$Guesses", name := "clear", desc := "(I)V" } : Jvm.MethodName)) ∈ x_Wd := x_in2 (i := 171) rfl rfl
theorem q_412 : (Cond.instanceMethod ({ cls := "CheckedMachine$Guesses", name := "clear", desc := "(I)V" } : Jvm.MethodName)) ∈ x_Wd := x_in2 (i := 172) rfl rfl
theorem q_413 : (Cond.selects "CheckedMachine$Guesses" ({ cls := "CheckedMachine$Guesses", name := "clear", desc := "(I)V" } : Jvm.MethodName) ({ cls := "CheckedMachine$Guesses", name := "clear", desc := "(I)V" } : Jvm.MethodName)) ∈ x_Wd := x_in2 (i := 173) rfl rfl
theorem q_414 : (Cond.code ({ cls := "CheckedMachine$Guesses", name := "clear", desc := "(I)V" } : Jvm.MethodName) prog_5_method_13_code (2 : Nat) (Option.none : Option Jvm.ClassFile.FieldType)) ∈ x_Wd := x_in2 (i := 174) rfl rfl
theorem q_415 : (Cond.methodLink "CheckedMachine$Guesses" (29 : Nat) ({ cls := "CheckedMachine$Guesses", name := "set", desc := "(IIJJ)V" } : Jvm.MethodName)) ∈ x_Wd := x_in2 (i := 175) rfl rfl
theorem q_416 : (Cond.instanceMethod ({ cls := "CheckedMachine$Guesses", name := "set", desc := "(IIJJ)V" } : Jvm.MethodName)) ∈ x_Wd := x_in2 (i := 176) rfl rfl
theorem q_417 : (Cond.selects "CheckedMachine$Guesses" ({ cls := "CheckedMachine$Guesses", name := "set", desc := "(IIJJ)V" } : Jvm.MethodName) ({ cls := "CheckedMachine$Guesses", name := "set", desc := "(IIJJ)V" } : Jvm.MethodName)) ∈ x_Wd := x_in2 (i := 177) rfl rfl
theorem q_418 : (Cond.code ({ cls := "CheckedMachine$Guesses", name := "set", desc := "(IIJJ)V" } : Jvm.MethodName) prog_5_method_10_code (7 : Nat) (Option.none : Option Jvm.ClassFile.FieldType)) ∈ x_Wd := x_in2 (i := 178) rfl rfl
theorem q_419 : (Cond.methodLink "CheckedMachine$Guesses" (26 : Nat) ({ cls := "CheckedMachine$Guesses", name := "setAny", desc := "(I)V" } : Jvm.MethodName)) ∈ x_Wd := x_in2 (i := 179) rfl rfl
theorem q_420 : (Cond.instanceMethod ({ cls := "CheckedMachine$Guesses", name := "setAny", desc := "(I)V" } : Jvm.MethodName)) ∈ x_Wd := x_in2 (i := 180) rfl rfl
theorem q_421 : (Cond.selects "CheckedMachine$Guesses" ({ cls := "CheckedMachine$Guesses", name := "setAny", desc := "(I)V" } : Jvm.MethodName) ({ cls := "CheckedMachine$Guesses", name := "setAny", desc := "(I)V" } : Jvm.MethodName)) ∈ x_Wd := x_in2 (i := 181) rfl rfl
theorem q_422 : (Cond.code ({ cls := "CheckedMachine$Guesses", name := "setAny", desc := "(I)V" } : Jvm.MethodName) prog_5_method_12_code (2 : Nat) (Option.none : Option Jvm.ClassFile.FieldType)) ∈ x_Wd := x_in2 (i := 182) rfl rfl
theorem q_423 : (Cond.constantLong "CheckedMachine$Guesses" (41 : Nat) (-9223372036854775808 : Int64)) ∈ x_Wd := x_in2 (i := 183) rfl rfl
theorem q_424 : (Cond.constantLong "CheckedMachine$Guesses" (43 : Nat) (9223372036854775807 : Int64)) ∈ x_Wd := x_in2 (i := 184) rfl rfl
theorem q_425 : (Cond.methodLink "CheckedMachine$Checker" (68 : Nat) ({ cls := "CheckedMachine$Checker", name := "lookAt", desc := "(I)I" } : Jvm.MethodName)) ∈ x_Wd := x_in2 (i := 185) rfl rfl
theorem q_427 : (Cond.instanceMethod ({ cls := "CheckedMachine$Checker", name := "lookAt", desc := "(I)I" } : Jvm.MethodName)) ∈ x_Wd := x_in2 (i := 187) rfl rfl
theorem q_428 : (Cond.code ({ cls := "CheckedMachine$Checker", name := "lookAt", desc := "(I)I" } : Jvm.MethodName) prog_2_method_9_code (4 : Nat) (Option.some Jvm.ClassFile.FieldType.int)) ∈ x_Wd := x_in2 (i := 188) rfl rfl
theorem q_429 : (Cond.methodLink "CheckedMachine$Checker" (80 : Nat) ({ cls := "CheckedMachine$Program", name := "stepAt", desc := "(I)LCheckedMachine$Step;" } : Jvm.MethodName)) ∈ x_Wd := x_in2 (i := 189) rfl rfl
theorem q_430 : (Cond.methodLink "CheckedMachine$Checker" (86 : Nat) ({ cls := "CheckedMachine$Judge", name := "reasonAgainst", desc := "(LCheckedMachine$Step;I)I" } : Jvm.MethodName)) ∈ x_Wd := x_in2 (i := 190) rfl rfl
theorem q_431 : (Cond.instanceMethod ({ cls := "CheckedMachine$Judge", name := "reasonAgainst", desc := "(LCheckedMachine$Step;I)I" } : Jvm.MethodName)) ∈ x_Wd := x_in2 (i := 191) rfl rfl
theorem q_432 : (Cond.selects "CheckedMachine$Judge" ({ cls := "CheckedMachine$Judge", name := "reasonAgainst", desc := "(LCheckedMachine$Step;I)I" } : Jvm.MethodName) ({ cls := "CheckedMachine$Judge", name := "reasonAgainst", desc := "(LCheckedMachine$Step;I)I" } : Jvm.MethodName)) ∈ x_Wd := x_in2 (i := 192) rfl rfl
theorem q_433 : (Cond.code ({ cls := "CheckedMachine$Judge", name := "reasonAgainst", desc := "(LCheckedMachine$Step;I)I" } : Jvm.MethodName) prog_6_method_2_code (3 : Nat) (Option.some Jvm.ClassFile.FieldType.int)) ∈ x_Wd := x_in2 (i := 193) rfl rfl
theorem q_434 : (Cond.methodLink "CheckedMachine$Judge" (19 : Nat) ({ cls := "CheckedMachine$Judge", name := "lacksTarget", desc := "(LCheckedMachine$Step;I)Z" } : Jvm.MethodName)) ∈ x_Wd := x_in2 (i := 194) rfl rfl
theorem q_436 : (Cond.instanceMethod ({ cls := "CheckedMachine$Judge", name := "lacksTarget", desc := "(LCheckedMachine$Step;I)Z" } : Jvm.MethodName)) ∈ x_Wd := x_in2 (i := 196) rfl rfl
theorem q_437 : (Cond.code ({ cls := "CheckedMachine$Judge", name := "lacksTarget", desc := "(LCheckedMachine$Step;I)Z" } : Jvm.MethodName) prog_6_method_3_code (3 : Nat) (Option.some Jvm.ClassFile.FieldType.boolean)) ∈ x_Wd := x_in2 (i := 197) rfl rfl
theorem q_438 : (Cond.methodLink "CheckedMachine$Judge" (45 : Nat) ({ cls := "CheckedMachine$Step", name := "mayJump", desc := "()Z" } : Jvm.MethodName)) ∈ x_Wd := x_in2 (i := 198) rfl rfl
theorem q_439 : (Cond.instanceMethod ({ cls := "CheckedMachine$Step", name := "mayJump", desc := "()Z" } : Jvm.MethodName)) ∈ x_Wd := x_in2 (i := 199) rfl rfl
theorem q_440 : (Cond.selects "CheckedMachine$Step" ({ cls := "CheckedMachine$Step", name := "mayJump", desc := "()Z" } : Jvm.MethodName) ({ cls := "CheckedMachine$Step", name := "mayJump", desc := "()Z" } : Jvm.MethodName)) ∈ x_Wd := x_in2 (i := 200) rfl rfl
theorem q_441 : (Cond.code ({ cls := "CheckedMachine$Step", name := "mayJump", desc := "()Z" } : Jvm.MethodName) prog_9_method_3_code (1 : Nat) (Option.some Jvm.ClassFile.FieldType.boolean)) ∈ x_Wd := x_in2 (i := 201) rfl rfl
theorem q_442 : (Cond.methodLink "CheckedMachine$Judge" (55 : Nat) ({ cls := "CheckedMachine$Program", name := "size", desc := "()I" } : Jvm.MethodName)) ∈ x_Wd := x_in2 (i := 202) rfl rfl
theorem q_443 : (Cond.methodLink "CheckedMachine$Judge" (23 : Nat) ({ cls := "CheckedMachine$Judge", name := "usesEmpty", desc := "(LCheckedMachine$Step;)Z" } : Jvm.MethodName)) ∈ x_Wd := x_in2 (i := 203) rfl rfl
theorem q_445 : (Cond.instanceMethod ({ cls := "CheckedMachine$Judge", name := "usesEmpty", desc := "(LCheckedMachine$Step;)Z" } : Jvm.MethodName)) ∈ x_Wd := x_in2 (i := 205) rfl rfl
theorem q_446 : (Cond.code ({ cls := "CheckedMachine$Judge", name := "usesEmpty", desc := "(LCheckedMachine$Step;)Z" } : Jvm.MethodName) prog_6_method_4_code (2 : Nat) (Option.some Jvm.ClassFile.FieldType.boolean)) ∈ x_Wd := x_in2 (i := 206) rfl rfl
theorem q_447 : (Cond.methodLink "CheckedMachine$Judge" (67 : Nat) ({ cls := "CheckedMachine$Guesses", name := "isEmpty", desc := "(I)Z" } : Jvm.MethodName)) ∈ x_Wd := x_in2 (i := 207) rfl rfl
theorem q_448 : (Cond.instanceMethod ({ cls := "CheckedMachine$Guesses", name := "isEmpty", desc := "(I)Z" } : Jvm.MethodName)) ∈ x_Wd := x_in2 (i := 208) rfl rfl
theorem q_449 : (Cond.selects "CheckedMachine$Guesses" ({ cls := "CheckedMachine$Guesses", name := "isEmpty", desc := "(I)Z" } : Jvm.MethodName) ({ cls := "CheckedMachine$Guesses", name := "isEmpty", desc := "(I)Z" } : Jvm.MethodName)) ∈ x_Wd := x_in2 (i := 209) rfl rfl
theorem q_450 : (Cond.code ({ cls := "CheckedMachine$Guesses", name := "isEmpty", desc := "(I)Z" } : Jvm.MethodName) prog_5_method_7_code (2 : Nat) (Option.some Jvm.ClassFile.FieldType.boolean)) ∈ x_Wd := x_in2 (i := 210) rfl rfl
theorem q_451 : (Cond.methodLink "CheckedMachine$Judge" (73 : Nat) ({ cls := "CheckedMachine$Step", name := "usesD", desc := "()Z" } : Jvm.MethodName)) ∈ x_Wd := x_in2 (i := 211) rfl rfl
theorem q_452 : (Cond.instanceMethod ({ cls := "CheckedMachine$Step", name := "usesD", desc := "()Z" } : Jvm.MethodName)) ∈ x_Wd := x_in2 (i := 212) rfl rfl
theorem q_453 : (Cond.selects "CheckedMachine$Step" ({ cls := "CheckedMachine$Step", name := "usesD", desc := "()Z" } : Jvm.MethodName) ({ cls := "CheckedMachine$Step", name := "usesD", desc := "()Z" } : Jvm.MethodName)) ∈ x_Wd := x_in2 (i := 213) rfl rfl
theorem q_454 : (Cond.code ({ cls := "CheckedMachine$Step", name := "usesD", desc := "()Z" } : Jvm.MethodName) prog_9_method_4_code (1 : Nat) (Option.some Jvm.ClassFile.FieldType.boolean)) ∈ x_Wd := x_in2 (i := 214) rfl rfl
theorem q_455 : (Cond.methodLink "CheckedMachine$Judge" (79 : Nat) ({ cls := "CheckedMachine$Step", name := "usesS", desc := "()Z" } : Jvm.MethodName)) ∈ x_Wd := x_in2 (i := 215) rfl rfl
theorem q_456 : (Cond.instanceMethod ({ cls := "CheckedMachine$Step", name := "usesS", desc := "()Z" } : Jvm.MethodName)) ∈ x_Wd := x_in2 (i := 216) rfl rfl
theorem q_457 : (Cond.selects "CheckedMachine$Step" ({ cls := "CheckedMachine$Step", name := "usesS", desc := "()Z" } : Jvm.MethodName) ({ cls := "CheckedMachine$Step", name := "usesS", desc := "()Z" } : Jvm.MethodName)) ∈ x_Wd := x_in2 (i := 217) rfl rfl
theorem q_458 : (Cond.code ({ cls := "CheckedMachine$Step", name := "usesS", desc := "()Z" } : Jvm.MethodName) prog_9_method_5_code (1 : Nat) (Option.some Jvm.ClassFile.FieldType.boolean)) ∈ x_Wd := x_in2 (i := 218) rfl rfl
theorem q_459 : (Cond.methodLink "CheckedMachine$Judge" (27 : Nat) ({ cls := "CheckedMachine$Judge", name := "hasBadNumber", desc := "(LCheckedMachine$Step;)Z" } : Jvm.MethodName)) ∈ x_Wd := x_in2 (i := 219) rfl rfl
theorem q_460 : (Cond.static ({ cls := "CheckedMachine$Judge", name := "hasBadNumber", desc := "(LCheckedMachine$Step;)Z" } : Jvm.MethodName)) ∈ x_Wd := x_in2 (i := 220) rfl rfl
theorem q_461 : (Cond.code ({ cls := "CheckedMachine$Judge", name := "hasBadNumber", desc := "(LCheckedMachine$Step;)Z" } : Jvm.MethodName) prog_6_method_5_code (1 : Nat) (Option.some Jvm.ClassFile.FieldType.boolean)) ∈ x_Wd := x_in2 (i := 221) rfl rfl
theorem q_462 : (Cond.methodLink "CheckedMachine$Judge" (30 : Nat) ({ cls := "CheckedMachine$Judge", name := "hasWrongKind", desc := "(LCheckedMachine$Step;)Z" } : Jvm.MethodName)) ∈ x_Wd := x_in2 (i := 222) rfl rfl
theorem q_464 : (Cond.instanceMethod ({ cls := "CheckedMachine$Judge", name := "hasWrongKind", desc := "(LCheckedMachine$Step;)Z" } : Jvm.MethodName)) ∈ x_Wd := x_in2 (i := 224) rfl rfl
theorem q_465 : (Cond.code ({ cls := "CheckedMachine$Judge", name := "hasWrongKind", desc := "(LCheckedMachine$Step;)Z" } : Jvm.MethodName) prog_6_method_6_code (2 : Nat) (Option.some Jvm.ClassFile.FieldType.boolean)) ∈ x_Wd := x_in2 (i := 225) rfl rfl
theorem q_466 : (Cond.methodLink "CheckedMachine$Judge" (85 : Nat) ({ cls := "CheckedMachine$Judge", name := "isRangeOrPlace", desc := "(I)Z" } : Jvm.MethodName)) ∈ x_Wd := x_in2 (i := 226) rfl rfl
theorem q_468 : (Cond.instanceMethod ({ cls := "CheckedMachine$Judge", name := "isRangeOrPlace", desc := "(I)Z" } : Jvm.MethodName)) ∈ x_Wd := x_in2 (i := 228) rfl rfl
theorem q_469 : (Cond.code ({ cls := "CheckedMachine$Judge", name := "isRangeOrPlace", desc := "(I)Z" } : Jvm.MethodName) prog_6_method_7_code (2 : Nat) (Option.some Jvm.ClassFile.FieldType.boolean)) ∈ x_Wd := x_in2 (i := 229) rfl rfl
theorem q_470 : (Cond.methodLink "CheckedMachine$Judge" (88 : Nat) ({ cls := "CheckedMachine$Guesses", name := "isRange", desc := "(I)Z" } : Jvm.MethodName)) ∈ x_Wd := x_in2 (i := 230) rfl rfl
theorem q_471 : (Cond.instanceMethod ({ cls := "CheckedMachine$Guesses", name := "isRange", desc := "(I)Z" } : Jvm.MethodName)) ∈ x_Wd := x_in2 (i := 231) rfl rfl
theorem q_472 : (Cond.selects "CheckedMachine$Guesses" ({ cls := "CheckedMachine$Guesses", name := "isRange", desc := "(I)Z" } : Jvm.MethodName) ({ cls := "CheckedMachine$Guesses", name := "isRange", desc := "(I)Z" } : Jvm.MethodName)) ∈ x_Wd := x_in2 (i := 232) rfl rfl
theorem q_473 : (Cond.code ({ cls := "CheckedMachine$Guesses", name := "isRange", desc := "(I)Z" } : Jvm.MethodName) prog_5_method_8_code (2 : Nat) (Option.some Jvm.ClassFile.FieldType.boolean)) ∈ x_Wd := x_in2 (i := 233) rfl rfl
theorem q_474 : (Cond.methodLink "CheckedMachine$Judge" (94 : Nat) ({ cls := "CheckedMachine$Guesses", name := "isPlace", desc := "(I)Z" } : Jvm.MethodName)) ∈ x_Wd := x_in2 (i := 234) rfl rfl
theorem q_475 : (Cond.instanceMethod ({ cls := "CheckedMachine$Guesses", name := "isPlace", desc := "(I)Z" } : Jvm.MethodName)) ∈ x_Wd := x_in2 (i := 235) rfl rfl
theorem q_476 : (Cond.selects "CheckedMachine$Guesses" ({ cls := "CheckedMachine$Guesses", name := "isPlace", desc := "(I)Z" } : Jvm.MethodName) ({ cls := "CheckedMachine$Guesses", name := "isPlace", desc := "(I)Z" } : Jvm.MethodName)) ∈ x_Wd := x_in2 (i := 236) rfl rfl
theorem q_477 : (Cond.code ({ cls := "CheckedMachine$Guesses", name := "isPlace", desc := "(I)Z" } : Jvm.MethodName) prog_5_method_9_code (2 : Nat) (Option.some Jvm.ClassFile.FieldType.boolean)) ∈ x_Wd := x_in2 (i := 237) rfl rfl
theorem q_478 : (Cond.methodLink "CheckedMachine$Judge" (91 : Nat) ({ cls := "CheckedMachine$Judge", name := "isMaybeMissing", desc := "(LCheckedMachine$Step;)Z" } : Jvm.MethodName)) ∈ x_Wd := x_in2 (i := 238) rfl rfl
theorem q_480 : (Cond.instanceMethod ({ cls := "CheckedMachine$Judge", name := "isMaybeMissing", desc := "(LCheckedMachine$Step;)Z" } : Jvm.MethodName)) ∈ x_Wd := x_in3 (i := 0) rfl rfl
theorem q_481 : (Cond.code ({ cls := "CheckedMachine$Judge", name := "isMaybeMissing", desc := "(LCheckedMachine$Step;)Z" } : Jvm.MethodName) prog_6_method_8_code (2 : Nat) (Option.some Jvm.ClassFile.FieldType.boolean)) ∈ x_Wd := x_in3 (i := 1) rfl rfl
theorem q_482 : (Cond.methodLink "CheckedMachine$Judge" (103 : Nat) ({ cls := "CheckedMachine$Guesses", name := "kind", desc := "(I)I" } : Jvm.MethodName)) ∈ x_Wd := x_in3 (i := 2) rfl rfl
theorem q_483 : (Cond.instanceMethod ({ cls := "CheckedMachine$Guesses", name := "kind", desc := "(I)I" } : Jvm.MethodName)) ∈ x_Wd := x_in3 (i := 3) rfl rfl
theorem q_484 : (Cond.selects "CheckedMachine$Guesses" ({ cls := "CheckedMachine$Guesses", name := "kind", desc := "(I)I" } : Jvm.MethodName) ({ cls := "CheckedMachine$Guesses", name := "kind", desc := "(I)I" } : Jvm.MethodName)) ∈ x_Wd := x_in3 (i := 4) rfl rfl
theorem q_485 : (Cond.code ({ cls := "CheckedMachine$Guesses", name := "kind", desc := "(I)I" } : Jvm.MethodName) prog_5_method_4_code (2 : Nat) (Option.some Jvm.ClassFile.FieldType.int)) ∈ x_Wd := x_in3 (i := 5) rfl rfl
theorem q_486 : (Cond.methodLink "CheckedMachine$Judge" (97 : Nat) ({ cls := "CheckedMachine$Judge", name := "storesWrongKind", desc := "(LCheckedMachine$Step;)Z" } : Jvm.MethodName)) ∈ x_Wd := x_in3 (i := 6) rfl rfl
theorem q_488 : (Cond.instanceMethod ({ cls := "CheckedMachine$Judge", name := "storesWrongKind", desc := "(LCheckedMachine$Step;)Z" } : Jvm.MethodName)) ∈ x_Wd := x_in3 (i := 8) rfl rfl
theorem q_489 : (Cond.code ({ cls := "CheckedMachine$Judge", name := "storesWrongKind", desc := "(LCheckedMachine$Step;)Z" } : Jvm.MethodName) prog_6_method_10_code (2 : Nat) (Option.some Jvm.ClassFile.FieldType.boolean)) ∈ x_Wd := x_in3 (i := 9) rfl rfl
theorem q_490 : (Cond.methodLink "CheckedMachine$Judge" (107 : Nat) ({ cls := "CheckedMachine$Judge", name := "isOneCellOfFrame", desc := "(I)Z" } : Jvm.MethodName)) ∈ x_Wd := x_in3 (i := 10) rfl rfl
theorem q_492 : (Cond.instanceMethod ({ cls := "CheckedMachine$Judge", name := "isOneCellOfFrame", desc := "(I)Z" } : Jvm.MethodName)) ∈ x_Wd := x_in3 (i := 12) rfl rfl
theorem q_493 : (Cond.code ({ cls := "CheckedMachine$Judge", name := "isOneCellOfFrame", desc := "(I)Z" } : Jvm.MethodName) prog_6_method_11_code (2 : Nat) (Option.some Jvm.ClassFile.FieldType.boolean)) ∈ x_Wd := x_in3 (i := 13) rfl rfl
theorem q_494 : (Cond.methodLink "CheckedMachine$Judge" (110 : Nat) ({ cls := "CheckedMachine$Guesses", name := "lo", desc := "(I)J" } : Jvm.MethodName)) ∈ x_Wd := x_in3 (i := 14) rfl rfl
theorem q_495 : (Cond.instanceMethod ({ cls := "CheckedMachine$Guesses", name := "lo", desc := "(I)J" } : Jvm.MethodName)) ∈ x_Wd := x_in3 (i := 15) rfl rfl
theorem q_496 : (Cond.selects "CheckedMachine$Guesses" ({ cls := "CheckedMachine$Guesses", name := "lo", desc := "(I)J" } : Jvm.MethodName) ({ cls := "CheckedMachine$Guesses", name := "lo", desc := "(I)J" } : Jvm.MethodName)) ∈ x_Wd := x_in3 (i := 16) rfl rfl
theorem q_497 : (Cond.code ({ cls := "CheckedMachine$Guesses", name := "lo", desc := "(I)J" } : Jvm.MethodName) prog_5_method_5_code (2 : Nat) (Option.some Jvm.ClassFile.FieldType.long)) ∈ x_Wd := x_in3 (i := 17) rfl rfl
theorem q_498 : (Cond.methodLink "CheckedMachine$Judge" (114 : Nat) ({ cls := "CheckedMachine$Guesses", name := "hi", desc := "(I)J" } : Jvm.MethodName)) ∈ x_Wd := x_in3 (i := 18) rfl rfl
theorem q_499 : (Cond.instanceMethod ({ cls := "CheckedMachine$Guesses", name := "hi", desc := "(I)J" } : Jvm.MethodName)) ∈ x_Wd := x_in3 (i := 19) rfl rfl
theorem q_500 : (Cond.selects "CheckedMachine$Guesses" ({ cls := "CheckedMachine$Guesses", name := "hi", desc := "(I)J" } : Jvm.MethodName) ({ cls := "CheckedMachine$Guesses", name := "hi", desc := "(I)J" } : Jvm.MethodName)) ∈ x_Wd := x_in3 (i := 20) rfl rfl
theorem q_501 : (Cond.code ({ cls := "CheckedMachine$Guesses", name := "hi", desc := "(I)J" } : Jvm.MethodName) prog_5_method_6_code (2 : Nat) (Option.some Jvm.ClassFile.FieldType.long)) ∈ x_Wd := x_in3 (i := 21) rfl rfl
theorem q_502 : (Cond.methodLink "CheckedMachine$Judge" (100 : Nat) ({ cls := "CheckedMachine$Judge", name := "callsWithWrongKind", desc := "(LCheckedMachine$Step;)Z" } : Jvm.MethodName)) ∈ x_Wd := x_in3 (i := 22) rfl rfl
theorem q_504 : (Cond.instanceMethod ({ cls := "CheckedMachine$Judge", name := "callsWithWrongKind", desc := "(LCheckedMachine$Step;)Z" } : Jvm.MethodName)) ∈ x_Wd := x_in3 (i := 24) rfl rfl
theorem q_505 : (Cond.code ({ cls := "CheckedMachine$Judge", name := "callsWithWrongKind", desc := "(LCheckedMachine$Step;)Z" } : Jvm.MethodName) prog_6_method_9_code (2 : Nat) (Option.some Jvm.ClassFile.FieldType.boolean)) ∈ x_Wd := x_in3 (i := 25) rfl rfl
theorem q_506 : (Cond.methodLink "CheckedMachine$Judge" (33 : Nat) ({ cls := "CheckedMachine$Judge", name := "storesOverNoRange", desc := "(LCheckedMachine$Step;)Z" } : Jvm.MethodName)) ∈ x_Wd := x_in3 (i := 26) rfl rfl
theorem q_508 : (Cond.instanceMethod ({ cls := "CheckedMachine$Judge", name := "storesOverNoRange", desc := "(LCheckedMachine$Step;)Z" } : Jvm.MethodName)) ∈ x_Wd := x_in3 (i := 28) rfl rfl
theorem q_509 : (Cond.code ({ cls := "CheckedMachine$Judge", name := "storesOverNoRange", desc := "(LCheckedMachine$Step;)Z" } : Jvm.MethodName) prog_6_method_12_code (8 : Nat) (Option.some Jvm.ClassFile.FieldType.boolean)) ∈ x_Wd := x_in3 (i := 29) rfl rfl
theorem q_510 : (Cond.methodLink "CheckedMachine$Judge" (36 : Nat) ({ cls := "CheckedMachine$Judge", name := "goesOutside", desc := "(LCheckedMachine$Step;)Z" } : Jvm.MethodName)) ∈ x_Wd := x_in3 (i := 30) rfl rfl
theorem q_512 : (Cond.instanceMethod ({ cls := "CheckedMachine$Judge", name := "goesOutside", desc := "(LCheckedMachine$Step;)Z" } : Jvm.MethodName)) ∈ x_Wd := x_in3 (i := 32) rfl rfl
theorem q_513 : (Cond.code ({ cls := "CheckedMachine$Judge", name := "goesOutside", desc := "(LCheckedMachine$Step;)Z" } : Jvm.MethodName) prog_6_method_13_code (2 : Nat) (Option.some Jvm.ClassFile.FieldType.boolean)) ∈ x_Wd := x_in3 (i := 33) rfl rfl
theorem q_514 : (Cond.methodLink "CheckedMachine$Judge" (117 : Nat) ({ cls := "CheckedMachine$Judge", name := "movesTooFar", desc := "(IJJ)Z" } : Jvm.MethodName)) ∈ x_Wd := x_in3 (i := 34) rfl rfl
theorem q_516 : (Cond.instanceMethod ({ cls := "CheckedMachine$Judge", name := "movesTooFar", desc := "(IJJ)Z" } : Jvm.MethodName)) ∈ x_Wd := x_in3 (i := 36) rfl rfl
theorem q_517 : (Cond.code ({ cls := "CheckedMachine$Judge", name := "movesTooFar", desc := "(IJJ)Z" } : Jvm.MethodName) prog_6_method_14_code (6 : Nat) (Option.some Jvm.ClassFile.FieldType.boolean)) ∈ x_Wd := x_in3 (i := 37) rfl rfl
theorem q_518 : (Cond.constantLong "CheckedMachine$Judge" (125 : Nat) (-100 : Int64)) ∈ x_Wd := x_in3 (i := 38) rfl rfl
theorem q_519 : (Cond.constantLong "CheckedMachine$Judge" (127 : Nat) (100 : Int64)) ∈ x_Wd := x_in3 (i := 39) rfl rfl
theorem q_520 : (Cond.methodLink "CheckedMachine$Judge" (121 : Nat) ({ cls := "CheckedMachine$Judge", name := "missesCells", desc := "(IJ)Z" } : Jvm.MethodName)) ∈ x_Wd := x_in3 (i := 40) rfl rfl
theorem q_522 : (Cond.instanceMethod ({ cls := "CheckedMachine$Judge", name := "missesCells", desc := "(IJ)Z" } : Jvm.MethodName)) ∈ x_Wd := x_in3 (i := 42) rfl rfl
theorem q_523 : (Cond.code ({ cls := "CheckedMachine$Judge", name := "missesCells", desc := "(IJ)Z" } : Jvm.MethodName) prog_6_method_15_code (5 : Nat) (Option.some Jvm.ClassFile.FieldType.boolean)) ∈ x_Wd := x_in3 (i := 43) rfl rfl
theorem q_524 : (Cond.methodLink "CheckedMachine$Judge" (39 : Nat) ({ cls := "CheckedMachine$Judge", name := "loadsUnfitCell", desc := "(LCheckedMachine$Step;)Z" } : Jvm.MethodName)) ∈ x_Wd := x_in3 (i := 44) rfl rfl
theorem q_526 : (Cond.instanceMethod ({ cls := "CheckedMachine$Judge", name := "loadsUnfitCell", desc := "(LCheckedMachine$Step;)Z" } : Jvm.MethodName)) ∈ x_Wd := x_in3 (i := 46) rfl rfl
theorem q_527 : (Cond.code ({ cls := "CheckedMachine$Judge", name := "loadsUnfitCell", desc := "(LCheckedMachine$Step;)Z" } : Jvm.MethodName) prog_6_method_16_code (9 : Nat) (Option.some Jvm.ClassFile.FieldType.boolean)) ∈ x_Wd := x_in3 (i := 47) rfl rfl
theorem q_528 : (Cond.methodLink "CheckedMachine$Judge" (42 : Nat) ({ cls := "CheckedMachine$Judge", name := "findsNoRow", desc := "(LCheckedMachine$Step;)Z" } : Jvm.MethodName)) ∈ x_Wd := x_in3 (i := 48) rfl rfl
theorem q_530 : (Cond.instanceMethod ({ cls := "CheckedMachine$Judge", name := "findsNoRow", desc := "(LCheckedMachine$Step;)Z" } : Jvm.MethodName)) ∈ x_Wd := x_in3 (i := 50) rfl rfl
theorem q_531 : (Cond.code ({ cls := "CheckedMachine$Judge", name := "findsNoRow", desc := "(LCheckedMachine$Step;)Z" } : Jvm.MethodName) prog_6_method_17_code (2 : Nat) (Option.some Jvm.ClassFile.FieldType.boolean)) ∈ x_Wd := x_in3 (i := 51) rfl rfl
theorem q_532 : (Cond.methodLink "CheckedMachine$Judge" (129 : Nat) ({ cls := "CheckedMachine$Step", name := "isCallOf", desc := "(I)Z" } : Jvm.MethodName)) ∈ x_Wd := x_in3 (i := 52) rfl rfl
theorem q_533 : (Cond.instanceMethod ({ cls := "CheckedMachine$Step", name := "isCallOf", desc := "(I)Z" } : Jvm.MethodName)) ∈ x_Wd := x_in3 (i := 53) rfl rfl
theorem q_534 : (Cond.selects "CheckedMachine$Step" ({ cls := "CheckedMachine$Step", name := "isCallOf", desc := "(I)Z" } : Jvm.MethodName) ({ cls := "CheckedMachine$Step", name := "isCallOf", desc := "(I)Z" } : Jvm.MethodName)) ∈ x_Wd := x_in3 (i := 54) rfl rfl
theorem q_535 : (Cond.code ({ cls := "CheckedMachine$Step", name := "isCallOf", desc := "(I)Z" } : Jvm.MethodName) prog_9_method_2_code (2 : Nat) (Option.some Jvm.ClassFile.FieldType.boolean)) ∈ x_Wd := x_in3 (i := 55) rfl rfl
theorem q_536 : (Cond.constantLong "CheckedMachine$Judge" (132 : Nat) (7 : Int64)) ∈ x_Wd := x_in3 (i := 56) rfl rfl
theorem q_537 : (Cond.methodLink "CheckedMachine$Checker" (90 : Nat) ({ cls := "CheckedMachine$Checker", name := "reject", desc := "(II)V" } : Jvm.MethodName)) ∈ x_Wd := x_in3 (i := 57) rfl rfl
theorem q_539 : (Cond.instanceMethod ({ cls := "CheckedMachine$Checker", name := "reject", desc := "(II)V" } : Jvm.MethodName)) ∈ x_Wd := x_in3 (i := 59) rfl rfl
theorem q_540 : (Cond.code ({ cls := "CheckedMachine$Checker", name := "reject", desc := "(II)V" } : Jvm.MethodName) prog_2_method_10_code (3 : Nat) (Option.none : Option Jvm.ClassFile.FieldType)) ∈ x_Wd := x_in3 (i := 60) rfl rfl
theorem q_541 : (Cond.methodLink "CheckedMachine$Checker" (99 : Nat) ({ cls := "CheckedMachine$Guesses", name := "lo", desc := "(I)J" } : Jvm.MethodName)) ∈ x_Wd := x_in3 (i := 61) rfl rfl
theorem q_542 : (Cond.methodLink "CheckedMachine$Checker" (103 : Nat) ({ cls := "CheckedMachine$Guesses", name := "hi", desc := "(I)J" } : Jvm.MethodName)) ∈ x_Wd := x_in3 (i := 62) rfl rfl
theorem q_543 : (Cond.methodLink "CheckedMachine$Checker" (106 : Nat) ({ cls := "CheckedMachine$Checker", name := "growOutcomes", desc := "(JJ)V" } : Jvm.MethodName)) ∈ x_Wd := x_in3 (i := 63) rfl rfl
theorem q_545 : (Cond.instanceMethod ({ cls := "CheckedMachine$Checker", name := "growOutcomes", desc := "(JJ)V" } : Jvm.MethodName)) ∈ x_Wd := x_in3 (i := 65) rfl rfl
theorem q_546 : (Cond.code ({ cls := "CheckedMachine$Checker", name := "growOutcomes", desc := "(JJ)V" } : Jvm.MethodName) prog_2_method_11_code (5 : Nat) (Option.none : Option Jvm.ClassFile.FieldType)) ∈ x_Wd := x_in3 (i := 66) rfl rfl
theorem q_547 : (Cond.methodLink "CheckedMachine$Checker" (125 : Nat) ({ cls := "java/lang/Math", name := "min", desc := "(JJ)J" } : Jvm.MethodName)) ∈ x_Wd := x_in3 (i := 67) rfl rfl
theorem q_548 : (Cond.static ({ cls := "java/lang/Math", name := "min", desc := "(JJ)J" } : Jvm.MethodName)) ∈ x_Wd := x_in3 (i := 68) rfl rfl
theorem q_549 : (Cond.code ({ cls := "java/lang/Math", name := "min", desc := "(JJ)J" } : Jvm.MethodName) prog_15_method_70_code (4 : Nat) (Option.some Jvm.ClassFile.FieldType.long)) ∈ x_Wd := x_in3 (i := 69) rfl rfl
theorem q_550 : (Cond.methodLink "CheckedMachine$Checker" (131 : Nat) ({ cls := "java/lang/Math", name := "max", desc := "(JJ)J" } : Jvm.MethodName)) ∈ x_Wd := x_in3 (i := 70) rfl rfl
theorem q_551 : (Cond.static ({ cls := "java/lang/Math", name := "max", desc := "(JJ)J" } : Jvm.MethodName)) ∈ x_Wd := x_in3 (i := 71) rfl rfl
theorem q_552 : (Cond.code ({ cls := "java/lang/Math", name := "max", desc := "(JJ)J" } : Jvm.MethodName) prog_15_method_66_code (4 : Nat) (Option.some Jvm.ClassFile.FieldType.long)) ∈ x_Wd := x_in3 (i := 72) rfl rfl
theorem q_553 : (Cond.methodLink "CheckedMachine$Checker" (110 : Nat) ({ cls := "CheckedMachine$Checker", name := "takeUpLatest", desc := "()I" } : Jvm.MethodName)) ∈ x_Wd := x_in3 (i := 73) rfl rfl
theorem q_555 : (Cond.instanceMethod ({ cls := "CheckedMachine$Checker", name := "takeUpLatest", desc := "()I" } : Jvm.MethodName)) ∈ x_Wd := x_in3 (i := 75) rfl rfl
theorem q_556 : (Cond.code ({ cls := "CheckedMachine$Checker", name := "takeUpLatest", desc := "()I" } : Jvm.MethodName) prog_2_method_13_code (3 : Nat) (Option.some Jvm.ClassFile.FieldType.int)) ∈ x_Wd := x_in3 (i := 76) rfl rfl
theorem q_557 : (Cond.methodLink "CheckedMachine$Checker" (150 : Nat) ({ cls := "CheckedMachine$Guesses", name := "become", desc := "(LCheckedMachine$Guesses;)V" } : Jvm.MethodName)) ∈ x_Wd := x_in3 (i := 77) rfl rfl
theorem q_558 : (Cond.instanceMethod ({ cls := "CheckedMachine$Guesses", name := "become", desc := "(LCheckedMachine$Guesses;)V" } : Jvm.MethodName)) ∈ x_Wd := x_in3 (i := 78) rfl rfl
theorem q_559 : (Cond.selects "CheckedMachine$Guesses" ({ cls := "CheckedMachine$Guesses", name := "become", desc := "(LCheckedMachine$Guesses;)V" } : Jvm.MethodName) ({ cls := "CheckedMachine$Guesses", name := "become", desc := "(LCheckedMachine$Guesses;)V" } : Jvm.MethodName)) ∈ x_Wd := x_in3 (i := 79) rfl rfl
theorem q_560 : (Cond.code ({ cls := "CheckedMachine$Guesses", name := "become", desc := "(LCheckedMachine$Guesses;)V" } : Jvm.MethodName) prog_5_method_3_code (2 : Nat) (Option.none : Option Jvm.ClassFile.FieldType)) ∈ x_Wd := x_in3 (i := 80) rfl rfl
theorem q_561 : (Cond.methodLink "CheckedMachine$Guesses" (33 : Nat) ({ cls := "java/lang/System", name := "arraycopy", desc := "(Ljava/lang/Object;ILjava/lang/Object;II)V" } : Jvm.MethodName)) ∈ x_Wd := x_in3 (i := 81) rfl rfl
theorem q_562 : (Cond.static ({ cls := "java/lang/System", name := "arraycopy", desc := "(Ljava/lang/Object;ILjava/lang/Object;II)V" } : Jvm.MethodName)) ∈ x_Wd := x_in3 (i := 82) rfl rfl
theorem q_563 : (Cond.native ({ cls := "java/lang/System", name := "arraycopy", desc := "(Ljava/lang/Object;ILjava/lang/Object;II)V" } : Jvm.MethodName)) ∈ x_Wd := x_in3 (i := 83) rfl rfl
theorem q_564 : (Cond.methodLink "CheckedMachine$Checker" (114 : Nat) ({ cls := "CheckedMachine$Step", name := "mayJump", desc := "()Z" } : Jvm.MethodName)) ∈ x_Wd := x_in3 (i := 84) rfl rfl
theorem q_565 : (Cond.methodLink "CheckedMachine$Checker" (118 : Nat) ({ cls := "CheckedMachine$Checker", name := "fork", desc := "(LCheckedMachine$Step;I)I" } : Jvm.MethodName)) ∈ x_Wd := x_in3 (i := 85) rfl rfl
theorem q_567 : (Cond.instanceMethod ({ cls := "CheckedMachine$Checker", name := "fork", desc := "(LCheckedMachine$Step;I)I" } : Jvm.MethodName)) ∈ x_Wd := x_in3 (i := 87) rfl rfl
theorem q_568 : (Cond.code ({ cls := "CheckedMachine$Checker", name := "fork", desc := "(LCheckedMachine$Step;I)I" } : Jvm.MethodName) prog_2_method_12_code (4 : Nat) (Option.some Jvm.ClassFile.FieldType.int)) ∈ x_Wd := x_in3 (i := 88) rfl rfl
theorem q_569 : (Cond.methodLink "CheckedMachine$Checker" (134 : Nat) ({ cls := "CheckedMachine$Fork", name := "leadsToTarget", desc := "(LCheckedMachine$Step;LCheckedMachine$Guesses;)Z" } : Jvm.MethodName)) ∈ x_Wd := x_in3 (i := 89) rfl rfl
theorem q_570 : (Cond.static ({ cls := "CheckedMachine$Fork", name := "leadsToTarget", desc := "(LCheckedMachine$Step;LCheckedMachine$Guesses;)Z" } : Jvm.MethodName)) ∈ x_Wd := x_in3 (i := 90) rfl rfl
theorem q_571 : (Cond.code ({ cls := "CheckedMachine$Fork", name := "leadsToTarget", desc := "(LCheckedMachine$Step;LCheckedMachine$Guesses;)Z" } : Jvm.MethodName) prog_4_method_2_code (2 : Nat) (Option.some Jvm.ClassFile.FieldType.boolean)) ∈ x_Wd := x_in3 (i := 91) rfl rfl
theorem q_572 : (Cond.methodLink "CheckedMachine$Fork" (15 : Nat) ({ cls := "CheckedMachine$Fork", name := "isMaybe", desc := "(LCheckedMachine$Step;LCheckedMachine$Guesses;)Z" } : Jvm.MethodName)) ∈ x_Wd := x_in3 (i := 92) rfl rfl
theorem q_573 : (Cond.static ({ cls := "CheckedMachine$Fork", name := "isMaybe", desc := "(LCheckedMachine$Step;LCheckedMachine$Guesses;)Z" } : Jvm.MethodName)) ∈ x_Wd := x_in3 (i := 93) rfl rfl
theorem q_574 : (Cond.code ({ cls := "CheckedMachine$Fork", name := "isMaybe", desc := "(LCheckedMachine$Step;LCheckedMachine$Guesses;)Z" } : Jvm.MethodName) prog_4_method_6_code (2 : Nat) (Option.some Jvm.ClassFile.FieldType.boolean)) ∈ x_Wd := x_in3 (i := 94) rfl rfl
theorem q_575 : (Cond.methodLink "CheckedMachine$Fork" (56 : Nat) ({ cls := "CheckedMachine$Guesses", name := "kind", desc := "(I)I" } : Jvm.MethodName)) ∈ x_Wd := x_in3 (i := 95) rfl rfl
theorem q_576 : (Cond.methodLink "CheckedMachine$Fork" (24 : Nat) ({ cls := "CheckedMachine$Guesses", name := "lo", desc := "(I)J" } : Jvm.MethodName)) ∈ x_Wd := x_in3 (i := 96) rfl rfl
theorem q_577 : (Cond.methodLink "CheckedMachine$Fork" (33 : Nat) ({ cls := "CheckedMachine$Guesses", name := "hi", desc := "(I)J" } : Jvm.MethodName)) ∈ x_Wd := x_in3 (i := 97) rfl rfl
theorem q_578 : (Cond.methodLink "CheckedMachine$Checker" (140 : Nat) ({ cls := "CheckedMachine$Fork", name := "leadsOn", desc := "(LCheckedMachine$Step;LCheckedMachine$Guesses;)Z" } : Jvm.MethodName)) ∈ x_Wd := x_in3 (i := 98) rfl rfl
theorem q_579 : (Cond.static ({ cls := "CheckedMachine$Fork", name := "leadsOn", desc := "(LCheckedMachine$Step;LCheckedMachine$Guesses;)Z" } : Jvm.MethodName)) ∈ x_Wd := x_in3 (i := 99) rfl rfl
theorem q_580 : (Cond.code ({ cls := "CheckedMachine$Fork", name := "leadsOn", desc := "(LCheckedMachine$Step;LCheckedMachine$Guesses;)Z" } : Jvm.MethodName) prog_4_method_3_code (2 : Nat) (Option.some Jvm.ClassFile.FieldType.boolean)) ∈ x_Wd := x_in3 (i := 100) rfl rfl
theorem q_581 : (Cond.methodLink "CheckedMachine$Checker" (143 : Nat) ({ cls := "CheckedMachine$Fork", name := "goToTarget", desc := "(LCheckedMachine$Step;LCheckedMachine$Guesses;)V" } : Jvm.MethodName)) ∈ x_Wd := x_in3 (i := 101) rfl rfl
theorem q_582 : (Cond.static ({ cls := "CheckedMachine$Fork", name := "goToTarget", desc := "(LCheckedMachine$Step;LCheckedMachine$Guesses;)V" } : Jvm.MethodName)) ∈ x_Wd := x_in3 (i := 102) rfl rfl
theorem q_583 : (Cond.code ({ cls := "CheckedMachine$Fork", name := "goToTarget", desc := "(LCheckedMachine$Step;LCheckedMachine$Guesses;)V" } : Jvm.MethodName) prog_4_method_4_code (9 : Nat) (Option.none : Option Jvm.ClassFile.FieldType)) ∈ x_Wd := x_in3 (i := 103) rfl rfl
theorem q_584 : (Cond.methodLink "CheckedMachine$Fork" (39 : Nat) ({ cls := "CheckedMachine$Guesses", name := "setRange", desc := "(IJJ)V" } : Jvm.MethodName)) ∈ x_Wd := x_in3 (i := 104) rfl rfl
theorem q_585 : (Cond.instanceMethod ({ cls := "CheckedMachine$Guesses", name := "setRange", desc := "(IJJ)V" } : Jvm.MethodName)) ∈ x_Wd := x_in3 (i := 105) rfl rfl
theorem q_586 : (Cond.selects "CheckedMachine$Guesses" ({ cls := "CheckedMachine$Guesses", name := "setRange", desc := "(IJJ)V" } : Jvm.MethodName) ({ cls := "CheckedMachine$Guesses", name := "setRange", desc := "(IJJ)V" } : Jvm.MethodName)) ∈ x_Wd := x_in3 (i := 106) rfl rfl
theorem q_587 : (Cond.code ({ cls := "CheckedMachine$Guesses", name := "setRange", desc := "(IJJ)V" } : Jvm.MethodName) prog_5_method_11_code (6 : Nat) (Option.none : Option Jvm.ClassFile.FieldType)) ∈ x_Wd := x_in3 (i := 107) rfl rfl
theorem q_588 : (Cond.methodLink "CheckedMachine$Fork" (43 : Nat) ({ cls := "java/lang/Math", name := "max", desc := "(JJ)J" } : Jvm.MethodName)) ∈ x_Wd := x_in3 (i := 108) rfl rfl
theorem q_589 : (Cond.methodLink "CheckedMachine$Fork" (49 : Nat) ({ cls := "java/lang/Math", name := "min", desc := "(JJ)J" } : Jvm.MethodName)) ∈ x_Wd := x_in3 (i := 109) rfl rfl
theorem q_590 : (Cond.methodLink "CheckedMachine$Checker" (153 : Nat) ({ cls := "CheckedMachine$Fork", name := "goOn", desc := "(LCheckedMachine$Step;LCheckedMachine$Guesses;)V" } : Jvm.MethodName)) ∈ x_Wd := x_in3 (i := 110) rfl rfl
theorem q_591 : (Cond.static ({ cls := "CheckedMachine$Fork", name := "goOn", desc := "(LCheckedMachine$Step;LCheckedMachine$Guesses;)V" } : Jvm.MethodName)) ∈ x_Wd := x_in3 (i := 111) rfl rfl
theorem q_592 : (Cond.code ({ cls := "CheckedMachine$Fork", name := "goOn", desc := "(LCheckedMachine$Step;LCheckedMachine$Guesses;)V" } : Jvm.MethodName) prog_4_method_5_code (9 : Nat) (Option.none : Option Jvm.ClassFile.FieldType)) ∈ x_Wd := x_in3 (i := 112) rfl rfl
theorem q_593 : (Cond.methodLink "CheckedMachine$Fork" (52 : Nat) ({ cls := "CheckedMachine$Guesses", name := "set", desc := "(IIJJ)V" } : Jvm.MethodName)) ∈ x_Wd := x_in3 (i := 113) rfl rfl
theorem q_594 : (Cond.methodLink "CheckedMachine$Checker" (121 : Nat) ({ cls := "CheckedMachine$Effects", name := "follow", desc := "(LCheckedMachine$Step;)V" } : Jvm.MethodName)) ∈ x_Wd := x_in3 (i := 114) rfl rfl
theorem q_595 : (Cond.instanceMethod ({ cls := "CheckedMachine$Effects", name := "follow", desc := "(LCheckedMachine$Step;)V" } : Jvm.MethodName)) ∈ x_Wd := x_in3 (i := 115) rfl rfl
theorem q_596 : (Cond.selects "CheckedMachine$Effects" ({ cls := "CheckedMachine$Effects", name := "follow", desc := "(LCheckedMachine$Step;)V" } : Jvm.MethodName) ({ cls := "CheckedMachine$Effects", name := "follow", desc := "(LCheckedMachine$Step;)V" } : Jvm.MethodName)) ∈ x_Wd := x_in3 (i := 116) rfl rfl
theorem q_597 : (Cond.code ({ cls := "CheckedMachine$Effects", name := "follow", desc := "(LCheckedMachine$Step;)V" } : Jvm.MethodName) prog_3_method_2_code (3 : Nat) (Option.none : Option Jvm.ClassFile.FieldType)) ∈ x_Wd := x_in3 (i := 117) rfl rfl
theorem q_598 : (Cond.methodLink "CheckedMachine$Effects" (27 : Nat) ({ cls := "CheckedMachine$Guesses", name := "setRange", desc := "(IJJ)V" } : Jvm.MethodName)) ∈ x_Wd := x_in3 (i := 118) rfl rfl
theorem q_599 : (Cond.methodLink "CheckedMachine$Effects" (36 : Nat) ({ cls := "CheckedMachine$Guesses", name := "copy", desc := "(II)V" } : Jvm.MethodName)) ∈ x_Wd := x_in3 (i := 119) rfl rfl
theorem q_600 : (Cond.instanceMethod ({ cls := "CheckedMachine$Guesses", name := "copy", desc := "(II)V" } : Jvm.MethodName)) ∈ x_Wd := x_in3 (i := 120) rfl rfl
theorem q_601 : (Cond.selects "CheckedMachine$Guesses" ({ cls := "CheckedMachine$Guesses", name := "copy", desc := "(II)V" } : Jvm.MethodName) ({ cls := "CheckedMachine$Guesses", name := "copy", desc := "(II)V" } : Jvm.MethodName)) ∈ x_Wd := x_in3 (i := 121) rfl rfl
theorem q_602 : (Cond.code ({ cls := "CheckedMachine$Guesses", name := "copy", desc := "(II)V" } : Jvm.MethodName) prog_5_method_14_code (3 : Nat) (Option.none : Option Jvm.ClassFile.FieldType)) ∈ x_Wd := x_in3 (i := 122) rfl rfl
theorem q_603 : (Cond.methodLink "CheckedMachine$Effects" (40 : Nat) ({ cls := "CheckedMachine$Effects", name := "move", desc := "(IJJ)V" } : Jvm.MethodName)) ∈ x_Wd := x_in3 (i := 123) rfl rfl
theorem q_605 : (Cond.instanceMethod ({ cls := "CheckedMachine$Effects", name := "move", desc := "(IJJ)V" } : Jvm.MethodName)) ∈ x_Wd := x_in3 (i := 125) rfl rfl
theorem q_606 : (Cond.code ({ cls := "CheckedMachine$Effects", name := "move", desc := "(IJJ)V" } : Jvm.MethodName) prog_3_method_3_code (10 : Nat) (Option.none : Option Jvm.ClassFile.FieldType)) ∈ x_Wd := x_in3 (i := 126) rfl rfl
theorem q_607 : (Cond.methodLink "CheckedMachine$Effects" (43 : Nat) ({ cls := "CheckedMachine$Guesses", name := "lo", desc := "(I)J" } : Jvm.MethodName)) ∈ x_Wd := x_in3 (i := 127) rfl rfl
theorem q_608 : (Cond.methodLink "CheckedMachine$Effects" (47 : Nat) ({ cls := "CheckedMachine$Guesses", name := "hi", desc := "(I)J" } : Jvm.MethodName)) ∈ x_Wd := x_in3 (i := 128) rfl rfl
theorem q_609 : (Cond.methodLink "CheckedMachine$Effects" (77 : Nat) ({ cls := "CheckedMachine$Effects", name := "sumWraps", desc := "(JJJ)Z" } : Jvm.MethodName)) ∈ x_Wd := x_in3 (i := 129) rfl rfl
theorem q_610 : (Cond.static ({ cls := "CheckedMachine$Effects", name := "sumWraps", desc := "(JJJ)Z" } : Jvm.MethodName)) ∈ x_Wd := x_in3 (i := 130) rfl rfl
theorem q_611 : (Cond.code ({ cls := "CheckedMachine$Effects", name := "sumWraps", desc := "(JJJ)Z" } : Jvm.MethodName) prog_3_method_4_code (6 : Nat) (Option.some Jvm.ClassFile.FieldType.boolean)) ∈ x_Wd := x_in3 (i := 131) rfl rfl
theorem q_612 : (Cond.methodLink "CheckedMachine$Effects" (81 : Nat) ({ cls := "CheckedMachine$Guesses", name := "setAny", desc := "(I)V" } : Jvm.MethodName)) ∈ x_Wd := x_in3 (i := 132) rfl rfl
theorem q_613 : (Cond.methodLink "CheckedMachine$Effects" (84 : Nat) ({ cls := "CheckedMachine$Guesses", name := "kind", desc := "(I)I" } : Jvm.MethodName)) ∈ x_Wd := x_in3 (i := 133) rfl rfl
theorem q_614 : (Cond.methodLink "CheckedMachine$Effects" (88 : Nat) ({ cls := "CheckedMachine$Guesses", name := "set", desc := "(IIJJ)V" } : Jvm.MethodName)) ∈ x_Wd := x_in3 (i := 134) rfl rfl
theorem q_615 : (Cond.methodLink "CheckedMachine$Effects" (50 : Nat) ({ cls := "CheckedMachine$Effects", name := "subtract", desc := "(IJJ)V" } : Jvm.MethodName)) ∈ x_Wd := x_in3 (i := 135) rfl rfl
theorem q_617 : (Cond.instanceMethod ({ cls := "CheckedMachine$Effects", name := "subtract", desc := "(IJJ)V" } : Jvm.MethodName)) ∈ x_Wd := x_in3 (i := 137) rfl rfl
theorem q_618 : (Cond.code ({ cls := "CheckedMachine$Effects", name := "subtract", desc := "(IJJ)V" } : Jvm.MethodName) prog_3_method_5_code (10 : Nat) (Option.none : Option Jvm.ClassFile.FieldType)) ∈ x_Wd := x_in3 (i := 138) rfl rfl
theorem q_619 : (Cond.methodLink "CheckedMachine$Effects" (92 : Nat) ({ cls := "CheckedMachine$Effects", name := "differenceWraps", desc := "(JJJ)Z" } : Jvm.MethodName)) ∈ x_Wd := x_in3 (i := 139) rfl rfl
theorem q_620 : (Cond.static ({ cls := "CheckedMachine$Effects", name := "differenceWraps", desc := "(JJJ)Z" } : Jvm.MethodName)) ∈ x_Wd := x_in3 (i := 140) rfl rfl
theorem q_621 : (Cond.code ({ cls := "CheckedMachine$Effects", name := "differenceWraps", desc := "(JJJ)Z" } : Jvm.MethodName) prog_3_method_6_code (6 : Nat) (Option.some Jvm.ClassFile.FieldType.boolean)) ∈ x_Wd := x_in3 (i := 141) rfl rfl
theorem q_622 : (Cond.methodLink "CheckedMachine$Effects" (53 : Nat) ({ cls := "CheckedMachine$Effects", name := "multiply", desc := "(IJ)V" } : Jvm.MethodName)) ∈ x_Wd := x_in3 (i := 142) rfl rfl
theorem q_624 : (Cond.instanceMethod ({ cls := "CheckedMachine$Effects", name := "multiply", desc := "(IJ)V" } : Jvm.MethodName)) ∈ x_Wd := x_in3 (i := 144) rfl rfl
theorem q_625 : (Cond.code ({ cls := "CheckedMachine$Effects", name := "multiply", desc := "(IJ)V" } : Jvm.MethodName) prog_3_method_7_code (4 : Nat) (Option.none : Option Jvm.ClassFile.FieldType)) ∈ x_Wd := x_in3 (i := 145) rfl rfl
theorem q_626 : (Cond.methodLink "CheckedMachine$Effects" (95 : Nat) ({ cls := "CheckedMachine$Effects", name := "isFactor", desc := "(J)Z" } : Jvm.MethodName)) ∈ x_Wd := x_in3 (i := 146) rfl rfl
theorem q_627 : (Cond.static ({ cls := "CheckedMachine$Effects", name := "isFactor", desc := "(J)Z" } : Jvm.MethodName)) ∈ x_Wd := x_in3 (i := 147) rfl rfl
theorem q_628 : (Cond.code ({ cls := "CheckedMachine$Effects", name := "isFactor", desc := "(J)Z" } : Jvm.MethodName) prog_3_method_8_code (2 : Nat) (Option.some Jvm.ClassFile.FieldType.boolean)) ∈ x_Wd := x_in3 (i := 148) rfl rfl
theorem q_629 : (Cond.constantLong "CheckedMachine$Effects" (102 : Nat) (-2147483648 : Int64)) ∈ x_Wd := x_in3 (i := 149) rfl rfl
theorem q_630 : (Cond.constantLong "CheckedMachine$Effects" (104 : Nat) (2147483648 : Int64)) ∈ x_Wd := x_in3 (i := 150) rfl rfl
theorem q_631 : (Cond.methodLink "CheckedMachine$Effects" (99 : Nat) ({ cls := "CheckedMachine$Guesses", name := "setBetween", desc := "(IJJ)V" } : Jvm.MethodName)) ∈ x_Wd := x_in3 (i := 151) rfl rfl
theorem q_632 : (Cond.instanceMethod ({ cls := "CheckedMachine$Guesses", name := "setBetween", desc := "(IJJ)V" } : Jvm.MethodName)) ∈ x_Wd := x_in3 (i := 152) rfl rfl
theorem q_633 : (Cond.selects "CheckedMachine$Guesses" ({ cls := "CheckedMachine$Guesses", name := "setBetween", desc := "(IJJ)V" } : Jvm.MethodName) ({ cls := "CheckedMachine$Guesses", name := "setBetween", desc := "(IJJ)V" } : Jvm.MethodName)) ∈ x_Wd := x_in3 (i := 153) rfl rfl
theorem q_634 : (Cond.code ({ cls := "CheckedMachine$Guesses", name := "setBetween", desc := "(IJJ)V" } : Jvm.MethodName) prog_5_method_16_code (6 : Nat) (Option.none : Option Jvm.ClassFile.FieldType)) ∈ x_Wd := x_in3 (i := 154) rfl rfl
theorem q_635 : (Cond.methodLink "CheckedMachine$Guesses" (45 : Nat) ({ cls := "java/lang/Math", name := "min", desc := "(JJ)J" } : Jvm.MethodName)) ∈ x_Wd := x_in3 (i := 155) rfl rfl
theorem q_636 : (Cond.methodLink "CheckedMachine$Guesses" (51 : Nat) ({ cls := "java/lang/Math", name := "max", desc := "(JJ)J" } : Jvm.MethodName)) ∈ x_Wd := x_in3 (i := 156) rfl rfl
theorem q_637 : (Cond.methodLink "CheckedMachine$Effects" (57 : Nat) ({ cls := "CheckedMachine$Effects", name := "mask", desc := "(IJ)V" } : Jvm.MethodName)) ∈ x_Wd := x_in3 (i := 157) rfl rfl
theorem q_639 : (Cond.instanceMethod ({ cls := "CheckedMachine$Effects", name := "mask", desc := "(IJ)V" } : Jvm.MethodName)) ∈ x_Wd := x_in3 (i := 159) rfl rfl
theorem q_640 : (Cond.code ({ cls := "CheckedMachine$Effects", name := "mask", desc := "(IJ)V" } : Jvm.MethodName) prog_3_method_9_code (4 : Nat) (Option.none : Option Jvm.ClassFile.FieldType)) ∈ x_Wd := x_in3 (i := 160) rfl rfl
theorem q_641 : (Cond.methodLink "CheckedMachine$Effects" (106 : Nat) ({ cls := "java/lang/Math", name := "min", desc := "(JJ)J" } : Jvm.MethodName)) ∈ x_Wd := x_in3 (i := 161) rfl rfl
theorem q_642 : (Cond.methodLink "CheckedMachine$Effects" (60 : Nat) ({ cls := "CheckedMachine$Effects", name := "divide", desc := "(IJ)V" } : Jvm.MethodName)) ∈ x_Wd := x_in3 (i := 162) rfl rfl
theorem q_644 : (Cond.instanceMethod ({ cls := "CheckedMachine$Effects", name := "divide", desc := "(IJ)V" } : Jvm.MethodName)) ∈ x_Wd := x_in3 (i := 164) rfl rfl
theorem q_645 : (Cond.code ({ cls := "CheckedMachine$Effects", name := "divide", desc := "(IJ)V" } : Jvm.MethodName) prog_3_method_10_code (4 : Nat) (Option.none : Option Jvm.ClassFile.FieldType)) ∈ x_Wd := x_in3 (i := 165) rfl rfl
theorem q_646 : (Cond.constantLong "CheckedMachine$Effects" (112 : Nat) (-1 : Int64)) ∈ x_Wd := x_in3 (i := 166) rfl rfl
theorem q_647 : (Cond.constantLong "CheckedMachine$Effects" (116 : Nat) (-9223372036854775808 : Int64)) ∈ x_Wd := x_in3 (i := 167) rfl rfl
theorem q_648 : (Cond.methodLink "CheckedMachine$Effects" (63 : Nat) ({ cls := "CheckedMachine$Effects", name := "negate", desc := "(I)V" } : Jvm.MethodName)) ∈ x_Wd := x_in3 (i := 168) rfl rfl
theorem q_650 : (Cond.instanceMethod ({ cls := "CheckedMachine$Effects", name := "negate", desc := "(I)V" } : Jvm.MethodName)) ∈ x_Wd := x_in3 (i := 170) rfl rfl
theorem q_651 : (Cond.code ({ cls := "CheckedMachine$Effects", name := "negate", desc := "(I)V" } : Jvm.MethodName) prog_3_method_11_code (2 : Nat) (Option.none : Option Jvm.ClassFile.FieldType)) ∈ x_Wd := x_in3 (i := 171) rfl rfl
theorem q_652 : (Cond.methodLink "CheckedMachine$Effects" (67 : Nat) ({ cls := "CheckedMachine$Effects", name := "load", desc := "(LCheckedMachine$Step;)V" } : Jvm.MethodName)) ∈ x_Wd := x_in3 (i := 172) rfl rfl
theorem q_654 : (Cond.instanceMethod ({ cls := "CheckedMachine$Effects", name := "load", desc := "(LCheckedMachine$Step;)V" } : Jvm.MethodName)) ∈ x_Wd := x_in3 (i := 174) rfl rfl
theorem q_655 : (Cond.code ({ cls := "CheckedMachine$Effects", name := "load", desc := "(LCheckedMachine$Step;)V" } : Jvm.MethodName) prog_3_method_12_code (8 : Nat) (Option.none : Option Jvm.ClassFile.FieldType)) ∈ x_Wd := x_in3 (i := 175) rfl rfl
theorem q_656 : (Cond.methodLink "CheckedMachine$Effects" (118 : Nat) ({ cls := "CheckedMachine$Guesses", name := "widen", desc := "(IJJ)V" } : Jvm.MethodName)) ∈ x_Wd := x_in3 (i := 176) rfl rfl
theorem q_657 : (Cond.instanceMethod ({ cls := "CheckedMachine$Guesses", name := "widen", desc := "(IJJ)V" } : Jvm.MethodName)) ∈ x_Wd := x_in3 (i := 177) rfl rfl
theorem q_658 : (Cond.selects "CheckedMachine$Guesses" ({ cls := "CheckedMachine$Guesses", name := "widen", desc := "(IJJ)V" } : Jvm.MethodName) ({ cls := "CheckedMachine$Guesses", name := "widen", desc := "(IJJ)V" } : Jvm.MethodName)) ∈ x_Wd := x_in3 (i := 178) rfl rfl
theorem q_659 : (Cond.code ({ cls := "CheckedMachine$Guesses", name := "widen", desc := "(IJJ)V" } : Jvm.MethodName) prog_5_method_15_code (6 : Nat) (Option.none : Option Jvm.ClassFile.FieldType)) ∈ x_Wd := x_in3 (i := 179) rfl rfl
theorem q_660 : (Cond.methodLink "CheckedMachine$Effects" (71 : Nat) ({ cls := "CheckedMachine$Effects", name := "store", desc := "(LCheckedMachine$Step;)V" } : Jvm.MethodName)) ∈ x_Wd := x_in3 (i := 180) rfl rfl
theorem q_662 : (Cond.instanceMethod ({ cls := "CheckedMachine$Effects", name := "store", desc := "(LCheckedMachine$Step;)V" } : Jvm.MethodName)) ∈ x_Wd := x_in3 (i := 182) rfl rfl
theorem q_663 : (Cond.code ({ cls := "CheckedMachine$Effects", name := "store", desc := "(LCheckedMachine$Step;)V" } : Jvm.MethodName) prog_3_method_13_code (8 : Nat) (Option.none : Option Jvm.ClassFile.FieldType)) ∈ x_Wd := x_in3 (i := 183) rfl rfl
theorem q_664 : (Cond.methodLink "CheckedMachine$Effects" (121 : Nat) ({ cls := "CheckedMachine$Guesses", name := "isRange", desc := "(I)Z" } : Jvm.MethodName)) ∈ x_Wd := x_in3 (i := 184) rfl rfl
theorem q_665 : (Cond.methodLink "CheckedMachine$Effects" (74 : Nat) ({ cls := "CheckedMachine$Effects", name := "call", desc := "(I)V" } : Jvm.MethodName)) ∈ x_Wd := x_in3 (i := 185) rfl rfl
theorem q_667 : (Cond.instanceMethod ({ cls := "CheckedMachine$Effects", name := "call", desc := "(I)V" } : Jvm.MethodName)) ∈ x_Wd := x_in3 (i := 187) rfl rfl
theorem q_668 : (Cond.code ({ cls := "CheckedMachine$Effects", name := "call", desc := "(I)V" } : Jvm.MethodName) prog_3_method_14_code (2 : Nat) (Option.none : Option Jvm.ClassFile.FieldType)) ∈ x_Wd := x_in3 (i := 188) rfl rfl
theorem q_669 : (Cond.constantLong "CheckedMachine$Effects" (125 : Nat) (99 : Int64)) ∈ x_Wd := x_in3 (i := 189) rfl rfl
theorem q_670 : (Cond.methodLink "CheckedMachine$Effects" (127 : Nat) ({ cls := "java/lang/Math", name := "max", desc := "(JJ)J" } : Jvm.MethodName)) ∈ x_Wd := x_in3 (i := 190) rfl rfl
theorem q_671 : (Cond.methodLink "CheckedMachine$Effects" (130 : Nat) ({ cls := "CheckedMachine$Guesses", name := "clear", desc := "(I)V" } : Jvm.MethodName)) ∈ x_Wd := x_in3 (i := 191) rfl rfl
theorem q_673 : (Cond.classLink "CheckedMachine" (79 : Nat) "java/lang/UnsupportedOperationException") ∈ x_Wd := x_in3 (i := 193) rfl rfl
theorem q_674 : (Cond.instantiable "java/lang/UnsupportedOperationException" (6 : Nat)) ∈ x_Wd := x_in3 (i := 194) rfl rfl
theorem q_676 : (Cond.selects "java/lang/UnsupportedOperationException" ({ cls := "java/lang/Throwable", name := "fillInStackTrace", desc := "(I)Ljava/lang/Throwable;" } : Jvm.MethodName) ({ cls := "java/lang/Throwable", name := "fillInStackTrace", desc := "(I)Ljava/lang/Throwable;" } : Jvm.MethodName)) ∈ x_Wd := x_in3 (i := 196) rfl rfl
theorem q_677 : (Cond.lays "java/lang/UnsupportedOperationException" "java/lang/Throwable" "cause" "Ljava/lang/Throwable;") ∈ x_Wd := x_in3 (i := 197) rfl rfl
theorem q_678 : (Cond.lays "java/lang/UnsupportedOperationException" "java/lang/Throwable" "stackTrace" "[Ljava/lang/StackTraceElement;") ∈ x_Wd := x_in3 (i := 198) rfl rfl
theorem q_679 : (Cond.lays "java/lang/UnsupportedOperationException" "java/lang/Throwable" "suppressedExceptions" "Ljava/util/List;") ∈ x_Wd := x_in3 (i := 199) rfl rfl
theorem q_680 : (Cond.lays "java/lang/UnsupportedOperationException" "java/lang/Throwable" "detailMessage" "Ljava/lang/String;") ∈ x_Wd := x_in3 (i := 200) rfl rfl
theorem q_681 : (Cond.lays "java/lang/UnsupportedOperationException" "java/lang/Throwable" "backtrace" "Ljava/lang/Object;") ∈ x_Wd := x_in3 (i := 201) rfl rfl
theorem q_683 : (Cond.methodLink "CheckedMachine" (83 : Nat) ({ cls := "java/lang/UnsupportedOperationException", name := "<init>", desc := "(Ljava/lang/String;)V" } : Jvm.MethodName)) ∈ x_Wd := x_in3 (i := 203) rfl rfl
theorem q_684 : (Cond.instanceMethod ({ cls := "java/lang/UnsupportedOperationException", name := "<init>", desc := "(Ljava/lang/String;)V" } : Jvm.MethodName)) ∈ x_Wd := x_in3 (i := 204) rfl rfl
theorem q_685 : (Cond.code ({ cls := "java/lang/UnsupportedOperationException", name := "<init>", desc := "(Ljava/lang/String;)V" } : Jvm.MethodName) prog_20_method_2_code (2 : Nat) (Option.none : Option Jvm.ClassFile.FieldType)) ∈ x_Wd := x_in3 (i := 205) rfl rfl
theorem q_686 : (Cond.methodLink "java/lang/UnsupportedOperationException" (7 : Nat) ({ cls := "java/lang/RuntimeException", name := "<init>", desc := "(Ljava/lang/String;)V" } : Jvm.MethodName)) ∈ x_Wd := x_in3 (i := 206) rfl rfl
theorem q_687 : (Cond.lays "java/lang/UnsupportedOperationException" "java/lang/Throwable" "depth" "I") ∈ x_Wd := x_in3 (i := 207) rfl rfl
theorem q_688 : (Cond.superclass "java/lang/UnsupportedOperationException" "java/lang/RuntimeException") ∈ x_Wd := x_in3 (i := 208) rfl rfl
theorem q_689 : (Cond.methodLink "CheckedMachineLaw" (76 : Nat) ({ cls := "CheckedMachineLaw", name := "run", desc := "(LCheckedMachine;J[J)I" } : Jvm.MethodName)) ∈ x_Wd := x_in3 (i := 209) rfl rfl
theorem q_690 : (Cond.static ({ cls := "CheckedMachineLaw", name := "run", desc := "(LCheckedMachine;J[J)I" } : Jvm.MethodName)) ∈ x_Wd := x_in3 (i := 210) rfl rfl
theorem q_691 : (Cond.codeWith ({ cls := "CheckedMachineLaw", name := "run", desc := "(LCheckedMachine;J[J)I" } : Jvm.MethodName) method_7_code (5 : Nat) (Option.some Jvm.ClassFile.FieldType.int) [((0 : Nat), (8 : Nat), (11 : Nat), (15 : Nat))]) ∈ x_Wd := x_in3 (i := 211) rfl rfl
theorem q_692 : (Cond.methodLink "CheckedMachineLaw" (33 : Nat) ({ cls := "CheckedMachine", name := "run", desc := "(J)J" } : Jvm.MethodName)) ∈ x_Wd := x_in3 (i := 212) rfl rfl
theorem q_693 : (Cond.instanceMethod ({ cls := "CheckedMachine", name := "run", desc := "(J)J" } : Jvm.MethodName)) ∈ x_Wd := x_in3 (i := 213) rfl rfl
theorem q_694 : (Cond.selects "CheckedMachine" ({ cls := "CheckedMachine", name := "run", desc := "(J)J" } : Jvm.MethodName) ({ cls := "CheckedMachine", name := "run", desc := "(J)J" } : Jvm.MethodName)) ∈ x_Wd := x_in3 (i := 214) rfl rfl
theorem q_695 : (Cond.code ({ cls := "CheckedMachine", name := "run", desc := "(J)J" } : Jvm.MethodName) prog_1_method_6_code (3 : Nat) (Option.some Jvm.ClassFile.FieldType.long)) ∈ x_Wd := x_in3 (i := 215) rfl rfl
theorem q_697 : (Cond.methodLink "CheckedMachine" (89 : Nat) ({ cls := "CheckedMachine$Runner", name := "runThrough", desc := "(J)J" } : Jvm.MethodName)) ∈ x_Wd := x_in3 (i := 217) rfl rfl
theorem q_698 : (Cond.instanceMethod ({ cls := "CheckedMachine$Runner", name := "runThrough", desc := "(J)J" } : Jvm.MethodName)) ∈ x_Wd := x_in3 (i := 218) rfl rfl
theorem q_699 : (Cond.selects "CheckedMachine$Runner" ({ cls := "CheckedMachine$Runner", name := "runThrough", desc := "(J)J" } : Jvm.MethodName) ({ cls := "CheckedMachine$Runner", name := "runThrough", desc := "(J)J" } : Jvm.MethodName)) ∈ x_Wd := x_in3 (i := 219) rfl rfl
theorem q_700 : (Cond.code ({ cls := "CheckedMachine$Runner", name := "runThrough", desc := "(J)J" } : Jvm.MethodName) prog_8_method_6_code (5 : Nat) (Option.some Jvm.ClassFile.FieldType.long)) ∈ x_Wd := x_in3 (i := 220) rfl rfl
theorem q_701 : (Cond.methodLink "CheckedMachine$Runner" (39 : Nat) ({ cls := "CheckedMachine$Runner", name := "set", desc := "(IIJ)V" } : Jvm.MethodName)) ∈ x_Wd := x_in3 (i := 221) rfl rfl
theorem q_703 : (Cond.instanceMethod ({ cls := "CheckedMachine$Runner", name := "set", desc := "(IIJ)V" } : Jvm.MethodName)) ∈ x_Wd := x_in3 (i := 223) rfl rfl
theorem q_704 : (Cond.code ({ cls := "CheckedMachine$Runner", name := "set", desc := "(IIJ)V" } : Jvm.MethodName) prog_8_method_7_code (5 : Nat) (Option.none : Option Jvm.ClassFile.FieldType)) ∈ x_Wd := x_in3 (i := 224) rfl rfl
theorem q_705 : (Cond.methodLink "CheckedMachine$Runner" (43 : Nat) ({ cls := "CheckedMachine$Runner", name := "runStep", desc := "(I)I" } : Jvm.MethodName)) ∈ x_Wd := x_in3 (i := 225) rfl rfl
theorem q_707 : (Cond.instanceMethod ({ cls := "CheckedMachine$Runner", name := "runStep", desc := "(I)I" } : Jvm.MethodName)) ∈ x_Wd := x_in3 (i := 227) rfl rfl
theorem q_708 : (Cond.code ({ cls := "CheckedMachine$Runner", name := "runStep", desc := "(I)I" } : Jvm.MethodName) prog_8_method_8_code (3 : Nat) (Option.some Jvm.ClassFile.FieldType.int)) ∈ x_Wd := x_in3 (i := 228) rfl rfl
theorem q_709 : (Cond.methodLink "CheckedMachine$Runner" (47 : Nat) ({ cls := "CheckedMachine$Program", name := "stepAt", desc := "(I)LCheckedMachine$Step;" } : Jvm.MethodName)) ∈ x_Wd := x_in3 (i := 229) rfl rfl
theorem q_710 : (Cond.methodLink "CheckedMachine$Runner" (58 : Nat) ({ cls := "CheckedMachine$Step", name := "mayJump", desc := "()Z" } : Jvm.MethodName)) ∈ x_Wd := x_in3 (i := 230) rfl rfl
theorem q_711 : (Cond.methodLink "CheckedMachine$Runner" (62 : Nat) ({ cls := "CheckedMachine$Runner", name := "jumps", desc := "(LCheckedMachine$Step;)Z" } : Jvm.MethodName)) ∈ x_Wd := x_in3 (i := 231) rfl rfl
theorem q_713 : (Cond.instanceMethod ({ cls := "CheckedMachine$Runner", name := "jumps", desc := "(LCheckedMachine$Step;)Z" } : Jvm.MethodName)) ∈ x_Wd := x_in3 (i := 233) rfl rfl
theorem q_714 : (Cond.code ({ cls := "CheckedMachine$Runner", name := "jumps", desc := "(LCheckedMachine$Step;)Z" } : Jvm.MethodName) prog_8_method_9_code (2 : Nat) (Option.some Jvm.ClassFile.FieldType.boolean)) ∈ x_Wd := x_in3 (i := 234) rfl rfl
theorem q_715 : (Cond.methodLink "CheckedMachine$Runner" (69 : Nat) ({ cls := "CheckedMachine$Runner", name := "reachOut", desc := "(LCheckedMachine$Step;)V" } : Jvm.MethodName)) ∈ x_Wd := x_in3 (i := 235) rfl rfl
theorem q_717 : (Cond.instanceMethod ({ cls := "CheckedMachine$Runner", name := "reachOut", desc := "(LCheckedMachine$Step;)V" } : Jvm.MethodName)) ∈ x_Wd := x_in3 (i := 237) rfl rfl
theorem q_718 : (Cond.code ({ cls := "CheckedMachine$Runner", name := "reachOut", desc := "(LCheckedMachine$Step;)V" } : Jvm.MethodName) prog_8_method_11_code (2 : Nat) (Option.none : Option Jvm.ClassFile.FieldType)) ∈ x_Wd := x_in3 (i := 238) rfl rfl
theorem q_719 : (Cond.methodLink "CheckedMachine$Runner" (85 : Nat) ({ cls := "CheckedMachine$Runner", name := "load", desc := "(IIJ)V" } : Jvm.MethodName)) ∈ x_Wd := x_in3 (i := 239) rfl rfl
theorem q_721 : (Cond.instanceMethod ({ cls := "CheckedMachine$Runner", name := "load", desc := "(IIJ)V" } : Jvm.MethodName)) ∈ x_Wd := x_in4 (i := 1) rfl rfl
theorem q_722 : (Cond.code ({ cls := "CheckedMachine$Runner", name := "load", desc := "(IIJ)V" } : Jvm.MethodName) prog_8_method_12_code (6 : Nat) (Option.none : Option Jvm.ClassFile.FieldType)) ∈ x_Wd := x_in4 (i := 2) rfl rfl
theorem q_723 : (Cond.methodLink "CheckedMachine$Runner" (95 : Nat) ({ cls := "CheckedMachine$Runner", name := "mapCell", desc := "(II)J" } : Jvm.MethodName)) ∈ x_Wd := x_in4 (i := 3) rfl rfl
theorem q_724 : (Cond.instanceMethod ({ cls := "CheckedMachine$Runner", name := "mapCell", desc := "(II)J" } : Jvm.MethodName)) ∈ x_Wd := x_in4 (i := 4) rfl rfl
theorem q_725 : (Cond.selects "CheckedMachine$Runner" ({ cls := "CheckedMachine$Runner", name := "mapCell", desc := "(II)J" } : Jvm.MethodName) ({ cls := "CheckedMachine$Runner", name := "mapCell", desc := "(II)J" } : Jvm.MethodName)) ∈ x_Wd := x_in4 (i := 5) rfl rfl
theorem q_726 : (Cond.code ({ cls := "CheckedMachine$Runner", name := "mapCell", desc := "(II)J" } : Jvm.MethodName) prog_8_method_4_code (3 : Nat) (Option.some Jvm.ClassFile.FieldType.long)) ∈ x_Wd := x_in4 (i := 6) rfl rfl
theorem q_728 : (Cond.static ({ cls := "CheckedMachine", name := "isInMap", desc := "(II)Z" } : Jvm.MethodName)) ∈ x_Wd := x_in4 (i := 8) rfl rfl
theorem q_729 : (Cond.code ({ cls := "CheckedMachine", name := "isInMap", desc := "(II)Z" } : Jvm.MethodName) prog_1_method_11_code (2 : Nat) (Option.some Jvm.ClassFile.FieldType.boolean)) ∈ x_Wd := x_in4 (i := 9) rfl rfl
theorem q_730 : (Cond.constantLong "CheckedMachine$Runner" (99 : Nat) (6 : Int64)) ∈ x_Wd := x_in4 (i := 10) rfl rfl
theorem q_731 : (Cond.methodLink "CheckedMachine$Runner" (88 : Nat) ({ cls := "CheckedMachine$Runner", name := "store", desc := "(IIJ)V" } : Jvm.MethodName)) ∈ x_Wd := x_in4 (i := 11) rfl rfl
theorem q_733 : (Cond.instanceMethod ({ cls := "CheckedMachine$Runner", name := "store", desc := "(IIJ)V" } : Jvm.MethodName)) ∈ x_Wd := x_in4 (i := 13) rfl rfl
theorem q_734 : (Cond.code ({ cls := "CheckedMachine$Runner", name := "store", desc := "(IIJ)V" } : Jvm.MethodName) prog_8_method_13_code (5 : Nat) (Option.none : Option Jvm.ClassFile.FieldType)) ∈ x_Wd := x_in4 (i := 14) rfl rfl
theorem q_735 : (Cond.methodLink "CheckedMachine$Runner" (101 : Nat) ({ cls := "CheckedMachine$Runner", name := "setMapCell", desc := "(IIJ)V" } : Jvm.MethodName)) ∈ x_Wd := x_in4 (i := 15) rfl rfl
theorem q_736 : (Cond.instanceMethod ({ cls := "CheckedMachine$Runner", name := "setMapCell", desc := "(IIJ)V" } : Jvm.MethodName)) ∈ x_Wd := x_in4 (i := 16) rfl rfl
theorem q_737 : (Cond.selects "CheckedMachine$Runner" ({ cls := "CheckedMachine$Runner", name := "setMapCell", desc := "(IIJ)V" } : Jvm.MethodName) ({ cls := "CheckedMachine$Runner", name := "setMapCell", desc := "(IIJ)V" } : Jvm.MethodName)) ∈ x_Wd := x_in4 (i := 17) rfl rfl
theorem q_738 : (Cond.code ({ cls := "CheckedMachine$Runner", name := "setMapCell", desc := "(IIJ)V" } : Jvm.MethodName) prog_8_method_5_code (5 : Nat) (Option.none : Option Jvm.ClassFile.FieldType)) ∈ x_Wd := x_in4 (i := 18) rfl rfl
theorem q_739 : (Cond.methodLink "CheckedMachine$Runner" (91 : Nat) ({ cls := "CheckedMachine$Runner", name := "call", desc := "(I)V" } : Jvm.MethodName)) ∈ x_Wd := x_in4 (i := 19) rfl rfl
theorem q_741 : (Cond.instanceMethod ({ cls := "CheckedMachine$Runner", name := "call", desc := "(I)V" } : Jvm.MethodName)) ∈ x_Wd := x_in4 (i := 21) rfl rfl
theorem q_742 : (Cond.code ({ cls := "CheckedMachine$Runner", name := "call", desc := "(I)V" } : Jvm.MethodName) prog_8_method_14_code (2 : Nat) (Option.none : Option Jvm.ClassFile.FieldType)) ∈ x_Wd := x_in4 (i := 22) rfl rfl
theorem q_743 : (Cond.methodLink "CheckedMachine$Runner" (104 : Nat) ({ cls := "CheckedMachine$Runner", name := "findRow", desc := "(J)V" } : Jvm.MethodName)) ∈ x_Wd := x_in4 (i := 23) rfl rfl
theorem q_745 : (Cond.instanceMethod ({ cls := "CheckedMachine$Runner", name := "findRow", desc := "(J)V" } : Jvm.MethodName)) ∈ x_Wd := x_in4 (i := 25) rfl rfl
theorem q_746 : (Cond.code ({ cls := "CheckedMachine$Runner", name := "findRow", desc := "(J)V" } : Jvm.MethodName) prog_8_method_15_code (3 : Nat) (Option.none : Option Jvm.ClassFile.FieldType)) ∈ x_Wd := x_in4 (i := 26) rfl rfl
theorem q_747 : (Cond.methodLink "CheckedMachine$Runner" (108 : Nat) ({ cls := "java/lang/Math", name := "max", desc := "(JJ)J" } : Jvm.MethodName)) ∈ x_Wd := x_in4 (i := 27) rfl rfl
theorem q_748 : (Cond.methodLink "CheckedMachine$Runner" (73 : Nat) ({ cls := "CheckedMachine$Runner", name := "reckon", desc := "(LCheckedMachine$Step;)V" } : Jvm.MethodName)) ∈ x_Wd := x_in4 (i := 28) rfl rfl
theorem q_750 : (Cond.instanceMethod ({ cls := "CheckedMachine$Runner", name := "reckon", desc := "(LCheckedMachine$Step;)V" } : Jvm.MethodName)) ∈ x_Wd := x_in4 (i := 30) rfl rfl
theorem q_751 : (Cond.code ({ cls := "CheckedMachine$Runner", name := "reckon", desc := "(LCheckedMachine$Step;)V" } : Jvm.MethodName) prog_8_method_10_code (5 : Nat) (Option.none : Option Jvm.ClassFile.FieldType)) ∈ x_Wd := x_in4 (i := 31) rfl rfl
theorem q_752 : (Cond.methodLink "CheckedMachineLaw" (80 : Nat) ({ cls := "CheckedMachineLaw", name := "row", desc := "(LCheckedMachine;II[J)I" } : Jvm.MethodName)) ∈ x_Wd := x_in4 (i := 32) rfl rfl
theorem q_753 : (Cond.static ({ cls := "CheckedMachineLaw", name := "row", desc := "(LCheckedMachine;II[J)I" } : Jvm.MethodName)) ∈ x_Wd := x_in4 (i := 33) rfl rfl
theorem q_754 : (Cond.codeWith ({ cls := "CheckedMachineLaw", name := "row", desc := "(LCheckedMachine;II[J)I" } : Jvm.MethodName) method_8_code (5 : Nat) (Option.some Jvm.ClassFile.FieldType.int) [((0 : Nat), (9 : Nat), (12 : Nat), (13 : Nat))]) ∈ x_Wd := x_in4 (i := 34) rfl rfl
theorem q_755 : (Cond.methodLink "CheckedMachineLaw" (37 : Nat) ({ cls := "CheckedMachine", name := "row", desc := "(II)J" } : Jvm.MethodName)) ∈ x_Wd := x_in4 (i := 35) rfl rfl
theorem q_756 : (Cond.instanceMethod ({ cls := "CheckedMachine", name := "row", desc := "(II)J" } : Jvm.MethodName)) ∈ x_Wd := x_in4 (i := 36) rfl rfl
theorem q_757 : (Cond.selects "CheckedMachine" ({ cls := "CheckedMachine", name := "row", desc := "(II)J" } : Jvm.MethodName) ({ cls := "CheckedMachine", name := "row", desc := "(II)J" } : Jvm.MethodName)) ∈ x_Wd := x_in4 (i := 37) rfl rfl
theorem q_758 : (Cond.code ({ cls := "CheckedMachine", name := "row", desc := "(II)J" } : Jvm.MethodName) prog_1_method_7_code (3 : Nat) (Option.some Jvm.ClassFile.FieldType.long)) ∈ x_Wd := x_in4 (i := 38) rfl rfl
theorem q_759 : (Cond.methodLink "CheckedMachine" (93 : Nat) ({ cls := "CheckedMachine", name := "isInMap", desc := "(II)Z" } : Jvm.MethodName)) ∈ x_Wd := x_in4 (i := 39) rfl rfl
theorem q_761 : (Cond.methodLink "CheckedMachine" (99 : Nat) ({ cls := "CheckedMachine$Runner", name := "mapCell", desc := "(II)J" } : Jvm.MethodName)) ∈ x_Wd := x_in4 (i := 41) rfl rfl
theorem q_762 : (Cond.methodLink "CheckedMachineLaw" (84 : Nat) ({ cls := "CheckedMachineLaw", name := "fill", desc := "(LCheckedMachine;IIJ)I" } : Jvm.MethodName)) ∈ x_Wd := x_in4 (i := 42) rfl rfl
theorem q_763 : (Cond.static ({ cls := "CheckedMachineLaw", name := "fill", desc := "(LCheckedMachine;IIJ)I" } : Jvm.MethodName)) ∈ x_Wd := x_in4 (i := 43) rfl rfl
theorem q_764 : (Cond.codeWith ({ cls := "CheckedMachineLaw", name := "fill", desc := "(LCheckedMachine;IIJ)I" } : Jvm.MethodName) method_9_code (6 : Nat) (Option.some Jvm.ClassFile.FieldType.int) [((0 : Nat), (7 : Nat), (10 : Nat), (13 : Nat))]) ∈ x_Wd := x_in4 (i := 44) rfl rfl
theorem q_765 : (Cond.methodLink "CheckedMachineLaw" (41 : Nat) ({ cls := "CheckedMachine", name := "fill", desc := "(IIJ)V" } : Jvm.MethodName)) ∈ x_Wd := x_in4 (i := 45) rfl rfl
theorem q_766 : (Cond.instanceMethod ({ cls := "CheckedMachine", name := "fill", desc := "(IIJ)V" } : Jvm.MethodName)) ∈ x_Wd := x_in4 (i := 46) rfl rfl
theorem q_767 : (Cond.selects "CheckedMachine" ({ cls := "CheckedMachine", name := "fill", desc := "(IIJ)V" } : Jvm.MethodName) ({ cls := "CheckedMachine", name := "fill", desc := "(IIJ)V" } : Jvm.MethodName)) ∈ x_Wd := x_in4 (i := 47) rfl rfl
theorem q_768 : (Cond.code ({ cls := "CheckedMachine", name := "fill", desc := "(IIJ)V" } : Jvm.MethodName) prog_1_method_8_code (5 : Nat) (Option.none : Option Jvm.ClassFile.FieldType)) ∈ x_Wd := x_in4 (i := 48) rfl rfl
theorem q_769 : (Cond.methodLink "CheckedMachine" (103 : Nat) ({ cls := "CheckedMachine$Runner", name := "setMapCell", desc := "(IIJ)V" } : Jvm.MethodName)) ∈ x_Wd := x_in4 (i := 49) rfl rfl
theorem q_770 : (Cond.methodLink "CheckedMachineLaw" (88 : Nat) ({ cls := "CheckedMachineLaw", name := "outcome", desc := "(LCheckedMachine;Z[J)I" } : Jvm.MethodName)) ∈ x_Wd := x_in4 (i := 50) rfl rfl
theorem q_771 : (Cond.static ({ cls := "CheckedMachineLaw", name := "outcome", desc := "(LCheckedMachine;Z[J)I" } : Jvm.MethodName)) ∈ x_Wd := x_in4 (i := 51) rfl rfl
theorem q_772 : (Cond.codeWith ({ cls := "CheckedMachineLaw", name := "outcome", desc := "(LCheckedMachine;Z[J)I" } : Jvm.MethodName) method_10_code (4 : Nat) (Option.some Jvm.ClassFile.FieldType.int) [((0 : Nat), (8 : Nat), (11 : Nat), (15 : Nat))]) ∈ x_Wd := x_in4 (i := 52) rfl rfl
theorem q_773 : (Cond.methodLink "CheckedMachineLaw" (45 : Nat) ({ cls := "CheckedMachine", name := "outcome", desc := "(Z)J" } : Jvm.MethodName)) ∈ x_Wd := x_in4 (i := 53) rfl rfl
theorem q_774 : (Cond.instanceMethod ({ cls := "CheckedMachine", name := "outcome", desc := "(Z)J" } : Jvm.MethodName)) ∈ x_Wd := x_in4 (i := 54) rfl rfl
theorem q_775 : (Cond.selects "CheckedMachine" ({ cls := "CheckedMachine", name := "outcome", desc := "(Z)J" } : Jvm.MethodName) ({ cls := "CheckedMachine", name := "outcome", desc := "(Z)J" } : Jvm.MethodName)) ∈ x_Wd := x_in4 (i := 55) rfl rfl
theorem q_776 : (Cond.code ({ cls := "CheckedMachine", name := "outcome", desc := "(Z)J" } : Jvm.MethodName) prog_1_method_9_code (2 : Nat) (Option.some Jvm.ClassFile.FieldType.long)) ∈ x_Wd := x_in4 (i := 56) rfl rfl
theorem q_777 : (Cond.methodLink "CheckedMachine" (107 : Nat) ({ cls := "CheckedMachine$Checker", name := "greatest", desc := "()J" } : Jvm.MethodName)) ∈ x_Wd := x_in4 (i := 57) rfl rfl
theorem q_778 : (Cond.instanceMethod ({ cls := "CheckedMachine$Checker", name := "greatest", desc := "()J" } : Jvm.MethodName)) ∈ x_Wd := x_in4 (i := 58) rfl rfl
theorem q_779 : (Cond.selects "CheckedMachine$Checker" ({ cls := "CheckedMachine$Checker", name := "greatest", desc := "()J" } : Jvm.MethodName) ({ cls := "CheckedMachine$Checker", name := "greatest", desc := "()J" } : Jvm.MethodName)) ∈ x_Wd := x_in4 (i := 59) rfl rfl
theorem q_780 : (Cond.code ({ cls := "CheckedMachine$Checker", name := "greatest", desc := "()J" } : Jvm.MethodName) prog_2_method_6_code (1 : Nat) (Option.some Jvm.ClassFile.FieldType.long)) ∈ x_Wd := x_in4 (i := 60) rfl rfl
theorem q_781 : (Cond.methodLink "CheckedMachine" (111 : Nat) ({ cls := "CheckedMachine$Checker", name := "least", desc := "()J" } : Jvm.MethodName)) ∈ x_Wd := x_in4 (i := 61) rfl rfl
theorem q_782 : (Cond.instanceMethod ({ cls := "CheckedMachine$Checker", name := "least", desc := "()J" } : Jvm.MethodName)) ∈ x_Wd := x_in4 (i := 62) rfl rfl
theorem q_783 : (Cond.selects "CheckedMachine$Checker" ({ cls := "CheckedMachine$Checker", name := "least", desc := "()J" } : Jvm.MethodName) ({ cls := "CheckedMachine$Checker", name := "least", desc := "()J" } : Jvm.MethodName)) ∈ x_Wd := x_in4 (i := 63) rfl rfl
theorem q_784 : (Cond.code ({ cls := "CheckedMachine$Checker", name := "least", desc := "()J" } : Jvm.MethodName) prog_2_method_5_code (1 : Nat) (Option.some Jvm.ClassFile.FieldType.long)) ∈ x_Wd := x_in4 (i := 64) rfl rfl
theorem q_785 : (Cond.classLink "CheckedMachineLaw" (50 : Nat) "CheckedMachineModel") ∈ x_Wd := x_in4 (i := 65) rfl rfl
theorem q_786 : (Cond.instantiable "CheckedMachineModel" (26 : Nat)) ∈ x_Wd := x_in4 (i := 66) rfl rfl
theorem q_787 : (Cond.methodLink "CheckedMachineLaw" (52 : Nat) ({ cls := "CheckedMachineModel", name := "<init>", desc := "()V" } : Jvm.MethodName)) ∈ x_Wd := x_in4 (i := 67) rfl rfl
theorem q_788 : (Cond.instanceMethod ({ cls := "CheckedMachineModel", name := "<init>", desc := "()V" } : Jvm.MethodName)) ∈ x_Wd := x_in4 (i := 68) rfl rfl
theorem q_789 : (Cond.code ({ cls := "CheckedMachineModel", name := "<init>", desc := "()V" } : Jvm.MethodName) prog_11_method_1_code (1 : Nat) (Option.none : Option Jvm.ClassFile.FieldType)) ∈ x_Wd := x_in4 (i := 69) rfl rfl
theorem q_790 : (Cond.methodLink "CheckedMachineModel" (1 : Nat) ({ cls := "java/lang/Object", name := "<init>", desc := "()V" } : Jvm.MethodName)) ∈ x_Wd := x_in4 (i := 70) rfl rfl
theorem q_791 : (Cond.fieldLink "CheckedMachineModel" (7 : Nat) "CheckedMachineModel" "op" "[I") ∈ x_Wd := x_in4 (i := 71) rfl rfl
theorem q_792 : (Cond.fieldLink "CheckedMachineModel" (13 : Nat) "CheckedMachineModel" "d" "[I") ∈ x_Wd := x_in4 (i := 72) rfl rfl
theorem q_793 : (Cond.fieldLink "CheckedMachineModel" (16 : Nat) "CheckedMachineModel" "s" "[I") ∈ x_Wd := x_in4 (i := 73) rfl rfl
theorem q_794 : (Cond.fieldLink "CheckedMachineModel" (19 : Nat) "CheckedMachineModel" "n" "[I") ∈ x_Wd := x_in4 (i := 74) rfl rfl
theorem q_795 : (Cond.fieldLink "CheckedMachineModel" (22 : Nat) "CheckedMachineModel" "target" "[I") ∈ x_Wd := x_in4 (i := 75) rfl rfl
theorem q_796 : (Cond.fieldLink "CheckedMachineModel" (76 : Nat) "CheckedMachineModel" "size" "I") ∈ x_Wd := x_in4 (i := 76) rfl rfl
theorem q_797 : (Cond.fieldLink "CheckedMachineModel" (215 : Nat) "CheckedMachineModel" "reason" "I") ∈ x_Wd := x_in4 (i := 77) rfl rfl
theorem q_798 : (Cond.fieldLink "CheckedMachineModel" (218 : Nat) "CheckedMachineModel" "at" "I") ∈ x_Wd := x_in4 (i := 78) rfl rfl
theorem q_799 : (Cond.fieldLink "CheckedMachineModel" (208 : Nat) "CheckedMachineModel" "looked" "I") ∈ x_Wd := x_in4 (i := 79) rfl rfl
theorem q_800 : (Cond.fieldLink "CheckedMachineModel" (229 : Nat) "CheckedMachineModel" "ran" "I") ∈ x_Wd := x_in4 (i := 80) rfl rfl
theorem q_801 : (Cond.fieldLink "CheckedMachineModel" (224 : Nat) "CheckedMachineModel" "calls" "I") ∈ x_Wd := x_in4 (i := 81) rfl rfl
theorem q_802 : (Cond.fieldLink "CheckedMachineModel" (50 : Nat) "CheckedMachineModel" "thrown" "I") ∈ x_Wd := x_in4 (i := 82) rfl rfl
theorem q_803 : (Cond.fieldLink "CheckedMachineModel" (64 : Nat) "CheckedMachineModel" "checked" "Z") ∈ x_Wd := x_in4 (i := 83) rfl rfl
theorem q_804 : (Cond.fieldLink "CheckedMachineModel" (173 : Nat) "CheckedMachineModel" "any" "Z") ∈ x_Wd := x_in4 (i := 84) rfl rfl
theorem q_805 : (Cond.fieldLink "CheckedMachineModel" (176 : Nat) "CheckedMachineModel" "least" "J") ∈ x_Wd := x_in4 (i := 85) rfl rfl
theorem q_806 : (Cond.fieldLink "CheckedMachineModel" (180 : Nat) "CheckedMachineModel" "most" "J") ∈ x_Wd := x_in4 (i := 86) rfl rfl
theorem q_807 : (Cond.fieldLink "CheckedMachineModel" (25 : Nat) "CheckedMachineModel" "kind" "[I") ∈ x_Wd := x_in4 (i := 87) rfl rfl
theorem q_808 : (Cond.fieldLink "CheckedMachineModel" (28 : Nat) "CheckedMachineModel" "low" "[J") ∈ x_Wd := x_in4 (i := 88) rfl rfl
theorem q_809 : (Cond.fieldLink "CheckedMachineModel" (32 : Nat) "CheckedMachineModel" "high" "[J") ∈ x_Wd := x_in4 (i := 89) rfl rfl
theorem q_810 : (Cond.fieldLink "CheckedMachineModel" (35 : Nat) "CheckedMachineModel" "pileKind" "[I") ∈ x_Wd := x_in4 (i := 90) rfl rfl
theorem q_811 : (Cond.fieldLink "CheckedMachineModel" (38 : Nat) "CheckedMachineModel" "pileStep" "[I") ∈ x_Wd := x_in4 (i := 91) rfl rfl
theorem q_812 : (Cond.fieldLink "CheckedMachineModel" (41 : Nat) "CheckedMachineModel" "pileLow" "[J") ∈ x_Wd := x_in4 (i := 92) rfl rfl
theorem q_813 : (Cond.fieldLink "CheckedMachineModel" (44 : Nat) "CheckedMachineModel" "pileHigh" "[J") ∈ x_Wd := x_in4 (i := 93) rfl rfl
theorem q_814 : (Cond.fieldLink "CheckedMachineModel" (47 : Nat) "CheckedMachineModel" "map" "[J") ∈ x_Wd := x_in4 (i := 94) rfl rfl
theorem q_815 : (Cond.fieldLink "CheckedMachineModel" (137 : Nat) "CheckedMachineModel" "pile" "I") ∈ x_Wd := x_in4 (i := 95) rfl rfl
theorem q_816 : (Cond.fieldLink "CheckedMachineModel" (140 : Nat) "CheckedMachineModel" "step" "I") ∈ x_Wd := x_in4 (i := 96) rfl rfl
theorem q_817 : (Cond.laysFinal "CheckedMachineModel" "CheckedMachineModel" "op" "[I") ∈ x_Wd := x_in4 (i := 97) rfl rfl
theorem q_818 : (Cond.soleField "CheckedMachineModel" "op") ∈ x_Wd := x_in4 (i := 98) rfl rfl
theorem q_819 : (Cond.laysFinal "CheckedMachineModel" "CheckedMachineModel" "d" "[I") ∈ x_Wd := x_in4 (i := 99) rfl rfl
theorem q_820 : (Cond.soleField "CheckedMachineModel" "d") ∈ x_Wd := x_in4 (i := 100) rfl rfl
theorem q_821 : (Cond.laysFinal "CheckedMachineModel" "CheckedMachineModel" "s" "[I") ∈ x_Wd := x_in4 (i := 101) rfl rfl
theorem q_822 : (Cond.soleField "CheckedMachineModel" "s") ∈ x_Wd := x_in4 (i := 102) rfl rfl
theorem q_823 : (Cond.laysFinal "CheckedMachineModel" "CheckedMachineModel" "n" "[I") ∈ x_Wd := x_in4 (i := 103) rfl rfl
theorem q_824 : (Cond.soleField "CheckedMachineModel" "n") ∈ x_Wd := x_in4 (i := 104) rfl rfl
theorem q_825 : (Cond.laysFinal "CheckedMachineModel" "CheckedMachineModel" "target" "[I") ∈ x_Wd := x_in4 (i := 105) rfl rfl
theorem q_826 : (Cond.soleField "CheckedMachineModel" "target") ∈ x_Wd := x_in4 (i := 106) rfl rfl
theorem q_827 : (Cond.lays "CheckedMachineModel" "CheckedMachineModel" "size" "I") ∈ x_Wd := x_in4 (i := 107) rfl rfl
theorem q_828 : (Cond.soleField "CheckedMachineModel" "size") ∈ x_Wd := x_in4 (i := 108) rfl rfl
theorem q_829 : (Cond.lays "CheckedMachineModel" "CheckedMachineModel" "reason" "I") ∈ x_Wd := x_in4 (i := 109) rfl rfl
theorem q_830 : (Cond.soleField "CheckedMachineModel" "reason") ∈ x_Wd := x_in4 (i := 110) rfl rfl
theorem q_831 : (Cond.lays "CheckedMachineModel" "CheckedMachineModel" "at" "I") ∈ x_Wd := x_in4 (i := 111) rfl rfl
theorem q_832 : (Cond.soleField "CheckedMachineModel" "at") ∈ x_Wd := x_in4 (i := 112) rfl rfl
theorem q_833 : (Cond.lays "CheckedMachineModel" "CheckedMachineModel" "looked" "I") ∈ x_Wd := x_in4 (i := 113) rfl rfl
theorem q_834 : (Cond.soleField "CheckedMachineModel" "looked") ∈ x_Wd := x_in4 (i := 114) rfl rfl
theorem q_835 : (Cond.lays "CheckedMachineModel" "CheckedMachineModel" "ran" "I") ∈ x_Wd := x_in4 (i := 115) rfl rfl
theorem q_836 : (Cond.soleField "CheckedMachineModel" "ran") ∈ x_Wd := x_in4 (i := 116) rfl rfl
theorem q_837 : (Cond.lays "CheckedMachineModel" "CheckedMachineModel" "calls" "I") ∈ x_Wd := x_in4 (i := 117) rfl rfl
theorem q_838 : (Cond.soleField "CheckedMachineModel" "calls") ∈ x_Wd := x_in4 (i := 118) rfl rfl
theorem q_839 : (Cond.lays "CheckedMachineModel" "CheckedMachineModel" "thrown" "I") ∈ x_Wd := x_in4 (i := 119) rfl rfl
theorem q_840 : (Cond.soleField "CheckedMachineModel" "thrown") ∈ x_Wd := x_in4 (i := 120) rfl rfl
theorem q_841 : (Cond.lays "CheckedMachineModel" "CheckedMachineModel" "checked" "Z") ∈ x_Wd := x_in4 (i := 121) rfl rfl
theorem q_842 : (Cond.soleField "CheckedMachineModel" "checked") ∈ x_Wd := x_in4 (i := 122) rfl rfl
theorem q_843 : (Cond.lays "CheckedMachineModel" "CheckedMachineModel" "any" "Z") ∈ x_Wd := x_in4 (i := 123) rfl rfl
theorem q_844 : (Cond.soleField "CheckedMachineModel" "any") ∈ x_Wd := x_in4 (i := 124) rfl rfl
theorem q_845 : (Cond.lays "CheckedMachineModel" "CheckedMachineModel" "least" "J") ∈ x_Wd := x_in4 (i := 125) rfl rfl
theorem q_846 : (Cond.soleField "CheckedMachineModel" "least") ∈ x_Wd := x_in4 (i := 126) rfl rfl
theorem q_847 : (Cond.lays "CheckedMachineModel" "CheckedMachineModel" "most" "J") ∈ x_Wd := x_in4 (i := 127) rfl rfl
theorem q_848 : (Cond.soleField "CheckedMachineModel" "most") ∈ x_Wd := x_in4 (i := 128) rfl rfl
theorem q_849 : (Cond.laysFinal "CheckedMachineModel" "CheckedMachineModel" "kind" "[I") ∈ x_Wd := x_in4 (i := 129) rfl rfl
theorem q_850 : (Cond.soleField "CheckedMachineModel" "kind") ∈ x_Wd := x_in4 (i := 130) rfl rfl
theorem q_851 : (Cond.laysFinal "CheckedMachineModel" "CheckedMachineModel" "low" "[J") ∈ x_Wd := x_in4 (i := 131) rfl rfl
theorem q_852 : (Cond.soleField "CheckedMachineModel" "low") ∈ x_Wd := x_in4 (i := 132) rfl rfl
theorem q_853 : (Cond.laysFinal "CheckedMachineModel" "CheckedMachineModel" "high" "[J") ∈ x_Wd := x_in4 (i := 133) rfl rfl
theorem q_854 : (Cond.soleField "CheckedMachineModel" "high") ∈ x_Wd := x_in4 (i := 134) rfl rfl
theorem q_855 : (Cond.laysFinal "CheckedMachineModel" "CheckedMachineModel" "pileKind" "[I") ∈ x_Wd := x_in4 (i := 135) rfl rfl
theorem q_856 : (Cond.soleField "CheckedMachineModel" "pileKind") ∈ x_Wd := x_in4 (i := 136) rfl rfl
theorem q_857 : (Cond.laysFinal "CheckedMachineModel" "CheckedMachineModel" "pileStep" "[I") ∈ x_Wd := x_in4 (i := 137) rfl rfl
theorem q_858 : (Cond.soleField "CheckedMachineModel" "pileStep") ∈ x_Wd := x_in4 (i := 138) rfl rfl
theorem q_859 : (Cond.laysFinal "CheckedMachineModel" "CheckedMachineModel" "pileLow" "[J") ∈ x_Wd := x_in4 (i := 139) rfl rfl
theorem q_860 : (Cond.soleField "CheckedMachineModel" "pileLow") ∈ x_Wd := x_in4 (i := 140) rfl rfl
theorem q_861 : (Cond.laysFinal "CheckedMachineModel" "CheckedMachineModel" "pileHigh" "[J") ∈ x_Wd := x_in4 (i := 141) rfl rfl
theorem q_862 : (Cond.soleField "CheckedMachineModel" "pileHigh") ∈ x_Wd := x_in4 (i := 142) rfl rfl
theorem q_863 : (Cond.laysFinal "CheckedMachineModel" "CheckedMachineModel" "map" "[J") ∈ x_Wd := x_in4 (i := 143) rfl rfl
theorem q_864 : (Cond.soleField "CheckedMachineModel" "map") ∈ x_Wd := x_in4 (i := 144) rfl rfl
theorem q_865 : (Cond.lays "CheckedMachineModel" "CheckedMachineModel" "pile" "I") ∈ x_Wd := x_in4 (i := 145) rfl rfl
theorem q_866 : (Cond.soleField "CheckedMachineModel" "pile") ∈ x_Wd := x_in4 (i := 146) rfl rfl
theorem q_867 : (Cond.lays "CheckedMachineModel" "CheckedMachineModel" "step" "I") ∈ x_Wd := x_in4 (i := 147) rfl rfl
theorem q_868 : (Cond.soleField "CheckedMachineModel" "step") ∈ x_Wd := x_in4 (i := 148) rfl rfl
theorem q_869 : (Cond.superclass "CheckedMachineModel" "java/lang/Object") ∈ x_Wd := x_in4 (i := 149) rfl rfl
theorem q_870 : (Cond.methodLink "CheckedMachineLaw" (59 : Nat) ({ cls := "CheckedMachineModel", name := "thrown", desc := "()I" } : Jvm.MethodName)) ∈ x_Wd := x_in4 (i := 150) rfl rfl
theorem q_871 : (Cond.instanceMethod ({ cls := "CheckedMachineModel", name := "thrown", desc := "()I" } : Jvm.MethodName)) ∈ x_Wd := x_in4 (i := 151) rfl rfl
theorem q_872 : (Cond.selects "CheckedMachineModel" ({ cls := "CheckedMachineModel", name := "thrown", desc := "()I" } : Jvm.MethodName) ({ cls := "CheckedMachineModel", name := "thrown", desc := "()I" } : Jvm.MethodName)) ∈ x_Wd := x_in4 (i := 152) rfl rfl
theorem q_873 : (Cond.code ({ cls := "CheckedMachineModel", name := "thrown", desc := "()I" } : Jvm.MethodName) prog_11_method_2_code (1 : Nat) (Option.some Jvm.ClassFile.FieldType.int)) ∈ x_Wd := x_in4 (i := 153) rfl rfl
theorem q_874 : (Cond.methodLink "CheckedMachineLaw" (58 : Nat) ({ cls := "CheckedMachineModel", name := "add", desc := "(IIIII)I" } : Jvm.MethodName)) ∈ x_Wd := x_in4 (i := 154) rfl rfl
theorem q_875 : (Cond.instanceMethod ({ cls := "CheckedMachineModel", name := "add", desc := "(IIIII)I" } : Jvm.MethodName)) ∈ x_Wd := x_in4 (i := 155) rfl rfl
theorem q_876 : (Cond.selects "CheckedMachineModel" ({ cls := "CheckedMachineModel", name := "add", desc := "(IIIII)I" } : Jvm.MethodName) ({ cls := "CheckedMachineModel", name := "add", desc := "(IIIII)I" } : Jvm.MethodName)) ∈ x_Wd := x_in4 (i := 156) rfl rfl
theorem q_877 : (Cond.code ({ cls := "CheckedMachineModel", name := "add", desc := "(IIIII)I" } : Jvm.MethodName) prog_11_method_7_code (6 : Nat) (Option.some Jvm.ClassFile.FieldType.int)) ∈ x_Wd := x_in4 (i := 157) rfl rfl
theorem q_878 : (Cond.methodLink "CheckedMachineModel" (68 : Nat) ({ cls := "CheckedMachineModel", name := "fits", desc := "(IIII)Z" } : Jvm.MethodName)) ∈ x_Wd := x_in4 (i := 158) rfl rfl
theorem q_880 : (Cond.instanceMethod ({ cls := "CheckedMachineModel", name := "fits", desc := "(IIII)Z" } : Jvm.MethodName)) ∈ x_Wd := x_in4 (i := 160) rfl rfl
theorem q_881 : (Cond.code ({ cls := "CheckedMachineModel", name := "fits", desc := "(IIII)Z" } : Jvm.MethodName) prog_11_method_5_code (5 : Nat) (Option.some Jvm.ClassFile.FieldType.boolean)) ∈ x_Wd := x_in4 (i := 161) rfl rfl
theorem q_882 : (Cond.constantLong "CheckedMachineModel" (54 : Nat) (17 : Int64)) ∈ x_Wd := x_in4 (i := 162) rfl rfl
theorem q_883 : (Cond.methodLink "CheckedMachineModel" (56 : Nat) ({ cls := "CheckedMachineModel", name := "in", desc := "(JJJ)Z" } : Jvm.MethodName)) ∈ x_Wd := x_in4 (i := 163) rfl rfl
theorem q_884 : (Cond.static ({ cls := "CheckedMachineModel", name := "in", desc := "(JJJ)Z" } : Jvm.MethodName)) ∈ x_Wd := x_in4 (i := 164) rfl rfl
theorem q_885 : (Cond.code ({ cls := "CheckedMachineModel", name := "in", desc := "(JJJ)Z" } : Jvm.MethodName) prog_11_method_3_code (6 : Nat) (Option.some Jvm.ClassFile.FieldType.boolean)) ∈ x_Wd := x_in4 (i := 165) rfl rfl
theorem q_886 : (Cond.constantLong "CheckedMachineModel" (60 : Nat) (5 : Int64)) ∈ x_Wd := x_in4 (i := 166) rfl rfl
theorem q_887 : (Cond.constantLong "CheckedMachineModel" (62 : Nat) (23 : Int64)) ∈ x_Wd := x_in4 (i := 167) rfl rfl
theorem q_888 : (Cond.methodLink "CheckedMachineModel" (72 : Nat) ({ cls := "CheckedMachineModel", name := "bad", desc := "(Z)Z" } : Jvm.MethodName)) ∈ x_Wd := x_in4 (i := 168) rfl rfl
theorem q_890 : (Cond.instanceMethod ({ cls := "CheckedMachineModel", name := "bad", desc := "(Z)Z" } : Jvm.MethodName)) ∈ x_Wd := x_in4 (i := 170) rfl rfl
theorem q_891 : (Cond.code ({ cls := "CheckedMachineModel", name := "bad", desc := "(Z)Z" } : Jvm.MethodName) prog_11_method_4_code (2 : Nat) (Option.some Jvm.ClassFile.FieldType.boolean)) ∈ x_Wd := x_in4 (i := 171) rfl rfl
theorem q_892 : (Cond.methodLink "CheckedMachineModel" (79 : Nat) ({ cls := "CheckedMachineModel", name := "set", desc := "(IIIIII)V" } : Jvm.MethodName)) ∈ x_Wd := x_in4 (i := 172) rfl rfl
theorem q_894 : (Cond.instanceMethod ({ cls := "CheckedMachineModel", name := "set", desc := "(IIIIII)V" } : Jvm.MethodName)) ∈ x_Wd := x_in4 (i := 174) rfl rfl
theorem q_895 : (Cond.code ({ cls := "CheckedMachineModel", name := "set", desc := "(IIIIII)V" } : Jvm.MethodName) prog_11_method_6_code (7 : Nat) (Option.none : Option Jvm.ClassFile.FieldType)) ∈ x_Wd := x_in4 (i := 175) rfl rfl
theorem q_896 : (Cond.methodLink "CheckedMachineLaw" (65 : Nat) ({ cls := "CheckedMachineModel", name := "put", desc := "(IIIIII)V" } : Jvm.MethodName)) ∈ x_Wd := x_in4 (i := 176) rfl rfl
theorem q_897 : (Cond.instanceMethod ({ cls := "CheckedMachineModel", name := "put", desc := "(IIIIII)V" } : Jvm.MethodName)) ∈ x_Wd := x_in4 (i := 177) rfl rfl
theorem q_898 : (Cond.selects "CheckedMachineModel" ({ cls := "CheckedMachineModel", name := "put", desc := "(IIIIII)V" } : Jvm.MethodName) ({ cls := "CheckedMachineModel", name := "put", desc := "(IIIIII)V" } : Jvm.MethodName)) ∈ x_Wd := x_in4 (i := 178) rfl rfl
theorem q_899 : (Cond.code ({ cls := "CheckedMachineModel", name := "put", desc := "(IIIIII)V" } : Jvm.MethodName) prog_11_method_8_code (7 : Nat) (Option.none : Option Jvm.ClassFile.FieldType)) ∈ x_Wd := x_in4 (i := 179) rfl rfl
theorem q_900 : (Cond.methodLink "CheckedMachineLaw" (69 : Nat) ({ cls := "CheckedMachineModel", name := "cut", desc := "(I)V" } : Jvm.MethodName)) ∈ x_Wd := x_in4 (i := 180) rfl rfl
theorem q_901 : (Cond.instanceMethod ({ cls := "CheckedMachineModel", name := "cut", desc := "(I)V" } : Jvm.MethodName)) ∈ x_Wd := x_in4 (i := 181) rfl rfl
theorem q_902 : (Cond.selects "CheckedMachineModel" ({ cls := "CheckedMachineModel", name := "cut", desc := "(I)V" } : Jvm.MethodName) ({ cls := "CheckedMachineModel", name := "cut", desc := "(I)V" } : Jvm.MethodName)) ∈ x_Wd := x_in4 (i := 182) rfl rfl
theorem q_903 : (Cond.code ({ cls := "CheckedMachineModel", name := "cut", desc := "(I)V" } : Jvm.MethodName) prog_11_method_9_code (2 : Nat) (Option.none : Option Jvm.ClassFile.FieldType)) ∈ x_Wd := x_in4 (i := 183) rfl rfl
theorem q_904 : (Cond.methodLink "CheckedMachineLaw" (73 : Nat) ({ cls := "CheckedMachineModel", name := "check", desc := "()I" } : Jvm.MethodName)) ∈ x_Wd := x_in4 (i := 184) rfl rfl
theorem q_905 : (Cond.instanceMethod ({ cls := "CheckedMachineModel", name := "check", desc := "()I" } : Jvm.MethodName)) ∈ x_Wd := x_in4 (i := 185) rfl rfl
theorem q_906 : (Cond.selects "CheckedMachineModel" ({ cls := "CheckedMachineModel", name := "check", desc := "()I" } : Jvm.MethodName) ({ cls := "CheckedMachineModel", name := "check", desc := "()I" } : Jvm.MethodName)) ∈ x_Wd := x_in4 (i := 186) rfl rfl
theorem q_907 : (Cond.code ({ cls := "CheckedMachineModel", name := "check", desc := "()I" } : Jvm.MethodName) prog_11_method_37_code (3 : Nat) (Option.some Jvm.ClassFile.FieldType.int)) ∈ x_Wd := x_in4 (i := 187) rfl rfl
theorem q_908 : (Cond.methodLink "CheckedMachineModel" (83 : Nat) ({ cls := "CheckedMachineModel", name := "know", desc := "(IIJJ)V" } : Jvm.MethodName)) ∈ x_Wd := x_in4 (i := 188) rfl rfl
theorem q_910 : (Cond.instanceMethod ({ cls := "CheckedMachineModel", name := "know", desc := "(IIJJ)V" } : Jvm.MethodName)) ∈ x_Wd := x_in4 (i := 190) rfl rfl
theorem q_911 : (Cond.code ({ cls := "CheckedMachineModel", name := "know", desc := "(IIJJ)V" } : Jvm.MethodName) prog_11_method_10_code (7 : Nat) (Option.none : Option Jvm.ClassFile.FieldType)) ∈ x_Wd := x_in4 (i := 191) rfl rfl
theorem q_912 : (Cond.methodLink "CheckedMachineModel" (143 : Nat) ({ cls := "CheckedMachineModel", name := "anything", desc := "(I)V" } : Jvm.MethodName)) ∈ x_Wd := x_in4 (i := 192) rfl rfl
theorem q_914 : (Cond.instanceMethod ({ cls := "CheckedMachineModel", name := "anything", desc := "(I)V" } : Jvm.MethodName)) ∈ x_Wd := x_in4 (i := 194) rfl rfl
theorem q_915 : (Cond.code ({ cls := "CheckedMachineModel", name := "anything", desc := "(I)V" } : Jvm.MethodName) prog_11_method_12_code (2 : Nat) (Option.none : Option Jvm.ClassFile.FieldType)) ∈ x_Wd := x_in4 (i := 195) rfl rfl
theorem q_916 : (Cond.constantLong "CheckedMachineModel" (87 : Nat) (-9223372036854775808 : Int64)) ∈ x_Wd := x_in4 (i := 196) rfl rfl
theorem q_917 : (Cond.constantLong "CheckedMachineModel" (89 : Nat) (9223372036854775807 : Int64)) ∈ x_Wd := x_in4 (i := 197) rfl rfl
theorem q_918 : (Cond.methodLink "CheckedMachineModel" (211 : Nat) ({ cls := "CheckedMachineModel", name := "reasonAt", desc := "(I)I" } : Jvm.MethodName)) ∈ x_Wd := x_in4 (i := 198) rfl rfl
theorem q_920 : (Cond.instanceMethod ({ cls := "CheckedMachineModel", name := "reasonAt", desc := "(I)I" } : Jvm.MethodName)) ∈ x_Wd := x_in4 (i := 200) rfl rfl
theorem q_921 : (Cond.code ({ cls := "CheckedMachineModel", name := "reasonAt", desc := "(I)I" } : Jvm.MethodName) prog_11_method_23_code (2 : Nat) (Option.some Jvm.ClassFile.FieldType.int)) ∈ x_Wd := x_in4 (i := 201) rfl rfl
theorem q_922 : (Cond.constantLong "CheckedMachineModel" (113 : Nat) (10 : Int64)) ∈ x_Wd := x_in4 (i := 202) rfl rfl
theorem q_923 : (Cond.constantLong "CheckedMachineModel" (115 : Nat) (13 : Int64)) ∈ x_Wd := x_in4 (i := 203) rfl rfl
theorem q_924 : (Cond.methodLink "CheckedMachineModel" (117 : Nat) ({ cls := "CheckedMachineModel", name := "empties", desc := "(I)Z" } : Jvm.MethodName)) ∈ x_Wd := x_in4 (i := 204) rfl rfl
theorem q_926 : (Cond.instanceMethod ({ cls := "CheckedMachineModel", name := "empties", desc := "(I)Z" } : Jvm.MethodName)) ∈ x_Wd := x_in4 (i := 206) rfl rfl
theorem q_927 : (Cond.code ({ cls := "CheckedMachineModel", name := "empties", desc := "(I)Z" } : Jvm.MethodName) prog_11_method_17_code (3 : Nat) (Option.some Jvm.ClassFile.FieldType.boolean)) ∈ x_Wd := x_in4 (i := 207) rfl rfl
theorem q_928 : (Cond.methodLink "CheckedMachineModel" (91 : Nat) ({ cls := "CheckedMachineModel", name := "usesD", desc := "(I)Z" } : Jvm.MethodName)) ∈ x_Wd := x_in4 (i := 208) rfl rfl
theorem q_930 : (Cond.instanceMethod ({ cls := "CheckedMachineModel", name := "usesD", desc := "(I)Z" } : Jvm.MethodName)) ∈ x_Wd := x_in4 (i := 210) rfl rfl
theorem q_931 : (Cond.code ({ cls := "CheckedMachineModel", name := "usesD", desc := "(I)Z" } : Jvm.MethodName) prog_11_method_14_code (2 : Nat) (Option.some Jvm.ClassFile.FieldType.boolean)) ∈ x_Wd := x_in4 (i := 211) rfl rfl
theorem q_932 : (Cond.methodLink "CheckedMachineModel" (95 : Nat) ({ cls := "CheckedMachineModel", name := "usesS", desc := "(I)Z" } : Jvm.MethodName)) ∈ x_Wd := x_in4 (i := 212) rfl rfl
theorem q_934 : (Cond.instanceMethod ({ cls := "CheckedMachineModel", name := "usesS", desc := "(I)Z" } : Jvm.MethodName)) ∈ x_Wd := x_in4 (i := 214) rfl rfl
theorem q_935 : (Cond.code ({ cls := "CheckedMachineModel", name := "usesS", desc := "(I)Z" } : Jvm.MethodName) prog_11_method_15_code (2 : Nat) (Option.some Jvm.ClassFile.FieldType.boolean)) ∈ x_Wd := x_in4 (i := 215) rfl rfl
theorem q_936 : (Cond.methodLink "CheckedMachineModel" (120 : Nat) ({ cls := "CheckedMachineModel", name := "wrongNumber", desc := "(I)Z" } : Jvm.MethodName)) ∈ x_Wd := x_in4 (i := 216) rfl rfl
theorem q_938 : (Cond.instanceMethod ({ cls := "CheckedMachineModel", name := "wrongNumber", desc := "(I)Z" } : Jvm.MethodName)) ∈ x_Wd := x_in4 (i := 218) rfl rfl
theorem q_939 : (Cond.code ({ cls := "CheckedMachineModel", name := "wrongNumber", desc := "(I)Z" } : Jvm.MethodName) prog_11_method_18_code (3 : Nat) (Option.some Jvm.ClassFile.FieldType.boolean)) ∈ x_Wd := x_in4 (i := 219) rfl rfl
theorem q_940 : (Cond.constantLong "CheckedMachineModel" (98 : Nat) (63 : Int64)) ∈ x_Wd := x_in4 (i := 220) rfl rfl
theorem q_941 : (Cond.constantLong "CheckedMachineModel" (100 : Nat) (2 : Int64)) ∈ x_Wd := x_in4 (i := 221) rfl rfl
theorem q_942 : (Cond.methodLink "CheckedMachineModel" (123 : Nat) ({ cls := "CheckedMachineModel", name := "wrongKind", desc := "(I)Z" } : Jvm.MethodName)) ∈ x_Wd := x_in4 (i := 222) rfl rfl
theorem q_944 : (Cond.instanceMethod ({ cls := "CheckedMachineModel", name := "wrongKind", desc := "(I)Z" } : Jvm.MethodName)) ∈ x_Wd := x_in4 (i := 224) rfl rfl
theorem q_945 : (Cond.code ({ cls := "CheckedMachineModel", name := "wrongKind", desc := "(I)Z" } : Jvm.MethodName) prog_11_method_19_code (5 : Nat) (Option.some Jvm.ClassFile.FieldType.boolean)) ∈ x_Wd := x_in4 (i := 225) rfl rfl
theorem q_946 : (Cond.methodLink "CheckedMachineModel" (102 : Nat) ({ cls := "CheckedMachineModel", name := "place", desc := "(I)Z" } : Jvm.MethodName)) ∈ x_Wd := x_in4 (i := 226) rfl rfl
theorem q_948 : (Cond.instanceMethod ({ cls := "CheckedMachineModel", name := "place", desc := "(I)Z" } : Jvm.MethodName)) ∈ x_Wd := x_in4 (i := 228) rfl rfl
theorem q_949 : (Cond.code ({ cls := "CheckedMachineModel", name := "place", desc := "(I)Z" } : Jvm.MethodName) prog_11_method_16_code (2 : Nat) (Option.some Jvm.ClassFile.FieldType.boolean)) ∈ x_Wd := x_in4 (i := 229) rfl rfl
theorem q_950 : (Cond.methodLink "CheckedMachineModel" (126 : Nat) ({ cls := "CheckedMachineModel", name := "wrongStore", desc := "(I)Z" } : Jvm.MethodName)) ∈ x_Wd := x_in4 (i := 230) rfl rfl
theorem q_952 : (Cond.instanceMethod ({ cls := "CheckedMachineModel", name := "wrongStore", desc := "(I)Z" } : Jvm.MethodName)) ∈ x_Wd := x_in4 (i := 232) rfl rfl
theorem q_953 : (Cond.code ({ cls := "CheckedMachineModel", name := "wrongStore", desc := "(I)Z" } : Jvm.MethodName) prog_11_method_22_code (5 : Nat) (Option.some Jvm.ClassFile.FieldType.boolean)) ∈ x_Wd := x_in4 (i := 233) rfl rfl
theorem q_954 : (Cond.methodLink "CheckedMachineModel" (129 : Nat) ({ cls := "CheckedMachineModel", name := "wrongPlace", desc := "(I)Z" } : Jvm.MethodName)) ∈ x_Wd := x_in4 (i := 234) rfl rfl
theorem q_956 : (Cond.instanceMethod ({ cls := "CheckedMachineModel", name := "wrongPlace", desc := "(I)Z" } : Jvm.MethodName)) ∈ x_Wd := x_in4 (i := 236) rfl rfl
theorem q_957 : (Cond.code ({ cls := "CheckedMachineModel", name := "wrongPlace", desc := "(I)Z" } : Jvm.MethodName) prog_11_method_20_code (9 : Nat) (Option.some Jvm.ClassFile.FieldType.boolean)) ∈ x_Wd := x_in4 (i := 237) rfl rfl
theorem q_958 : (Cond.methodLink "CheckedMachineModel" (105 : Nat) ({ cls := "CheckedMachineModel", name := "overflows", desc := "(JJ)Z" } : Jvm.MethodName)) ∈ x_Wd := x_in4 (i := 238) rfl rfl
theorem q_959 : (Cond.static ({ cls := "CheckedMachineModel", name := "overflows", desc := "(JJ)Z" } : Jvm.MethodName)) ∈ x_Wd := x_in4 (i := 239) rfl rfl
theorem q_960 : (Cond.code ({ cls := "CheckedMachineModel", name := "overflows", desc := "(JJ)Z" } : Jvm.MethodName) prog_11_method_13_code (6 : Nat) (Option.some Jvm.ClassFile.FieldType.boolean)) ∈ x_Wd := x_in5 (i := 0) rfl rfl
theorem q_961 : (Cond.constantLong "CheckedMachineModel" (109 : Nat) (-100 : Int64)) ∈ x_Wd := x_in5 (i := 1) rfl rfl
theorem q_962 : (Cond.constantLong "CheckedMachineModel" (111 : Nat) (100 : Int64)) ∈ x_Wd := x_in5 (i := 2) rfl rfl
theorem q_963 : (Cond.methodLink "CheckedMachineModel" (132 : Nat) ({ cls := "CheckedMachineModel", name := "wrongCells", desc := "(I)Z" } : Jvm.MethodName)) ∈ x_Wd := x_in5 (i := 3) rfl rfl
theorem q_965 : (Cond.instanceMethod ({ cls := "CheckedMachineModel", name := "wrongCells", desc := "(I)Z" } : Jvm.MethodName)) ∈ x_Wd := x_in5 (i := 5) rfl rfl
theorem q_966 : (Cond.code ({ cls := "CheckedMachineModel", name := "wrongCells", desc := "(I)Z" } : Jvm.MethodName) prog_11_method_21_code (6 : Nat) (Option.some Jvm.ClassFile.FieldType.boolean)) ∈ x_Wd := x_in5 (i := 6) rfl rfl
theorem q_967 : (Cond.constantLong "CheckedMachineModel" (135 : Nat) (7 : Int64)) ∈ x_Wd := x_in5 (i := 7) rfl rfl
theorem q_968 : (Cond.methodLink "CheckedMachineModel" (221 : Nat) ({ cls := "CheckedMachineModel", name := "goOn", desc := "(I)Z" } : Jvm.MethodName)) ∈ x_Wd := x_in5 (i := 8) rfl rfl
theorem q_970 : (Cond.instanceMethod ({ cls := "CheckedMachineModel", name := "goOn", desc := "(I)Z" } : Jvm.MethodName)) ∈ x_Wd := x_in5 (i := 10) rfl rfl
theorem q_971 : (Cond.code ({ cls := "CheckedMachineModel", name := "goOn", desc := "(I)Z" } : Jvm.MethodName) prog_11_method_36_code (4 : Nat) (Option.some Jvm.ClassFile.FieldType.boolean)) ∈ x_Wd := x_in5 (i := 11) rfl rfl
theorem q_972 : (Cond.methodLink "CheckedMachineModel" (161 : Nat) ({ cls := "CheckedMachineModel", name := "copy", desc := "(II)V" } : Jvm.MethodName)) ∈ x_Wd := x_in5 (i := 12) rfl rfl
theorem q_974 : (Cond.instanceMethod ({ cls := "CheckedMachineModel", name := "copy", desc := "(II)V" } : Jvm.MethodName)) ∈ x_Wd := x_in5 (i := 14) rfl rfl
theorem q_975 : (Cond.code ({ cls := "CheckedMachineModel", name := "copy", desc := "(II)V" } : Jvm.MethodName) prog_11_method_11_code (3 : Nat) (Option.none : Option Jvm.ClassFile.FieldType)) ∈ x_Wd := x_in5 (i := 15) rfl rfl
theorem q_976 : (Cond.methodLink "CheckedMachineModel" (183 : Nat) ({ cls := "CheckedMachineModel", name := "move", desc := "(IJJ)V" } : Jvm.MethodName)) ∈ x_Wd := x_in5 (i := 16) rfl rfl
theorem q_978 : (Cond.instanceMethod ({ cls := "CheckedMachineModel", name := "move", desc := "(IJJ)V" } : Jvm.MethodName)) ∈ x_Wd := x_in5 (i := 18) rfl rfl
theorem q_979 : (Cond.code ({ cls := "CheckedMachineModel", name := "move", desc := "(IJJ)V" } : Jvm.MethodName) prog_11_method_26_code (6 : Nat) (Option.none : Option Jvm.ClassFile.FieldType)) ∈ x_Wd := x_in5 (i := 19) rfl rfl
theorem q_980 : (Cond.methodLink "CheckedMachineModel" (186 : Nat) ({ cls := "CheckedMachineModel", name := "subtract", desc := "(II)V" } : Jvm.MethodName)) ∈ x_Wd := x_in5 (i := 20) rfl rfl
theorem q_982 : (Cond.instanceMethod ({ cls := "CheckedMachineModel", name := "subtract", desc := "(II)V" } : Jvm.MethodName)) ∈ x_Wd := x_in5 (i := 22) rfl rfl
theorem q_983 : (Cond.code ({ cls := "CheckedMachineModel", name := "subtract", desc := "(II)V" } : Jvm.MethodName) prog_11_method_28_code (7 : Nat) (Option.none : Option Jvm.ClassFile.FieldType)) ∈ x_Wd := x_in5 (i := 23) rfl rfl
theorem q_984 : (Cond.methodLink "CheckedMachineModel" (189 : Nat) ({ cls := "CheckedMachineModel", name := "arithmetic", desc := "(IIJ)V" } : Jvm.MethodName)) ∈ x_Wd := x_in5 (i := 24) rfl rfl
theorem q_986 : (Cond.instanceMethod ({ cls := "CheckedMachineModel", name := "arithmetic", desc := "(IIJ)V" } : Jvm.MethodName)) ∈ x_Wd := x_in5 (i := 26) rfl rfl
theorem q_987 : (Cond.code ({ cls := "CheckedMachineModel", name := "arithmetic", desc := "(IIJ)V" } : Jvm.MethodName) prog_11_method_30_code (9 : Nat) (Option.none : Option Jvm.ClassFile.FieldType)) ∈ x_Wd := x_in5 (i := 27) rfl rfl
theorem q_988 : (Cond.constantLong "CheckedMachineModel" (147 : Nat) (-2147483648 : Int64)) ∈ x_Wd := x_in5 (i := 28) rfl rfl
theorem q_989 : (Cond.constantLong "CheckedMachineModel" (149 : Nat) (2147483648 : Int64)) ∈ x_Wd := x_in5 (i := 29) rfl rfl
theorem q_990 : (Cond.methodLink "CheckedMachineModel" (151 : Nat) ({ cls := "CheckedMachineModel", name := "spread", desc := "(IJJ)V" } : Jvm.MethodName)) ∈ x_Wd := x_in5 (i := 30) rfl rfl
theorem q_992 : (Cond.instanceMethod ({ cls := "CheckedMachineModel", name := "spread", desc := "(IJJ)V" } : Jvm.MethodName)) ∈ x_Wd := x_in5 (i := 32) rfl rfl
theorem q_993 : (Cond.code ({ cls := "CheckedMachineModel", name := "spread", desc := "(IJJ)V" } : Jvm.MethodName) prog_11_method_27_code (6 : Nat) (Option.none : Option Jvm.ClassFile.FieldType)) ∈ x_Wd := x_in5 (i := 33) rfl rfl
theorem q_994 : (Cond.methodLink "CheckedMachineModel" (155 : Nat) ({ cls := "CheckedMachineModel", name := "and", desc := "(IJ)V" } : Jvm.MethodName)) ∈ x_Wd := x_in5 (i := 34) rfl rfl
theorem q_996 : (Cond.instanceMethod ({ cls := "CheckedMachineModel", name := "and", desc := "(IJ)V" } : Jvm.MethodName)) ∈ x_Wd := x_in5 (i := 36) rfl rfl
theorem q_997 : (Cond.code ({ cls := "CheckedMachineModel", name := "and", desc := "(IJ)V" } : Jvm.MethodName) prog_11_method_29_code (4 : Nat) (Option.none : Option Jvm.ClassFile.FieldType)) ∈ x_Wd := x_in5 (i := 37) rfl rfl
theorem q_998 : (Cond.constantLong "CheckedMachineModel" (159 : Nat) (-1 : Int64)) ∈ x_Wd := x_in5 (i := 38) rfl rfl
theorem q_999 : (Cond.methodLink "CheckedMachineModel" (193 : Nat) ({ cls := "CheckedMachineModel", name := "branch", desc := "(I)V" } : Jvm.MethodName)) ∈ x_Wd := x_in5 (i := 39) rfl rfl
theorem q_1001 : (Cond.instanceMethod ({ cls := "CheckedMachineModel", name := "branch", desc := "(I)V" } : Jvm.MethodName)) ∈ x_Wd := x_in5 (i := 41) rfl rfl
theorem q_1002 : (Cond.code ({ cls := "CheckedMachineModel", name := "branch", desc := "(I)V" } : Jvm.MethodName) prog_11_method_34_code (18 : Nat) (Option.none : Option Jvm.ClassFile.FieldType)) ∈ x_Wd := x_in5 (i := 42) rfl rfl
theorem q_1003 : (Cond.methodLink "CheckedMachineModel" (167 : Nat) ({ cls := "CheckedMachineModel", name := "push", desc := "(I)V" } : Jvm.MethodName)) ∈ x_Wd := x_in5 (i := 43) rfl rfl
theorem q_1005 : (Cond.instanceMethod ({ cls := "CheckedMachineModel", name := "push", desc := "(I)V" } : Jvm.MethodName)) ∈ x_Wd := x_in5 (i := 45) rfl rfl
theorem q_1006 : (Cond.code ({ cls := "CheckedMachineModel", name := "push", desc := "(I)V" } : Jvm.MethodName) prog_11_method_24_code (3 : Nat) (Option.none : Option Jvm.ClassFile.FieldType)) ∈ x_Wd := x_in5 (i := 46) rfl rfl
theorem q_1007 : (Cond.methodLink "CheckedMachineModel" (170 : Nat) ({ cls := "CheckedMachineModel", name := "pop", desc := "()V" } : Jvm.MethodName)) ∈ x_Wd := x_in5 (i := 47) rfl rfl
theorem q_1009 : (Cond.instanceMethod ({ cls := "CheckedMachineModel", name := "pop", desc := "()V" } : Jvm.MethodName)) ∈ x_Wd := x_in5 (i := 49) rfl rfl
theorem q_1010 : (Cond.code ({ cls := "CheckedMachineModel", name := "pop", desc := "()V" } : Jvm.MethodName) prog_11_method_25_code (2 : Nat) (Option.none : Option Jvm.ClassFile.FieldType)) ∈ x_Wd := x_in5 (i := 50) rfl rfl
theorem q_1011 : (Cond.methodLink "CheckedMachineModel" (196 : Nat) ({ cls := "CheckedMachineModel", name := "load", desc := "(I)V" } : Jvm.MethodName)) ∈ x_Wd := x_in5 (i := 51) rfl rfl
theorem q_1013 : (Cond.instanceMethod ({ cls := "CheckedMachineModel", name := "load", desc := "(I)V" } : Jvm.MethodName)) ∈ x_Wd := x_in5 (i := 53) rfl rfl
theorem q_1014 : (Cond.code ({ cls := "CheckedMachineModel", name := "load", desc := "(I)V" } : Jvm.MethodName) prog_11_method_31_code (11 : Nat) (Option.none : Option Jvm.ClassFile.FieldType)) ∈ x_Wd := x_in5 (i := 54) rfl rfl
theorem q_1015 : (Cond.methodLink "CheckedMachineModel" (199 : Nat) ({ cls := "CheckedMachineModel", name := "store", desc := "(I)V" } : Jvm.MethodName)) ∈ x_Wd := x_in5 (i := 55) rfl rfl
theorem q_1017 : (Cond.instanceMethod ({ cls := "CheckedMachineModel", name := "store", desc := "(I)V" } : Jvm.MethodName)) ∈ x_Wd := x_in5 (i := 57) rfl rfl
theorem q_1018 : (Cond.code ({ cls := "CheckedMachineModel", name := "store", desc := "(I)V" } : Jvm.MethodName) prog_11_method_32_code (7 : Nat) (Option.none : Option Jvm.ClassFile.FieldType)) ∈ x_Wd := x_in5 (i := 58) rfl rfl
theorem q_1019 : (Cond.methodLink "CheckedMachineModel" (202 : Nat) ({ cls := "CheckedMachineModel", name := "callGuess", desc := "(I)V" } : Jvm.MethodName)) ∈ x_Wd := x_in5 (i := 59) rfl rfl
theorem q_1021 : (Cond.instanceMethod ({ cls := "CheckedMachineModel", name := "callGuess", desc := "(I)V" } : Jvm.MethodName)) ∈ x_Wd := x_in5 (i := 61) rfl rfl
theorem q_1022 : (Cond.code ({ cls := "CheckedMachineModel", name := "callGuess", desc := "(I)V" } : Jvm.MethodName) prog_11_method_33_code (3 : Nat) (Option.none : Option Jvm.ClassFile.FieldType)) ∈ x_Wd := x_in5 (i := 62) rfl rfl
theorem q_1023 : (Cond.constantLong "CheckedMachineModel" (165 : Nat) (99 : Int64)) ∈ x_Wd := x_in5 (i := 63) rfl rfl
theorem q_1024 : (Cond.methodLink "CheckedMachineModel" (205 : Nat) ({ cls := "CheckedMachineModel", name := "leave", desc := "()V" } : Jvm.MethodName)) ∈ x_Wd := x_in5 (i := 64) rfl rfl
theorem q_1026 : (Cond.instanceMethod ({ cls := "CheckedMachineModel", name := "leave", desc := "()V" } : Jvm.MethodName)) ∈ x_Wd := x_in5 (i := 66) rfl rfl
theorem q_1027 : (Cond.code ({ cls := "CheckedMachineModel", name := "leave", desc := "()V" } : Jvm.MethodName) prog_11_method_35_code (1 : Nat) (Option.none : Option Jvm.ClassFile.FieldType)) ∈ x_Wd := x_in5 (i := 67) rfl rfl
theorem q_1028 : (Cond.methodLink "CheckedMachineLaw" (79 : Nat) ({ cls := "CheckedMachineModel", name := "run", desc := "(J)J" } : Jvm.MethodName)) ∈ x_Wd := x_in5 (i := 68) rfl rfl
theorem q_1029 : (Cond.instanceMethod ({ cls := "CheckedMachineModel", name := "run", desc := "(J)J" } : Jvm.MethodName)) ∈ x_Wd := x_in5 (i := 69) rfl rfl
theorem q_1030 : (Cond.selects "CheckedMachineModel" ({ cls := "CheckedMachineModel", name := "run", desc := "(J)J" } : Jvm.MethodName) ({ cls := "CheckedMachineModel", name := "run", desc := "(J)J" } : Jvm.MethodName)) ∈ x_Wd := x_in5 (i := 70) rfl rfl
theorem q_1031 : (Cond.code ({ cls := "CheckedMachineModel", name := "run", desc := "(J)J" } : Jvm.MethodName) prog_11_method_42_code (6 : Nat) (Option.some Jvm.ClassFile.FieldType.long)) ∈ x_Wd := x_in5 (i := 71) rfl rfl
theorem q_1032 : (Cond.methodLink "CheckedMachineModel" (232 : Nat) ({ cls := "CheckedMachineModel", name := "compute", desc := "(I)V" } : Jvm.MethodName)) ∈ x_Wd := x_in5 (i := 72) rfl rfl
theorem q_1034 : (Cond.instanceMethod ({ cls := "CheckedMachineModel", name := "compute", desc := "(I)V" } : Jvm.MethodName)) ∈ x_Wd := x_in5 (i := 74) rfl rfl
theorem q_1035 : (Cond.code ({ cls := "CheckedMachineModel", name := "compute", desc := "(I)V" } : Jvm.MethodName) prog_11_method_39_code (6 : Nat) (Option.none : Option Jvm.ClassFile.FieldType)) ∈ x_Wd := x_in5 (i := 75) rfl rfl
theorem q_1036 : (Cond.methodLink "CheckedMachineModel" (235 : Nat) ({ cls := "CheckedMachineModel", name := "above", desc := "(I)Z" } : Jvm.MethodName)) ∈ x_Wd := x_in5 (i := 76) rfl rfl
theorem q_1038 : (Cond.instanceMethod ({ cls := "CheckedMachineModel", name := "above", desc := "(I)Z" } : Jvm.MethodName)) ∈ x_Wd := x_in5 (i := 78) rfl rfl
theorem q_1039 : (Cond.code ({ cls := "CheckedMachineModel", name := "above", desc := "(I)Z" } : Jvm.MethodName) prog_11_method_38_code (5 : Nat) (Option.some Jvm.ClassFile.FieldType.boolean)) ∈ x_Wd := x_in5 (i := 79) rfl rfl
theorem q_1040 : (Cond.methodLink "CheckedMachineModel" (238 : Nat) ({ cls := "CheckedMachineModel", name := "transfer", desc := "(IZ)V" } : Jvm.MethodName)) ∈ x_Wd := x_in5 (i := 80) rfl rfl
theorem q_1042 : (Cond.instanceMethod ({ cls := "CheckedMachineModel", name := "transfer", desc := "(IZ)V" } : Jvm.MethodName)) ∈ x_Wd := x_in5 (i := 82) rfl rfl
theorem q_1043 : (Cond.code ({ cls := "CheckedMachineModel", name := "transfer", desc := "(IZ)V" } : Jvm.MethodName) prog_11_method_40_code (6 : Nat) (Option.none : Option Jvm.ClassFile.FieldType)) ∈ x_Wd := x_in5 (i := 83) rfl rfl
theorem q_1044 : (Cond.methodLink "CheckedMachineModel" (242 : Nat) ({ cls := "CheckedMachineModel", name := "callNow", desc := "(I)V" } : Jvm.MethodName)) ∈ x_Wd := x_in5 (i := 84) rfl rfl
theorem q_1046 : (Cond.instanceMethod ({ cls := "CheckedMachineModel", name := "callNow", desc := "(I)V" } : Jvm.MethodName)) ∈ x_Wd := x_in5 (i := 86) rfl rfl
theorem q_1047 : (Cond.code ({ cls := "CheckedMachineModel", name := "callNow", desc := "(I)V" } : Jvm.MethodName) prog_11_method_41_code (7 : Nat) (Option.none : Option Jvm.ClassFile.FieldType)) ∈ x_Wd := x_in5 (i := 87) rfl rfl
theorem q_1048 : (Cond.constantLong "CheckedMachineModel" (227 : Nat) (6 : Int64)) ∈ x_Wd := x_in5 (i := 88) rfl rfl
theorem q_1049 : (Cond.methodLink "CheckedMachineLaw" (83 : Nat) ({ cls := "CheckedMachineModel", name := "row", desc := "(II)J" } : Jvm.MethodName)) ∈ x_Wd := x_in5 (i := 89) rfl rfl
theorem q_1050 : (Cond.instanceMethod ({ cls := "CheckedMachineModel", name := "row", desc := "(II)J" } : Jvm.MethodName)) ∈ x_Wd := x_in5 (i := 90) rfl rfl
theorem q_1051 : (Cond.selects "CheckedMachineModel" ({ cls := "CheckedMachineModel", name := "row", desc := "(II)J" } : Jvm.MethodName) ({ cls := "CheckedMachineModel", name := "row", desc := "(II)J" } : Jvm.MethodName)) ∈ x_Wd := x_in5 (i := 91) rfl rfl
theorem q_1052 : (Cond.code ({ cls := "CheckedMachineModel", name := "row", desc := "(II)J" } : Jvm.MethodName) prog_11_method_43_code (3 : Nat) (Option.some Jvm.ClassFile.FieldType.long)) ∈ x_Wd := x_in5 (i := 92) rfl rfl
theorem q_1053 : (Cond.methodLink "CheckedMachineLaw" (87 : Nat) ({ cls := "CheckedMachineModel", name := "fill", desc := "(IIJ)V" } : Jvm.MethodName)) ∈ x_Wd := x_in5 (i := 93) rfl rfl
theorem q_1054 : (Cond.instanceMethod ({ cls := "CheckedMachineModel", name := "fill", desc := "(IIJ)V" } : Jvm.MethodName)) ∈ x_Wd := x_in5 (i := 94) rfl rfl
theorem q_1055 : (Cond.selects "CheckedMachineModel" ({ cls := "CheckedMachineModel", name := "fill", desc := "(IIJ)V" } : Jvm.MethodName) ({ cls := "CheckedMachineModel", name := "fill", desc := "(IIJ)V" } : Jvm.MethodName)) ∈ x_Wd := x_in5 (i := 95) rfl rfl
theorem q_1056 : (Cond.code ({ cls := "CheckedMachineModel", name := "fill", desc := "(IIJ)V" } : Jvm.MethodName) prog_11_method_44_code (5 : Nat) (Option.none : Option Jvm.ClassFile.FieldType)) ∈ x_Wd := x_in5 (i := 96) rfl rfl
theorem q_1057 : (Cond.methodLink "CheckedMachineLaw" (91 : Nat) ({ cls := "CheckedMachineModel", name := "outcome", desc := "(Z)J" } : Jvm.MethodName)) ∈ x_Wd := x_in5 (i := 97) rfl rfl
theorem q_1058 : (Cond.instanceMethod ({ cls := "CheckedMachineModel", name := "outcome", desc := "(Z)J" } : Jvm.MethodName)) ∈ x_Wd := x_in5 (i := 98) rfl rfl
theorem q_1059 : (Cond.selects "CheckedMachineModel" ({ cls := "CheckedMachineModel", name := "outcome", desc := "(Z)J" } : Jvm.MethodName) ({ cls := "CheckedMachineModel", name := "outcome", desc := "(Z)J" } : Jvm.MethodName)) ∈ x_Wd := x_in5 (i := 99) rfl rfl
theorem q_1060 : (Cond.code ({ cls := "CheckedMachineModel", name := "outcome", desc := "(Z)J" } : Jvm.MethodName) prog_11_method_45_code (2 : Nat) (Option.some Jvm.ClassFile.FieldType.long)) ∈ x_Wd := x_in5 (i := 100) rfl rfl
theorem q_1061 : (Cond.methodLink "CheckedMachineLaw" (96 : Nat) ({ cls := "CheckedMachineModel", name := "count", desc := "(I)I" } : Jvm.MethodName)) ∈ x_Wd := x_in5 (i := 101) rfl rfl
theorem q_1062 : (Cond.instanceMethod ({ cls := "CheckedMachineModel", name := "count", desc := "(I)I" } : Jvm.MethodName)) ∈ x_Wd := x_in5 (i := 102) rfl rfl
theorem q_1063 : (Cond.selects "CheckedMachineModel" ({ cls := "CheckedMachineModel", name := "count", desc := "(I)I" } : Jvm.MethodName) ({ cls := "CheckedMachineModel", name := "count", desc := "(I)I" } : Jvm.MethodName)) ∈ x_Wd := x_in5 (i := 103) rfl rfl
theorem q_1064 : (Cond.code ({ cls := "CheckedMachineModel", name := "count", desc := "(I)I" } : Jvm.MethodName) prog_11_method_46_code (2 : Nat) (Option.some Jvm.ClassFile.FieldType.int)) ∈ x_Wd := x_in5 (i := 104) rfl rfl
theorem q_1065 : (Cond.constantLong "CheckedMachineLaw" (74 : Nat) (4294967295 : Int64)) ∈ x_Wd := x_in5 (i := 105) rfl rfl
theorem q_1066 : (Cond.sameMethod "java/lang/Throwable" "java/lang/Throwable" "fillInStackTrace" "(I)Ljava/lang/Throwable;") ∈ x_Wd := x_in5 (i := 106) rfl rfl
theorem q_s0 : Cond.selects "java/lang/Throwable" ⟨"java/lang/Throwable", "fillInStackTrace", "(I)Ljava/lang/Throwable;"⟩ ⟨"java/lang/Throwable", "fillInStackTrace", "(I)Ljava/lang/Throwable;"⟩ ∈ x_Wd := x_inS (i := 0) rfl rfl
theorem q_s1 : Cond.selects "CheckedMachine$Checker" ⟨"CheckedMachine$Checker", "begin", "()V"⟩ ⟨"CheckedMachine$Checker", "begin", "()V"⟩ ∈ x_Wd := x_inS (i := 1) rfl rfl
theorem q_s2 : Cond.selects "CheckedMachine$Checker" ⟨"CheckedMachine$Checker", "lookAt", "(I)I"⟩ ⟨"CheckedMachine$Checker", "lookAt", "(I)I"⟩ ∈ x_Wd := x_inS (i := 2) rfl rfl
theorem q_s3 : Cond.selects "CheckedMachine$Judge" ⟨"CheckedMachine$Judge", "lacksTarget", "(LCheckedMachine$Step;I)Z"⟩ ⟨"CheckedMachine$Judge", "lacksTarget", "(LCheckedMachine$Step;I)Z"⟩ ∈ x_Wd := x_inS (i := 3) rfl rfl
theorem q_s4 : Cond.selects "CheckedMachine$Judge" ⟨"CheckedMachine$Judge", "usesEmpty", "(LCheckedMachine$Step;)Z"⟩ ⟨"CheckedMachine$Judge", "usesEmpty", "(LCheckedMachine$Step;)Z"⟩ ∈ x_Wd := x_inS (i := 4) rfl rfl
theorem q_s5 : Cond.selects "CheckedMachine$Judge" ⟨"CheckedMachine$Judge", "hasWrongKind", "(LCheckedMachine$Step;)Z"⟩ ⟨"CheckedMachine$Judge", "hasWrongKind", "(LCheckedMachine$Step;)Z"⟩ ∈ x_Wd := x_inS (i := 5) rfl rfl
theorem q_s6 : Cond.selects "CheckedMachine$Judge" ⟨"CheckedMachine$Judge", "isRangeOrPlace", "(I)Z"⟩ ⟨"CheckedMachine$Judge", "isRangeOrPlace", "(I)Z"⟩ ∈ x_Wd := x_inS (i := 6) rfl rfl
theorem q_s7 : Cond.selects "CheckedMachine$Judge" ⟨"CheckedMachine$Judge", "isMaybeMissing", "(LCheckedMachine$Step;)Z"⟩ ⟨"CheckedMachine$Judge", "isMaybeMissing", "(LCheckedMachine$Step;)Z"⟩ ∈ x_Wd := x_inS (i := 7) rfl rfl
theorem q_s8 : Cond.selects "CheckedMachine$Judge" ⟨"CheckedMachine$Judge", "storesWrongKind", "(LCheckedMachine$Step;)Z"⟩ ⟨"CheckedMachine$Judge", "storesWrongKind", "(LCheckedMachine$Step;)Z"⟩ ∈ x_Wd := x_inS (i := 8) rfl rfl
theorem q_s9 : Cond.selects "CheckedMachine$Judge" ⟨"CheckedMachine$Judge", "isOneCellOfFrame", "(I)Z"⟩ ⟨"CheckedMachine$Judge", "isOneCellOfFrame", "(I)Z"⟩ ∈ x_Wd := x_inS (i := 9) rfl rfl
theorem q_s10 : Cond.selects "CheckedMachine$Judge" ⟨"CheckedMachine$Judge", "callsWithWrongKind", "(LCheckedMachine$Step;)Z"⟩ ⟨"CheckedMachine$Judge", "callsWithWrongKind", "(LCheckedMachine$Step;)Z"⟩ ∈ x_Wd := x_inS (i := 10) rfl rfl
theorem q_s11 : Cond.selects "CheckedMachine$Judge" ⟨"CheckedMachine$Judge", "storesOverNoRange", "(LCheckedMachine$Step;)Z"⟩ ⟨"CheckedMachine$Judge", "storesOverNoRange", "(LCheckedMachine$Step;)Z"⟩ ∈ x_Wd := x_inS (i := 11) rfl rfl
theorem q_s12 : Cond.selects "CheckedMachine$Judge" ⟨"CheckedMachine$Judge", "goesOutside", "(LCheckedMachine$Step;)Z"⟩ ⟨"CheckedMachine$Judge", "goesOutside", "(LCheckedMachine$Step;)Z"⟩ ∈ x_Wd := x_inS (i := 12) rfl rfl
theorem q_s13 : Cond.selects "CheckedMachine$Judge" ⟨"CheckedMachine$Judge", "movesTooFar", "(IJJ)Z"⟩ ⟨"CheckedMachine$Judge", "movesTooFar", "(IJJ)Z"⟩ ∈ x_Wd := x_inS (i := 13) rfl rfl
theorem q_s14 : Cond.selects "CheckedMachine$Judge" ⟨"CheckedMachine$Judge", "missesCells", "(IJ)Z"⟩ ⟨"CheckedMachine$Judge", "missesCells", "(IJ)Z"⟩ ∈ x_Wd := x_inS (i := 14) rfl rfl
theorem q_s15 : Cond.selects "CheckedMachine$Judge" ⟨"CheckedMachine$Judge", "loadsUnfitCell", "(LCheckedMachine$Step;)Z"⟩ ⟨"CheckedMachine$Judge", "loadsUnfitCell", "(LCheckedMachine$Step;)Z"⟩ ∈ x_Wd := x_inS (i := 15) rfl rfl
theorem q_s16 : Cond.selects "CheckedMachine$Judge" ⟨"CheckedMachine$Judge", "findsNoRow", "(LCheckedMachine$Step;)Z"⟩ ⟨"CheckedMachine$Judge", "findsNoRow", "(LCheckedMachine$Step;)Z"⟩ ∈ x_Wd := x_inS (i := 16) rfl rfl
theorem q_s17 : Cond.selects "CheckedMachine$Checker" ⟨"CheckedMachine$Checker", "reject", "(II)V"⟩ ⟨"CheckedMachine$Checker", "reject", "(II)V"⟩ ∈ x_Wd := x_inS (i := 17) rfl rfl
theorem q_s18 : Cond.selects "CheckedMachine$Checker" ⟨"CheckedMachine$Checker", "growOutcomes", "(JJ)V"⟩ ⟨"CheckedMachine$Checker", "growOutcomes", "(JJ)V"⟩ ∈ x_Wd := x_inS (i := 18) rfl rfl
theorem q_s19 : Cond.selects "CheckedMachine$Checker" ⟨"CheckedMachine$Checker", "takeUpLatest", "()I"⟩ ⟨"CheckedMachine$Checker", "takeUpLatest", "()I"⟩ ∈ x_Wd := x_inS (i := 19) rfl rfl
theorem q_s20 : Cond.selects "CheckedMachine$Checker" ⟨"CheckedMachine$Checker", "fork", "(LCheckedMachine$Step;I)I"⟩ ⟨"CheckedMachine$Checker", "fork", "(LCheckedMachine$Step;I)I"⟩ ∈ x_Wd := x_inS (i := 20) rfl rfl
theorem q_s21 : Cond.selects "CheckedMachine$Effects" ⟨"CheckedMachine$Effects", "move", "(IJJ)V"⟩ ⟨"CheckedMachine$Effects", "move", "(IJJ)V"⟩ ∈ x_Wd := x_inS (i := 21) rfl rfl
theorem q_s22 : Cond.selects "CheckedMachine$Effects" ⟨"CheckedMachine$Effects", "subtract", "(IJJ)V"⟩ ⟨"CheckedMachine$Effects", "subtract", "(IJJ)V"⟩ ∈ x_Wd := x_inS (i := 22) rfl rfl
theorem q_s23 : Cond.selects "CheckedMachine$Effects" ⟨"CheckedMachine$Effects", "multiply", "(IJ)V"⟩ ⟨"CheckedMachine$Effects", "multiply", "(IJ)V"⟩ ∈ x_Wd := x_inS (i := 23) rfl rfl
theorem q_s24 : Cond.selects "CheckedMachine$Effects" ⟨"CheckedMachine$Effects", "mask", "(IJ)V"⟩ ⟨"CheckedMachine$Effects", "mask", "(IJ)V"⟩ ∈ x_Wd := x_inS (i := 24) rfl rfl
theorem q_s25 : Cond.selects "CheckedMachine$Effects" ⟨"CheckedMachine$Effects", "divide", "(IJ)V"⟩ ⟨"CheckedMachine$Effects", "divide", "(IJ)V"⟩ ∈ x_Wd := x_inS (i := 25) rfl rfl
theorem q_s26 : Cond.selects "CheckedMachine$Effects" ⟨"CheckedMachine$Effects", "negate", "(I)V"⟩ ⟨"CheckedMachine$Effects", "negate", "(I)V"⟩ ∈ x_Wd := x_inS (i := 26) rfl rfl
theorem q_s27 : Cond.selects "CheckedMachine$Effects" ⟨"CheckedMachine$Effects", "load", "(LCheckedMachine$Step;)V"⟩ ⟨"CheckedMachine$Effects", "load", "(LCheckedMachine$Step;)V"⟩ ∈ x_Wd := x_inS (i := 27) rfl rfl
theorem q_s28 : Cond.selects "CheckedMachine$Effects" ⟨"CheckedMachine$Effects", "store", "(LCheckedMachine$Step;)V"⟩ ⟨"CheckedMachine$Effects", "store", "(LCheckedMachine$Step;)V"⟩ ∈ x_Wd := x_inS (i := 28) rfl rfl
theorem q_s29 : Cond.selects "CheckedMachine$Effects" ⟨"CheckedMachine$Effects", "call", "(I)V"⟩ ⟨"CheckedMachine$Effects", "call", "(I)V"⟩ ∈ x_Wd := x_inS (i := 29) rfl rfl
theorem q_s30 : Cond.selects "CheckedMachine$Runner" ⟨"CheckedMachine$Runner", "set", "(IIJ)V"⟩ ⟨"CheckedMachine$Runner", "set", "(IIJ)V"⟩ ∈ x_Wd := x_inS (i := 30) rfl rfl
theorem q_s31 : Cond.selects "CheckedMachine$Runner" ⟨"CheckedMachine$Runner", "runStep", "(I)I"⟩ ⟨"CheckedMachine$Runner", "runStep", "(I)I"⟩ ∈ x_Wd := x_inS (i := 31) rfl rfl
theorem q_s32 : Cond.selects "CheckedMachine$Runner" ⟨"CheckedMachine$Runner", "jumps", "(LCheckedMachine$Step;)Z"⟩ ⟨"CheckedMachine$Runner", "jumps", "(LCheckedMachine$Step;)Z"⟩ ∈ x_Wd := x_inS (i := 32) rfl rfl
theorem q_s33 : Cond.selects "CheckedMachine$Runner" ⟨"CheckedMachine$Runner", "reachOut", "(LCheckedMachine$Step;)V"⟩ ⟨"CheckedMachine$Runner", "reachOut", "(LCheckedMachine$Step;)V"⟩ ∈ x_Wd := x_inS (i := 33) rfl rfl
theorem q_s34 : Cond.selects "CheckedMachine$Runner" ⟨"CheckedMachine$Runner", "load", "(IIJ)V"⟩ ⟨"CheckedMachine$Runner", "load", "(IIJ)V"⟩ ∈ x_Wd := x_inS (i := 34) rfl rfl
theorem q_s35 : Cond.selects "CheckedMachine$Runner" ⟨"CheckedMachine$Runner", "store", "(IIJ)V"⟩ ⟨"CheckedMachine$Runner", "store", "(IIJ)V"⟩ ∈ x_Wd := x_inS (i := 35) rfl rfl
theorem q_s36 : Cond.selects "CheckedMachine$Runner" ⟨"CheckedMachine$Runner", "call", "(I)V"⟩ ⟨"CheckedMachine$Runner", "call", "(I)V"⟩ ∈ x_Wd := x_inS (i := 36) rfl rfl
theorem q_s37 : Cond.selects "CheckedMachine$Runner" ⟨"CheckedMachine$Runner", "findRow", "(J)V"⟩ ⟨"CheckedMachine$Runner", "findRow", "(J)V"⟩ ∈ x_Wd := x_inS (i := 37) rfl rfl
theorem q_s38 : Cond.selects "CheckedMachine$Runner" ⟨"CheckedMachine$Runner", "reckon", "(LCheckedMachine$Step;)V"⟩ ⟨"CheckedMachine$Runner", "reckon", "(LCheckedMachine$Step;)V"⟩ ∈ x_Wd := x_inS (i := 38) rfl rfl
theorem q_s39 : Cond.selects "CheckedMachineModel" ⟨"CheckedMachineModel", "fits", "(IIII)Z"⟩ ⟨"CheckedMachineModel", "fits", "(IIII)Z"⟩ ∈ x_Wd := x_inS (i := 39) rfl rfl
theorem q_s40 : Cond.selects "CheckedMachineModel" ⟨"CheckedMachineModel", "bad", "(Z)Z"⟩ ⟨"CheckedMachineModel", "bad", "(Z)Z"⟩ ∈ x_Wd := x_inS (i := 40) rfl rfl
theorem q_s41 : Cond.selects "CheckedMachineModel" ⟨"CheckedMachineModel", "set", "(IIIIII)V"⟩ ⟨"CheckedMachineModel", "set", "(IIIIII)V"⟩ ∈ x_Wd := x_inS (i := 41) rfl rfl
theorem q_s42 : Cond.selects "CheckedMachineModel" ⟨"CheckedMachineModel", "know", "(IIJJ)V"⟩ ⟨"CheckedMachineModel", "know", "(IIJJ)V"⟩ ∈ x_Wd := x_inS (i := 42) rfl rfl
theorem q_s43 : Cond.selects "CheckedMachineModel" ⟨"CheckedMachineModel", "anything", "(I)V"⟩ ⟨"CheckedMachineModel", "anything", "(I)V"⟩ ∈ x_Wd := x_inS (i := 43) rfl rfl
theorem q_s44 : Cond.selects "CheckedMachineModel" ⟨"CheckedMachineModel", "reasonAt", "(I)I"⟩ ⟨"CheckedMachineModel", "reasonAt", "(I)I"⟩ ∈ x_Wd := x_inS (i := 44) rfl rfl
theorem q_s45 : Cond.selects "CheckedMachineModel" ⟨"CheckedMachineModel", "empties", "(I)Z"⟩ ⟨"CheckedMachineModel", "empties", "(I)Z"⟩ ∈ x_Wd := x_inS (i := 45) rfl rfl
theorem q_s46 : Cond.selects "CheckedMachineModel" ⟨"CheckedMachineModel", "usesD", "(I)Z"⟩ ⟨"CheckedMachineModel", "usesD", "(I)Z"⟩ ∈ x_Wd := x_inS (i := 46) rfl rfl
theorem q_s47 : Cond.selects "CheckedMachineModel" ⟨"CheckedMachineModel", "usesS", "(I)Z"⟩ ⟨"CheckedMachineModel", "usesS", "(I)Z"⟩ ∈ x_Wd := x_inS (i := 47) rfl rfl
theorem q_s48 : Cond.selects "CheckedMachineModel" ⟨"CheckedMachineModel", "wrongNumber", "(I)Z"⟩ ⟨"CheckedMachineModel", "wrongNumber", "(I)Z"⟩ ∈ x_Wd := x_inS (i := 48) rfl rfl
theorem q_s49 : Cond.selects "CheckedMachineModel" ⟨"CheckedMachineModel", "wrongKind", "(I)Z"⟩ ⟨"CheckedMachineModel", "wrongKind", "(I)Z"⟩ ∈ x_Wd := x_inS (i := 49) rfl rfl
theorem q_s50 : Cond.selects "CheckedMachineModel" ⟨"CheckedMachineModel", "place", "(I)Z"⟩ ⟨"CheckedMachineModel", "place", "(I)Z"⟩ ∈ x_Wd := x_inS (i := 50) rfl rfl
theorem q_s51 : Cond.selects "CheckedMachineModel" ⟨"CheckedMachineModel", "wrongStore", "(I)Z"⟩ ⟨"CheckedMachineModel", "wrongStore", "(I)Z"⟩ ∈ x_Wd := x_inS (i := 51) rfl rfl
theorem q_s52 : Cond.selects "CheckedMachineModel" ⟨"CheckedMachineModel", "wrongPlace", "(I)Z"⟩ ⟨"CheckedMachineModel", "wrongPlace", "(I)Z"⟩ ∈ x_Wd := x_inS (i := 52) rfl rfl
theorem q_s53 : Cond.selects "CheckedMachineModel" ⟨"CheckedMachineModel", "wrongCells", "(I)Z"⟩ ⟨"CheckedMachineModel", "wrongCells", "(I)Z"⟩ ∈ x_Wd := x_inS (i := 53) rfl rfl
theorem q_s54 : Cond.selects "CheckedMachineModel" ⟨"CheckedMachineModel", "goOn", "(I)Z"⟩ ⟨"CheckedMachineModel", "goOn", "(I)Z"⟩ ∈ x_Wd := x_inS (i := 54) rfl rfl
theorem q_s55 : Cond.selects "CheckedMachineModel" ⟨"CheckedMachineModel", "copy", "(II)V"⟩ ⟨"CheckedMachineModel", "copy", "(II)V"⟩ ∈ x_Wd := x_inS (i := 55) rfl rfl
theorem q_s56 : Cond.selects "CheckedMachineModel" ⟨"CheckedMachineModel", "move", "(IJJ)V"⟩ ⟨"CheckedMachineModel", "move", "(IJJ)V"⟩ ∈ x_Wd := x_inS (i := 56) rfl rfl
theorem q_s57 : Cond.selects "CheckedMachineModel" ⟨"CheckedMachineModel", "subtract", "(II)V"⟩ ⟨"CheckedMachineModel", "subtract", "(II)V"⟩ ∈ x_Wd := x_inS (i := 57) rfl rfl
theorem q_s58 : Cond.selects "CheckedMachineModel" ⟨"CheckedMachineModel", "arithmetic", "(IIJ)V"⟩ ⟨"CheckedMachineModel", "arithmetic", "(IIJ)V"⟩ ∈ x_Wd := x_inS (i := 58) rfl rfl
theorem q_s59 : Cond.selects "CheckedMachineModel" ⟨"CheckedMachineModel", "spread", "(IJJ)V"⟩ ⟨"CheckedMachineModel", "spread", "(IJJ)V"⟩ ∈ x_Wd := x_inS (i := 59) rfl rfl
theorem q_s60 : Cond.selects "CheckedMachineModel" ⟨"CheckedMachineModel", "and", "(IJ)V"⟩ ⟨"CheckedMachineModel", "and", "(IJ)V"⟩ ∈ x_Wd := x_inS (i := 60) rfl rfl
theorem q_s61 : Cond.selects "CheckedMachineModel" ⟨"CheckedMachineModel", "branch", "(I)V"⟩ ⟨"CheckedMachineModel", "branch", "(I)V"⟩ ∈ x_Wd := x_inS (i := 61) rfl rfl
theorem q_s62 : Cond.selects "CheckedMachineModel" ⟨"CheckedMachineModel", "push", "(I)V"⟩ ⟨"CheckedMachineModel", "push", "(I)V"⟩ ∈ x_Wd := x_inS (i := 62) rfl rfl
theorem q_s63 : Cond.selects "CheckedMachineModel" ⟨"CheckedMachineModel", "pop", "()V"⟩ ⟨"CheckedMachineModel", "pop", "()V"⟩ ∈ x_Wd := x_inS (i := 63) rfl rfl
theorem q_s64 : Cond.selects "CheckedMachineModel" ⟨"CheckedMachineModel", "load", "(I)V"⟩ ⟨"CheckedMachineModel", "load", "(I)V"⟩ ∈ x_Wd := x_inS (i := 64) rfl rfl
theorem q_s65 : Cond.selects "CheckedMachineModel" ⟨"CheckedMachineModel", "store", "(I)V"⟩ ⟨"CheckedMachineModel", "store", "(I)V"⟩ ∈ x_Wd := x_inS (i := 65) rfl rfl
theorem q_s66 : Cond.selects "CheckedMachineModel" ⟨"CheckedMachineModel", "callGuess", "(I)V"⟩ ⟨"CheckedMachineModel", "callGuess", "(I)V"⟩ ∈ x_Wd := x_inS (i := 66) rfl rfl
theorem q_s67 : Cond.selects "CheckedMachineModel" ⟨"CheckedMachineModel", "leave", "()V"⟩ ⟨"CheckedMachineModel", "leave", "()V"⟩ ∈ x_Wd := x_inS (i := 67) rfl rfl
theorem q_s68 : Cond.selects "CheckedMachineModel" ⟨"CheckedMachineModel", "compute", "(I)V"⟩ ⟨"CheckedMachineModel", "compute", "(I)V"⟩ ∈ x_Wd := x_inS (i := 68) rfl rfl
theorem q_s69 : Cond.selects "CheckedMachineModel" ⟨"CheckedMachineModel", "above", "(I)Z"⟩ ⟨"CheckedMachineModel", "above", "(I)Z"⟩ ∈ x_Wd := x_inS (i := 69) rfl rfl
theorem q_s70 : Cond.selects "CheckedMachineModel" ⟨"CheckedMachineModel", "transfer", "(IZ)V"⟩ ⟨"CheckedMachineModel", "transfer", "(IZ)V"⟩ ∈ x_Wd := x_inS (i := 70) rfl rfl
theorem q_s71 : Cond.selects "CheckedMachineModel" ⟨"CheckedMachineModel", "callNow", "(I)V"⟩ ⟨"CheckedMachineModel", "callNow", "(I)V"⟩ ∈ x_Wd := x_inS (i := 71) rfl rfl
