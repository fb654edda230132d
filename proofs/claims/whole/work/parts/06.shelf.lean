theorem wd_1_5 : (Jvm.Cond.initialized "SheetPrinter$FontShelf") ∈ gT := gT_in (in_1 _ (List.mem_of_getElem? (i := 5) rfl)) rfl
theorem wd_1_7 : (Jvm.Cond.initialized "java/util/Arrays") ∈ gT := gT_in (in_1 _ (List.mem_of_getElem? (i := 7) rfl)) rfl
theorem wd_1_176 : (Jvm.Cond.static ({ cls := "java/lang/Math", name := "min", desc := "(II)I" } : Jvm.MethodName)) ∈ gT := gT_in (in_1 _ (List.mem_of_getElem? (i := 176) rfl)) rfl
theorem wd_1_177 : (Jvm.Cond.code ({ cls := "java/lang/Math", name := "min", desc := "(II)I" } : Jvm.MethodName) prog_25_method_69_code (2 : Nat) (Option.some Jvm.ClassFile.FieldType.int)) ∈ gT := gT_in (in_1 _ (List.mem_of_getElem? (i := 177) rfl)) rfl
theorem wd_1_179 : (Jvm.Cond.static ({ cls := "java/lang/Math", name := "max", desc := "(II)I" } : Jvm.MethodName)) ∈ gT := gT_in (in_1 _ (List.mem_of_getElem? (i := 179) rfl)) rfl
theorem wd_1_180 : (Jvm.Cond.code ({ cls := "java/lang/Math", name := "max", desc := "(II)I" } : Jvm.MethodName) prog_25_method_65_code (2 : Nat) (Option.some Jvm.ClassFile.FieldType.int)) ∈ gT := gT_in (in_1 _ (List.mem_of_getElem? (i := 180) rfl)) rfl
theorem wd_1_184 : (Jvm.Cond.code ({ cls := "SheetPrinter$Sheet", name := "wordsOf", desc := "(I)I" } : Jvm.MethodName) prog_12_method_2_code (1 : Nat) (Option.some Jvm.ClassFile.FieldType.int)) ∈ gT := gT_in (in_1 _ (List.mem_of_getElem? (i := 184) rfl)) rfl
theorem wd_2_10 : (Jvm.Cond.code ({ cls := "SheetPrinter$FontShelf", name := "<init>", desc := "()V" } : Jvm.MethodName) prog_3_method_1_code (1 : Nat) (Option.none : Option Jvm.ClassFile.FieldType)) ∈ gT := gT_in (in_2 _ (List.mem_of_getElem? (i := 10) rfl)) rfl
theorem wd_2_11 : (Jvm.Cond.methodLink "SheetPrinter$FontShelf" (3 : Nat) ({ cls := "java/lang/Object", name := "<init>", desc := "()V" } : Jvm.MethodName)) ∈ gT := gT_in (in_2 _ (List.mem_of_getElem? (i := 11) rfl)) rfl
theorem wd_2_12 : (Jvm.Cond.methodLink "SheetPrinter$FontShelf" (44 : Nat) ({ cls := "SheetPrinter$FontShelf", name := "endJob", desc := "()V" } : Jvm.MethodName)) ∈ gT := gT_in (in_2 _ (List.mem_of_getElem? (i := 12) rfl)) rfl
theorem wd_2_13 : (Jvm.Cond.instanceMethod ({ cls := "SheetPrinter$FontShelf", name := "endJob", desc := "()V" } : Jvm.MethodName)) ∈ gT := gT_in (in_2 _ (List.mem_of_getElem? (i := 13) rfl)) rfl
theorem wd_2_14 : (Jvm.Cond.selects "SheetPrinter$FontShelf" ({ cls := "SheetPrinter$FontShelf", name := "endJob", desc := "()V" } : Jvm.MethodName) ({ cls := "SheetPrinter$FontShelf", name := "endJob", desc := "()V" } : Jvm.MethodName)) ∈ gT := gT_in (in_2 _ (List.mem_of_getElem? (i := 14) rfl)) rfl
theorem wd_2_15 : (Jvm.Cond.code ({ cls := "SheetPrinter$FontShelf", name := "endJob", desc := "()V" } : Jvm.MethodName) prog_3_method_2_code (2 : Nat) (Option.none : Option Jvm.ClassFile.FieldType)) ∈ gT := gT_in (in_2 _ (List.mem_of_getElem? (i := 15) rfl)) rfl
theorem wd_2_16 : (Jvm.Cond.methodLink "SheetPrinter$FontShelf" (47 : Nat) ({ cls := "SheetPrinter$FontShelf", name := "dropPassing", desc := "()V" } : Jvm.MethodName)) ∈ gT := gT_in (in_2 _ (List.mem_of_getElem? (i := 16) rfl)) rfl
theorem wd_2_17 : (Jvm.Cond.instanceMethod ({ cls := "SheetPrinter$FontShelf", name := "dropPassing", desc := "()V" } : Jvm.MethodName)) ∈ gT := gT_in (in_2 _ (List.mem_of_getElem? (i := 17) rfl)) rfl
theorem wd_2_18 : (Jvm.Cond.selects "SheetPrinter$FontShelf" ({ cls := "SheetPrinter$FontShelf", name := "dropPassing", desc := "()V" } : Jvm.MethodName) ({ cls := "SheetPrinter$FontShelf", name := "dropPassing", desc := "()V" } : Jvm.MethodName)) ∈ gT := gT_in (in_2 _ (List.mem_of_getElem? (i := 18) rfl)) rfl
theorem wd_2_19 : (Jvm.Cond.code ({ cls := "SheetPrinter$FontShelf", name := "dropPassing", desc := "()V" } : Jvm.MethodName) prog_3_method_6_code (2 : Nat) (Option.none : Option Jvm.ClassFile.FieldType)) ∈ gT := gT_in (in_2 _ (List.mem_of_getElem? (i := 19) rfl)) rfl
theorem wd_2_20 : (Jvm.Cond.methodLink "SheetPrinter$FontShelf" (97 : Nat) ({ cls := "java/lang/Math", name := "min", desc := "(II)I" } : Jvm.MethodName)) ∈ gT := gT_in (in_2 _ (List.mem_of_getElem? (i := 20) rfl)) rfl
theorem wd_2_36 : (Jvm.Cond.fieldLink "SheetPrinter$FontShelf" (50 : Nat) "SheetPrinter$FontShelf" "FIRST_WISH" "[I") ∈ gT := gT_in (in_2 _ (List.mem_of_getElem? (i := 36) rfl)) rfl
theorem wd_2_38 : (Jvm.Cond.methodLink "SheetPrinter$FontShelf" (53 : Nat) ({ cls := "java/util/Arrays", name := "fill", desc := "([II)V" } : Jvm.MethodName)) ∈ gT := gT_in (in_2 _ (List.mem_of_getElem? (i := 38) rfl)) rfl
theorem wd_2_39 : (Jvm.Cond.static ({ cls := "java/util/Arrays", name := "fill", desc := "([II)V" } : Jvm.MethodName)) ∈ gT := gT_in (in_2 _ (List.mem_of_getElem? (i := 39) rfl)) rfl
theorem wd_2_41 : (Jvm.Cond.methodLink "SheetPrinter$FontShelf" (70 : Nat) ({ cls := "SheetPrinter$FontShelf", name := "settle", desc := "()V" } : Jvm.MethodName)) ∈ gT := gT_in (in_2 _ (List.mem_of_getElem? (i := 41) rfl)) rfl
theorem wd_2_42 : (Jvm.Cond.instanceMethod ({ cls := "SheetPrinter$FontShelf", name := "settle", desc := "()V" } : Jvm.MethodName)) ∈ gT := gT_in (in_2 _ (List.mem_of_getElem? (i := 42) rfl)) rfl
theorem wd_2_43 : (Jvm.Cond.selects "SheetPrinter$FontShelf" ({ cls := "SheetPrinter$FontShelf", name := "settle", desc := "()V" } : Jvm.MethodName) ({ cls := "SheetPrinter$FontShelf", name := "settle", desc := "()V" } : Jvm.MethodName)) ∈ gT := gT_in (in_2 _ (List.mem_of_getElem? (i := 43) rfl)) rfl
theorem wd_2_44 : (Jvm.Cond.code ({ cls := "SheetPrinter$FontShelf", name := "settle", desc := "()V" } : Jvm.MethodName) prog_3_method_25_code (1 : Nat) (Option.none : Option Jvm.ClassFile.FieldType)) ∈ gT := gT_in (in_2 _ (List.mem_of_getElem? (i := 44) rfl)) rfl
theorem wd_2_45 : (Jvm.Cond.methodLink "SheetPrinter$FontShelf" (142 : Nat) ({ cls := "SheetPrinter$FontShelf", name := "choose", desc := "(I)I" } : Jvm.MethodName)) ∈ gT := gT_in (in_2 _ (List.mem_of_getElem? (i := 45) rfl)) rfl
theorem wd_2_47 : (Jvm.Cond.instanceMethod ({ cls := "SheetPrinter$FontShelf", name := "choose", desc := "(I)I" } : Jvm.MethodName)) ∈ gT := gT_in (in_2 _ (List.mem_of_getElem? (i := 47) rfl)) rfl
theorem wd_2_48 : (Jvm.Cond.code ({ cls := "SheetPrinter$FontShelf", name := "choose", desc := "(I)I" } : Jvm.MethodName) prog_3_method_26_code (5 : Nat) (Option.some Jvm.ClassFile.FieldType.int)) ∈ gT := gT_in (in_2 _ (List.mem_of_getElem? (i := 48) rfl)) rfl
theorem wd_2_53 : (Jvm.Cond.methodLink "SheetPrinter$FontShelf" (145 : Nat) ({ cls := "SheetPrinter$FontShelf", name := "keepThose", desc := "(II)Z" } : Jvm.MethodName)) ∈ gT := gT_in (in_2 _ (List.mem_of_getElem? (i := 53) rfl)) rfl
theorem wd_2_55 : (Jvm.Cond.instanceMethod ({ cls := "SheetPrinter$FontShelf", name := "keepThose", desc := "(II)Z" } : Jvm.MethodName)) ∈ gT := gT_in (in_2 _ (List.mem_of_getElem? (i := 55) rfl)) rfl
theorem wd_2_56 : (Jvm.Cond.code ({ cls := "SheetPrinter$FontShelf", name := "keepThose", desc := "(II)Z" } : Jvm.MethodName) prog_3_method_27_code (5 : Nat) (Option.some Jvm.ClassFile.FieldType.boolean)) ∈ gT := gT_in (in_2 _ (List.mem_of_getElem? (i := 56) rfl)) rfl
theorem wd_2_61 : (Jvm.Cond.methodLink "SheetPrinter$FontShelf" (149 : Nat) ({ cls := "SheetPrinter$FontShelf", name := "allLeftEven", desc := "()Z" } : Jvm.MethodName)) ∈ gT := gT_in (in_2 _ (List.mem_of_getElem? (i := 61) rfl)) rfl
theorem wd_2_63 : (Jvm.Cond.instanceMethod ({ cls := "SheetPrinter$FontShelf", name := "allLeftEven", desc := "()Z" } : Jvm.MethodName)) ∈ gT := gT_in (in_2 _ (List.mem_of_getElem? (i := 63) rfl)) rfl
theorem wd_2_64 : (Jvm.Cond.code ({ cls := "SheetPrinter$FontShelf", name := "allLeftEven", desc := "()Z" } : Jvm.MethodName) prog_3_method_28_code (2 : Nat) (Option.some Jvm.ClassFile.FieldType.boolean)) ∈ gT := gT_in (in_2 _ (List.mem_of_getElem? (i := 64) rfl)) rfl
theorem wd_2_65 : (Jvm.Cond.methodLink "SheetPrinter$FontShelf" (153 : Nat) ({ cls := "SheetPrinter$FontShelf", name := "bestPitch", desc := "(I)I" } : Jvm.MethodName)) ∈ gT := gT_in (in_2 _ (List.mem_of_getElem? (i := 65) rfl)) rfl
theorem wd_2_67 : (Jvm.Cond.instanceMethod ({ cls := "SheetPrinter$FontShelf", name := "bestPitch", desc := "(I)I" } : Jvm.MethodName)) ∈ gT := gT_in (in_2 _ (List.mem_of_getElem? (i := 67) rfl)) rfl
theorem wd_2_68 : (Jvm.Cond.code ({ cls := "SheetPrinter$FontShelf", name := "bestPitch", desc := "(I)I" } : Jvm.MethodName) prog_3_method_29_code (3 : Nat) (Option.some Jvm.ClassFile.FieldType.int)) ∈ gT := gT_in (in_2 _ (List.mem_of_getElem? (i := 68) rfl)) rfl
theorem wd_2_69 : (Jvm.Cond.methodLink "SheetPrinter$FontShelf" (166 : Nat) ({ cls := "SheetPrinter$FontShelf", name := "least", desc := "(II)I" } : Jvm.MethodName)) ∈ gT := gT_in (in_2 _ (List.mem_of_getElem? (i := 69) rfl)) rfl
theorem wd_2_71 : (Jvm.Cond.instanceMethod ({ cls := "SheetPrinter$FontShelf", name := "least", desc := "(II)I" } : Jvm.MethodName)) ∈ gT := gT_in (in_2 _ (List.mem_of_getElem? (i := 71) rfl)) rfl
theorem wd_2_72 : (Jvm.Cond.code ({ cls := "SheetPrinter$FontShelf", name := "least", desc := "(II)I" } : Jvm.MethodName) prog_3_method_33_code (6 : Nat) (Option.some Jvm.ClassFile.FieldType.int)) ∈ gT := gT_in (in_2 _ (List.mem_of_getElem? (i := 72) rfl)) rfl
theorem wd_2_73 : (Jvm.Cond.fieldLink "SheetPrinter$FontShelf" (125 : Nat) "SheetPrinter$FontShelf" "MOST" "[I") ∈ gT := gT_in (in_2 _ (List.mem_of_getElem? (i := 73) rfl)) rfl
theorem wd_2_75 : (Jvm.Cond.methodLink "SheetPrinter$FontShelf" (169 : Nat) ({ cls := "SheetPrinter$FontShelf", name := "greatest", desc := "(II)I" } : Jvm.MethodName)) ∈ gT := gT_in (in_2 _ (List.mem_of_getElem? (i := 75) rfl)) rfl
theorem wd_2_77 : (Jvm.Cond.instanceMethod ({ cls := "SheetPrinter$FontShelf", name := "greatest", desc := "(II)I" } : Jvm.MethodName)) ∈ gT := gT_in (in_2 _ (List.mem_of_getElem? (i := 77) rfl)) rfl
theorem wd_2_78 : (Jvm.Cond.code ({ cls := "SheetPrinter$FontShelf", name := "greatest", desc := "(II)I" } : Jvm.MethodName) prog_3_method_34_code (6 : Nat) (Option.some Jvm.ClassFile.FieldType.int)) ∈ gT := gT_in (in_2 _ (List.mem_of_getElem? (i := 78) rfl)) rfl
theorem wd_2_79 : (Jvm.Cond.methodLink "SheetPrinter$FontShelf" (156 : Nat) ({ cls := "SheetPrinter$FontShelf", name := "nearestHeight", desc := "(I)I" } : Jvm.MethodName)) ∈ gT := gT_in (in_2 _ (List.mem_of_getElem? (i := 79) rfl)) rfl
theorem wd_2_81 : (Jvm.Cond.instanceMethod ({ cls := "SheetPrinter$FontShelf", name := "nearestHeight", desc := "(I)I" } : Jvm.MethodName)) ∈ gT := gT_in (in_2 _ (List.mem_of_getElem? (i := 81) rfl)) rfl
theorem wd_2_82 : (Jvm.Cond.code ({ cls := "SheetPrinter$FontShelf", name := "nearestHeight", desc := "(I)I" } : Jvm.MethodName) prog_3_method_30_code (4 : Nat) (Option.some Jvm.ClassFile.FieldType.int)) ∈ gT := gT_in (in_2 _ (List.mem_of_getElem? (i := 82) rfl)) rfl
theorem wd_2_83 : (Jvm.Cond.methodLink "SheetPrinter$FontShelf" (172 : Nat) ({ cls := "java/lang/Math", name := "max", desc := "(II)I" } : Jvm.MethodName)) ∈ gT := gT_in (in_2 _ (List.mem_of_getElem? (i := 83) rfl)) rfl
theorem wd_2_84 : (Jvm.Cond.methodLink "SheetPrinter$FontShelf" (159 : Nat) ({ cls := "SheetPrinter$FontShelf", name := "bestWeight", desc := "(I)I" } : Jvm.MethodName)) ∈ gT := gT_in (in_2 _ (List.mem_of_getElem? (i := 84) rfl)) rfl
theorem wd_2_86 : (Jvm.Cond.instanceMethod ({ cls := "SheetPrinter$FontShelf", name := "bestWeight", desc := "(I)I" } : Jvm.MethodName)) ∈ gT := gT_in (in_2 _ (List.mem_of_getElem? (i := 86) rfl)) rfl
theorem wd_2_87 : (Jvm.Cond.code ({ cls := "SheetPrinter$FontShelf", name := "bestWeight", desc := "(I)I" } : Jvm.MethodName) prog_3_method_31_code (4 : Nat) (Option.some Jvm.ClassFile.FieldType.int)) ∈ gT := gT_in (in_2 _ (List.mem_of_getElem? (i := 87) rfl)) rfl
theorem wd_2_88 : (Jvm.Cond.fieldLink "SheetPrinter$FontShelf" (122 : Nat) "SheetPrinter$FontShelf" "LEAST" "[I") ∈ gT := gT_in (in_2 _ (List.mem_of_getElem? (i := 88) rfl)) rfl
theorem wd_2_90 : (Jvm.Cond.methodLink "SheetPrinter$FontShelf" (175 : Nat) ({ cls := "SheetPrinter$FontShelf", name := "anyLeft", desc := "(II)Z" } : Jvm.MethodName)) ∈ gT := gT_in (in_2 _ (List.mem_of_getElem? (i := 90) rfl)) rfl
theorem wd_2_92 : (Jvm.Cond.instanceMethod ({ cls := "SheetPrinter$FontShelf", name := "anyLeft", desc := "(II)Z" } : Jvm.MethodName)) ∈ gT := gT_in (in_2 _ (List.mem_of_getElem? (i := 92) rfl)) rfl
theorem wd_2_93 : (Jvm.Cond.code ({ cls := "SheetPrinter$FontShelf", name := "anyLeft", desc := "(II)Z" } : Jvm.MethodName) prog_3_method_32_code (4 : Nat) (Option.some Jvm.ClassFile.FieldType.boolean)) ∈ gT := gT_in (in_2 _ (List.mem_of_getElem? (i := 93) rfl)) rfl
theorem wd_2_94 : (Jvm.Cond.methodLink "SheetPrinter$FontShelf" (162 : Nat) ({ cls := "SheetPrinter$FontShelf", name := "lastLeft", desc := "()I" } : Jvm.MethodName)) ∈ gT := gT_in (in_2 _ (List.mem_of_getElem? (i := 94) rfl)) rfl
theorem wd_2_96 : (Jvm.Cond.instanceMethod ({ cls := "SheetPrinter$FontShelf", name := "lastLeft", desc := "()I" } : Jvm.MethodName)) ∈ gT := gT_in (in_2 _ (List.mem_of_getElem? (i := 96) rfl)) rfl
theorem wd_2_97 : (Jvm.Cond.code ({ cls := "SheetPrinter$FontShelf", name := "lastLeft", desc := "()I" } : Jvm.MethodName) prog_3_method_35_code (4 : Nat) (Option.some Jvm.ClassFile.FieldType.int)) ∈ gT := gT_in (in_2 _ (List.mem_of_getElem? (i := 97) rfl)) rfl
theorem wd_2_98 : (Jvm.Cond.fieldLink "SheetPrinter$FontShelf" (11 : Nat) "SheetPrinter$FontShelf" "ids" "[I") ∈ gT := gT_in (in_2 _ (List.mem_of_getElem? (i := 98) rfl)) rfl
theorem wd_2_99 : (Jvm.Cond.fieldLink "SheetPrinter$FontShelf" (15 : Nat) "SheetPrinter$FontShelf" "attributes" "[I") ∈ gT := gT_in (in_2 _ (List.mem_of_getElem? (i := 99) rfl)) rfl
theorem wd_2_100 : (Jvm.Cond.fieldLink "SheetPrinter$FontShelf" (18 : Nat) "SheetPrinter$FontShelf" "permanent" "[Z") ∈ gT := gT_in (in_2 _ (List.mem_of_getElem? (i := 100) rfl)) rfl
theorem wd_2_101 : (Jvm.Cond.fieldLink "SheetPrinter$FontShelf" (77 : Nat) "SheetPrinter$FontShelf" "fonts" "I") ∈ gT := gT_in (in_2 _ (List.mem_of_getElem? (i := 101) rfl)) rfl
theorem wd_2_103 : (Jvm.Cond.fieldLink "SheetPrinter$FontShelf" (22 : Nat) "SheetPrinter$FontShelf" "glyphs" "[I") ∈ gT := gT_in (in_2 _ (List.mem_of_getElem? (i := 103) rfl)) rfl
theorem wd_2_106 : (Jvm.Cond.fieldLink "SheetPrinter$FontShelf" (25 : Nat) "SheetPrinter$FontShelf" "dots" "[B") ∈ gT := gT_in (in_2 _ (List.mem_of_getElem? (i := 106) rfl)) rfl
theorem wd_2_109 : (Jvm.Cond.fieldLink "SheetPrinter$FontShelf" (29 : Nat) "SheetPrinter$FontShelf" "wishes" "[I") ∈ gT := gT_in (in_2 _ (List.mem_of_getElem? (i := 109) rfl)) rfl
theorem wd_2_110 : (Jvm.Cond.fieldLink "SheetPrinter$FontShelf" (32 : Nat) "SheetPrinter$FontShelf" "pins" "[I") ∈ gT := gT_in (in_2 _ (List.mem_of_getElem? (i := 110) rfl)) rfl
theorem wd_2_111 : (Jvm.Cond.fieldLink "SheetPrinter$FontShelf" (59 : Nat) "SheetPrinter$FontShelf" "id" "I") ∈ gT := gT_in (in_2 _ (List.mem_of_getElem? (i := 111) rfl)) rfl
theorem wd_2_112 : (Jvm.Cond.fieldLink "SheetPrinter$FontShelf" (63 : Nat) "SheetPrinter$FontShelf" "code" "I") ∈ gT := gT_in (in_2 _ (List.mem_of_getElem? (i := 112) rfl)) rfl
theorem wd_2_113 : (Jvm.Cond.fieldLink "SheetPrinter$FontShelf" (35 : Nat) "SheetPrinter$FontShelf" "chosen" "[I") ∈ gT := gT_in (in_2 _ (List.mem_of_getElem? (i := 113) rfl)) rfl
theorem wd_2_114 : (Jvm.Cond.fieldLink "SheetPrinter$FontShelf" (66 : Nat) "SheetPrinter$FontShelf" "chosenKnown" "Z") ∈ gT := gT_in (in_2 _ (List.mem_of_getElem? (i := 114) rfl)) rfl
theorem wd_2_115 : (Jvm.Cond.fieldLink "SheetPrinter$FontShelf" (38 : Nat) "SheetPrinter$FontShelf" "left" "[Z") ∈ gT := gT_in (in_2 _ (List.mem_of_getElem? (i := 115) rfl)) rfl
theorem wd_2_116 : (Jvm.Cond.fieldLink "SheetPrinter$FontShelf" (41 : Nat) "SheetPrinter$FontShelf" "coming" "[I") ∈ gT := gT_in (in_2 _ (List.mem_of_getElem? (i := 116) rfl)) rfl
theorem wd_2_117 : (Jvm.Cond.laysFinal "SheetPrinter$FontShelf" "SheetPrinter$FontShelf" "ids" "[I") ∈ gT := gT_in (in_2 _ (List.mem_of_getElem? (i := 117) rfl)) rfl
theorem wd_2_119 : (Jvm.Cond.laysFinal "SheetPrinter$FontShelf" "SheetPrinter$FontShelf" "attributes" "[I") ∈ gT := gT_in (in_2 _ (List.mem_of_getElem? (i := 119) rfl)) rfl
theorem wd_2_121 : (Jvm.Cond.laysFinal "SheetPrinter$FontShelf" "SheetPrinter$FontShelf" "permanent" "[Z") ∈ gT := gT_in (in_2 _ (List.mem_of_getElem? (i := 121) rfl)) rfl
theorem wd_2_123 : (Jvm.Cond.lays "SheetPrinter$FontShelf" "SheetPrinter$FontShelf" "fonts" "I") ∈ gT := gT_in (in_2 _ (List.mem_of_getElem? (i := 123) rfl)) rfl
theorem wd_2_125 : (Jvm.Cond.laysFinal "SheetPrinter$FontShelf" "SheetPrinter$FontShelf" "glyphs" "[I") ∈ gT := gT_in (in_2 _ (List.mem_of_getElem? (i := 125) rfl)) rfl
theorem wd_2_127 : (Jvm.Cond.lays "SheetPrinter$FontShelf" "SheetPrinter$FontShelf" "glyphCount" "I") ∈ gT := gT_in (in_2 _ (List.mem_of_getElem? (i := 127) rfl)) rfl
theorem wd_2_129 : (Jvm.Cond.laysFinal "SheetPrinter$FontShelf" "SheetPrinter$FontShelf" "dots" "[B") ∈ gT := gT_in (in_2 _ (List.mem_of_getElem? (i := 129) rfl)) rfl
theorem wd_2_131 : (Jvm.Cond.lays "SheetPrinter$FontShelf" "SheetPrinter$FontShelf" "used" "I") ∈ gT := gT_in (in_2 _ (List.mem_of_getElem? (i := 131) rfl)) rfl
theorem wd_2_133 : (Jvm.Cond.laysFinal "SheetPrinter$FontShelf" "SheetPrinter$FontShelf" "wishes" "[I") ∈ gT := gT_in (in_2 _ (List.mem_of_getElem? (i := 133) rfl)) rfl
theorem wd_2_135 : (Jvm.Cond.laysFinal "SheetPrinter$FontShelf" "SheetPrinter$FontShelf" "pins" "[I") ∈ gT := gT_in (in_2 _ (List.mem_of_getElem? (i := 135) rfl)) rfl
theorem wd_2_137 : (Jvm.Cond.lays "SheetPrinter$FontShelf" "SheetPrinter$FontShelf" "id" "I") ∈ gT := gT_in (in_2 _ (List.mem_of_getElem? (i := 137) rfl)) rfl
theorem wd_2_139 : (Jvm.Cond.lays "SheetPrinter$FontShelf" "SheetPrinter$FontShelf" "code" "I") ∈ gT := gT_in (in_2 _ (List.mem_of_getElem? (i := 139) rfl)) rfl
theorem wd_2_141 : (Jvm.Cond.laysFinal "SheetPrinter$FontShelf" "SheetPrinter$FontShelf" "chosen" "[I") ∈ gT := gT_in (in_2 _ (List.mem_of_getElem? (i := 141) rfl)) rfl
theorem wd_2_143 : (Jvm.Cond.lays "SheetPrinter$FontShelf" "SheetPrinter$FontShelf" "chosenKnown" "Z") ∈ gT := gT_in (in_2 _ (List.mem_of_getElem? (i := 143) rfl)) rfl
theorem wd_2_145 : (Jvm.Cond.laysFinal "SheetPrinter$FontShelf" "SheetPrinter$FontShelf" "left" "[Z") ∈ gT := gT_in (in_2 _ (List.mem_of_getElem? (i := 145) rfl)) rfl
theorem wd_2_147 : (Jvm.Cond.laysFinal "SheetPrinter$FontShelf" "SheetPrinter$FontShelf" "coming" "[I") ∈ gT := gT_in (in_2 _ (List.mem_of_getElem? (i := 147) rfl)) rfl
theorem ws_6 : Cond.selects "SheetPrinter$FontShelf" ⟨"SheetPrinter$FontShelf", "choose", "(I)I"⟩ ⟨"SheetPrinter$FontShelf", "choose", "(I)I"⟩ ∈ gT := gT_in (List.mem_append_left _ (List.mem_of_getElem? (i := 6) rfl)) rfl
theorem ws_8 : Cond.selects "SheetPrinter$FontShelf" ⟨"SheetPrinter$FontShelf", "keepThose", "(II)Z"⟩ ⟨"SheetPrinter$FontShelf", "keepThose", "(II)Z"⟩ ∈ gT := gT_in (List.mem_append_left _ (List.mem_of_getElem? (i := 8) rfl)) rfl
theorem ws_10 : Cond.selects "SheetPrinter$FontShelf" ⟨"SheetPrinter$FontShelf", "allLeftEven", "()Z"⟩ ⟨"SheetPrinter$FontShelf", "allLeftEven", "()Z"⟩ ∈ gT := gT_in (List.mem_append_left _ (List.mem_of_getElem? (i := 10) rfl)) rfl
theorem ws_11 : Cond.selects "SheetPrinter$FontShelf" ⟨"SheetPrinter$FontShelf", "bestPitch", "(I)I"⟩ ⟨"SheetPrinter$FontShelf", "bestPitch", "(I)I"⟩ ∈ gT := gT_in (List.mem_append_left _ (List.mem_of_getElem? (i := 11) rfl)) rfl
theorem ws_12 : Cond.selects "SheetPrinter$FontShelf" ⟨"SheetPrinter$FontShelf", "least", "(II)I"⟩ ⟨"SheetPrinter$FontShelf", "least", "(II)I"⟩ ∈ gT := gT_in (List.mem_append_left _ (List.mem_of_getElem? (i := 12) rfl)) rfl
theorem ws_13 : Cond.selects "SheetPrinter$FontShelf" ⟨"SheetPrinter$FontShelf", "greatest", "(II)I"⟩ ⟨"SheetPrinter$FontShelf", "greatest", "(II)I"⟩ ∈ gT := gT_in (List.mem_append_left _ (List.mem_of_getElem? (i := 13) rfl)) rfl
theorem ws_14 : Cond.selects "SheetPrinter$FontShelf" ⟨"SheetPrinter$FontShelf", "nearestHeight", "(I)I"⟩ ⟨"SheetPrinter$FontShelf", "nearestHeight", "(I)I"⟩ ∈ gT := gT_in (List.mem_append_left _ (List.mem_of_getElem? (i := 14) rfl)) rfl
theorem ws_15 : Cond.selects "SheetPrinter$FontShelf" ⟨"SheetPrinter$FontShelf", "bestWeight", "(I)I"⟩ ⟨"SheetPrinter$FontShelf", "bestWeight", "(I)I"⟩ ∈ gT := gT_in (List.mem_append_left _ (List.mem_of_getElem? (i := 15) rfl)) rfl
theorem ws_16 : Cond.selects "SheetPrinter$FontShelf" ⟨"SheetPrinter$FontShelf", "anyLeft", "(II)Z"⟩ ⟨"SheetPrinter$FontShelf", "anyLeft", "(II)Z"⟩ ∈ gT := gT_in (List.mem_append_left _ (List.mem_of_getElem? (i := 16) rfl)) rfl
theorem ws_17 : Cond.selects "SheetPrinter$FontShelf" ⟨"SheetPrinter$FontShelf", "lastLeft", "()I"⟩ ⟨"SheetPrinter$FontShelf", "lastLeft", "()I"⟩ ∈ gT := gT_in (List.mem_append_left _ (List.mem_of_getElem? (i := 17) rfl)) rfl
theorem i_FontShelf : ∀ w ∈ u_ws R_FontShelf F_FontShelf 16, w ∈ gT := by
  intro w h
  obtain ⟨k, hk, rfl⟩ := List.mem_map.mp h
  have hk := List.mem_range.mp hk
  match k, hk with
  | 0, _ => exact wd_2_117
  | 1, _ => exact wd_2_119
  | 2, _ => exact wd_2_121
  | 3, _ => exact wd_2_123
  | 4, _ => exact wd_2_125
  | 5, _ => exact wd_2_127
  | 6, _ => exact wd_2_129
  | 7, _ => exact wd_2_131
  | 8, _ => exact wd_2_133
  | 9, _ => exact wd_2_135
  | 10, _ => exact wd_2_137
  | 11, _ => exact wd_2_139
  | 12, _ => exact wd_2_141
  | 13, _ => exact wd_2_143
  | 14, _ => exact wd_2_145
  | 15, _ => exact wd_2_147
  | k + 16, hk => exact absurd hk (by omega)
abbrev b_FontShelf_keepThose : ByteArray := prog_3_method_27_code
abbrev y_FontShelf_keepThose : MethodName := ⟨"SheetPrinter$FontShelf", "keepThose", "(II)Z"⟩
abbrev w_FontShelf_keepThose : List Cond := .code y_FontShelf_keepThose b_FontShelf_keepThose 5 (some .boolean) :: gT
theorem gd_FontShelf_keepThose : GoodIn gT w_FontShelf_keepThose := gW wd_2_56
theorem d_FontShelf_keepThose_0 : decode b_FontShelf_keepThose 0 = .ok (.iconst 0, 1) := by decide +kernel
theorem d_FontShelf_keepThose_1 : decode b_FontShelf_keepThose 1 = .ok (.istore_n 3, 1) := by decide +kernel
theorem d_FontShelf_keepThose_2 : decode b_FontShelf_keepThose 2 = .ok (.iconst 0, 1) := by decide +kernel
theorem d_FontShelf_keepThose_3 : decode b_FontShelf_keepThose 3 = .ok (.istore 4, 2) := by decide +kernel
theorem d_FontShelf_keepThose_5 : decode b_FontShelf_keepThose 5 = .ok (.iload 4, 2) := by decide +kernel
theorem d_FontShelf_keepThose_7 : decode b_FontShelf_keepThose 7 = .ok (.aload_n 0, 1) := by decide +kernel
theorem d_FontShelf_keepThose_8 : decode b_FontShelf_keepThose 8 = .ok (.getfield 77, 3) := by decide +kernel
theorem d_FontShelf_keepThose_11 : decode b_FontShelf_keepThose 11 = .ok (.if_icmp .ge 48, 3) := by decide +kernel
theorem d_FontShelf_keepThose_14 : decode b_FontShelf_keepThose 14 = .ok (.iload 4, 2) := by decide +kernel
theorem d_FontShelf_keepThose_16 : decode b_FontShelf_keepThose 16 = .ok (.aload_n 0, 1) := by decide +kernel
theorem d_FontShelf_keepThose_17 : decode b_FontShelf_keepThose 17 = .ok (.getfield 38, 3) := by decide +kernel
theorem d_FontShelf_keepThose_20 : decode b_FontShelf_keepThose 20 = .ok (.arraylength, 1) := by decide +kernel
theorem d_FontShelf_keepThose_21 : decode b_FontShelf_keepThose 21 = .ok (.if_icmp .ge 38, 3) := by decide +kernel
theorem d_FontShelf_keepThose_24 : decode b_FontShelf_keepThose 24 = .ok (.iload_n 3, 1) := by decide +kernel
theorem d_FontShelf_keepThose_25 : decode b_FontShelf_keepThose 25 = .ok (.aload_n 0, 1) := by decide +kernel
theorem d_FontShelf_keepThose_26 : decode b_FontShelf_keepThose 26 = .ok (.getfield 38, 3) := by decide +kernel
theorem d_FontShelf_keepThose_29 : decode b_FontShelf_keepThose 29 = .ok (.iload 4, 2) := by decide +kernel
theorem d_FontShelf_keepThose_31 : decode b_FontShelf_keepThose 31 = .ok (.baload, 1) := by decide +kernel
theorem d_FontShelf_keepThose_32 : decode b_FontShelf_keepThose 32 = .ok (.ifCond .eq 18, 3) := by decide +kernel
theorem d_FontShelf_keepThose_35 : decode b_FontShelf_keepThose 35 = .ok (.aload_n 0, 1) := by decide +kernel
theorem d_FontShelf_keepThose_36 : decode b_FontShelf_keepThose 36 = .ok (.iload 4, 2) := by decide +kernel
theorem d_FontShelf_keepThose_38 : decode b_FontShelf_keepThose 38 = .ok (.iload_n 1, 1) := by decide +kernel
theorem d_FontShelf_keepThose_39 : decode b_FontShelf_keepThose 39 = .ok (.invokevirtual 139, 3) := by decide +kernel
theorem d_FontShelf_keepThose_42 : decode b_FontShelf_keepThose 42 = .ok (.iload_n 2, 1) := by decide +kernel
theorem d_FontShelf_keepThose_43 : decode b_FontShelf_keepThose 43 = .ok (.if_icmp .ne 7, 3) := by decide +kernel
theorem d_FontShelf_keepThose_46 : decode b_FontShelf_keepThose 46 = .ok (.iconst 1, 1) := by decide +kernel
theorem d_FontShelf_keepThose_47 : decode b_FontShelf_keepThose 47 = .ok (.goto 4, 3) := by decide +kernel
theorem d_FontShelf_keepThose_50 : decode b_FontShelf_keepThose 50 = .ok (.iconst 0, 1) := by decide +kernel
theorem d_FontShelf_keepThose_51 : decode b_FontShelf_keepThose 51 = .ok (.ior, 1) := by decide +kernel
theorem d_FontShelf_keepThose_52 : decode b_FontShelf_keepThose 52 = .ok (.istore_n 3, 1) := by decide +kernel
theorem d_FontShelf_keepThose_53 : decode b_FontShelf_keepThose 53 = .ok (.iinc 4 1, 3) := by decide +kernel
theorem d_FontShelf_keepThose_56 : decode b_FontShelf_keepThose 56 = .ok (.goto (-51), 3) := by decide +kernel
theorem d_FontShelf_keepThose_59 : decode b_FontShelf_keepThose 59 = .ok (.iconst 0, 1) := by decide +kernel
theorem d_FontShelf_keepThose_60 : decode b_FontShelf_keepThose 60 = .ok (.istore 4, 2) := by decide +kernel
theorem d_FontShelf_keepThose_62 : decode b_FontShelf_keepThose 62 = .ok (.iload 4, 2) := by decide +kernel
theorem d_FontShelf_keepThose_64 : decode b_FontShelf_keepThose 64 = .ok (.aload_n 0, 1) := by decide +kernel
theorem d_FontShelf_keepThose_65 : decode b_FontShelf_keepThose 65 = .ok (.getfield 77, 3) := by decide +kernel
theorem d_FontShelf_keepThose_68 : decode b_FontShelf_keepThose 68 = .ok (.if_icmp .ge 49, 3) := by decide +kernel
theorem d_FontShelf_keepThose_71 : decode b_FontShelf_keepThose 71 = .ok (.iload 4, 2) := by decide +kernel
theorem d_FontShelf_keepThose_73 : decode b_FontShelf_keepThose 73 = .ok (.aload_n 0, 1) := by decide +kernel
theorem d_FontShelf_keepThose_74 : decode b_FontShelf_keepThose 74 = .ok (.getfield 38, 3) := by decide +kernel
theorem d_FontShelf_keepThose_77 : decode b_FontShelf_keepThose 77 = .ok (.arraylength, 1) := by decide +kernel
theorem d_FontShelf_keepThose_78 : decode b_FontShelf_keepThose 78 = .ok (.if_icmp .ge 39, 3) := by decide +kernel
theorem d_FontShelf_keepThose_81 : decode b_FontShelf_keepThose 81 = .ok (.iload_n 3, 1) := by decide +kernel
theorem d_FontShelf_keepThose_82 : decode b_FontShelf_keepThose 82 = .ok (.ifCond .eq 35, 3) := by decide +kernel
theorem d_FontShelf_keepThose_85 : decode b_FontShelf_keepThose 85 = .ok (.aload_n 0, 1) := by decide +kernel
theorem d_FontShelf_keepThose_86 : decode b_FontShelf_keepThose 86 = .ok (.getfield 38, 3) := by decide +kernel
theorem d_FontShelf_keepThose_89 : decode b_FontShelf_keepThose 89 = .ok (.iload 4, 2) := by decide +kernel
theorem d_FontShelf_keepThose_91 : decode b_FontShelf_keepThose 91 = .ok (.dup2, 1) := by decide +kernel
theorem d_FontShelf_keepThose_92 : decode b_FontShelf_keepThose 92 = .ok (.baload, 1) := by decide +kernel
theorem d_FontShelf_keepThose_93 : decode b_FontShelf_keepThose 93 = .ok (.aload_n 0, 1) := by decide +kernel
theorem d_FontShelf_keepThose_94 : decode b_FontShelf_keepThose 94 = .ok (.iload 4, 2) := by decide +kernel
theorem d_FontShelf_keepThose_96 : decode b_FontShelf_keepThose 96 = .ok (.iload_n 1, 1) := by decide +kernel
theorem d_FontShelf_keepThose_97 : decode b_FontShelf_keepThose 97 = .ok (.invokevirtual 139, 3) := by decide +kernel
theorem d_FontShelf_keepThose_100 : decode b_FontShelf_keepThose 100 = .ok (.iload_n 2, 1) := by decide +kernel
theorem d_FontShelf_keepThose_101 : decode b_FontShelf_keepThose 101 = .ok (.if_icmp .ne 7, 3) := by decide +kernel
theorem d_FontShelf_keepThose_104 : decode b_FontShelf_keepThose 104 = .ok (.iconst 1, 1) := by decide +kernel
theorem d_FontShelf_keepThose_105 : decode b_FontShelf_keepThose 105 = .ok (.goto 4, 3) := by decide +kernel
theorem d_FontShelf_keepThose_108 : decode b_FontShelf_keepThose 108 = .ok (.iconst 0, 1) := by decide +kernel
theorem d_FontShelf_keepThose_109 : decode b_FontShelf_keepThose 109 = .ok (.iand, 1) := by decide +kernel
theorem d_FontShelf_keepThose_110 : decode b_FontShelf_keepThose 110 = .ok (.bastore, 1) := by decide +kernel
theorem d_FontShelf_keepThose_111 : decode b_FontShelf_keepThose 111 = .ok (.iinc 4 1, 3) := by decide +kernel
theorem d_FontShelf_keepThose_114 : decode b_FontShelf_keepThose 114 = .ok (.goto (-52), 3) := by decide +kernel
theorem d_FontShelf_keepThose_117 : decode b_FontShelf_keepThose 117 = .ok (.iload_n 3, 1) := by decide +kernel
theorem d_FontShelf_keepThose_118 : decode b_FontShelf_keepThose 118 = .ok (.ireturn, 1) := by decide +kernel
abbrev b_FontShelf_allLeftEven : ByteArray := prog_3_method_28_code
abbrev y_FontShelf_allLeftEven : MethodName := ⟨"SheetPrinter$FontShelf", "allLeftEven", "()Z"⟩
abbrev w_FontShelf_allLeftEven : List Cond := .code y_FontShelf_allLeftEven b_FontShelf_allLeftEven 2 (some .boolean) :: gT
theorem gd_FontShelf_allLeftEven : GoodIn gT w_FontShelf_allLeftEven := gW wd_2_64
theorem d_FontShelf_allLeftEven_0 : decode b_FontShelf_allLeftEven 0 = .ok (.iconst 0, 1) := by decide +kernel
theorem d_FontShelf_allLeftEven_1 : decode b_FontShelf_allLeftEven 1 = .ok (.istore_n 1, 1) := by decide +kernel
theorem d_FontShelf_allLeftEven_2 : decode b_FontShelf_allLeftEven 2 = .ok (.iload_n 1, 1) := by decide +kernel
theorem d_FontShelf_allLeftEven_3 : decode b_FontShelf_allLeftEven 3 = .ok (.aload_n 0, 1) := by decide +kernel
theorem d_FontShelf_allLeftEven_4 : decode b_FontShelf_allLeftEven 4 = .ok (.getfield 77, 3) := by decide +kernel
theorem d_FontShelf_allLeftEven_7 : decode b_FontShelf_allLeftEven 7 = .ok (.if_icmp .ge 38, 3) := by decide +kernel
theorem d_FontShelf_allLeftEven_10 : decode b_FontShelf_allLeftEven 10 = .ok (.iload_n 1, 1) := by decide +kernel
theorem d_FontShelf_allLeftEven_11 : decode b_FontShelf_allLeftEven 11 = .ok (.aload_n 0, 1) := by decide +kernel
theorem d_FontShelf_allLeftEven_12 : decode b_FontShelf_allLeftEven 12 = .ok (.getfield 38, 3) := by decide +kernel
theorem d_FontShelf_allLeftEven_15 : decode b_FontShelf_allLeftEven 15 = .ok (.arraylength, 1) := by decide +kernel
theorem d_FontShelf_allLeftEven_16 : decode b_FontShelf_allLeftEven 16 = .ok (.if_icmp .ge 29, 3) := by decide +kernel
theorem d_FontShelf_allLeftEven_19 : decode b_FontShelf_allLeftEven 19 = .ok (.aload_n 0, 1) := by decide +kernel
theorem d_FontShelf_allLeftEven_20 : decode b_FontShelf_allLeftEven 20 = .ok (.getfield 38, 3) := by decide +kernel
theorem d_FontShelf_allLeftEven_23 : decode b_FontShelf_allLeftEven 23 = .ok (.iload_n 1, 1) := by decide +kernel
theorem d_FontShelf_allLeftEven_24 : decode b_FontShelf_allLeftEven 24 = .ok (.baload, 1) := by decide +kernel
theorem d_FontShelf_allLeftEven_25 : decode b_FontShelf_allLeftEven 25 = .ok (.ifCond .eq 14, 3) := by decide +kernel
theorem d_FontShelf_allLeftEven_28 : decode b_FontShelf_allLeftEven 28 = .ok (.aload_n 0, 1) := by decide +kernel
theorem d_FontShelf_allLeftEven_29 : decode b_FontShelf_allLeftEven 29 = .ok (.iload_n 1, 1) := by decide +kernel
theorem d_FontShelf_allLeftEven_30 : decode b_FontShelf_allLeftEven 30 = .ok (.iconst 1, 1) := by decide +kernel
theorem d_FontShelf_allLeftEven_31 : decode b_FontShelf_allLeftEven 31 = .ok (.invokevirtual 139, 3) := by decide +kernel
theorem d_FontShelf_allLeftEven_34 : decode b_FontShelf_allLeftEven 34 = .ok (.ifCond .eq 5, 3) := by decide +kernel
theorem d_FontShelf_allLeftEven_37 : decode b_FontShelf_allLeftEven 37 = .ok (.iconst 0, 1) := by decide +kernel
theorem d_FontShelf_allLeftEven_38 : decode b_FontShelf_allLeftEven 38 = .ok (.ireturn, 1) := by decide +kernel
theorem d_FontShelf_allLeftEven_39 : decode b_FontShelf_allLeftEven 39 = .ok (.iinc 1 1, 3) := by decide +kernel
theorem d_FontShelf_allLeftEven_42 : decode b_FontShelf_allLeftEven 42 = .ok (.goto (-40), 3) := by decide +kernel
theorem d_FontShelf_allLeftEven_45 : decode b_FontShelf_allLeftEven 45 = .ok (.iconst 1, 1) := by decide +kernel
theorem d_FontShelf_allLeftEven_46 : decode b_FontShelf_allLeftEven 46 = .ok (.ireturn, 1) := by decide +kernel
abbrev b_FontShelf_least : ByteArray := prog_3_method_33_code
abbrev y_FontShelf_least : MethodName := ⟨"SheetPrinter$FontShelf", "least", "(II)I"⟩
abbrev w_FontShelf_least : List Cond := .code y_FontShelf_least b_FontShelf_least 6 (some .int) :: gT
theorem gd_FontShelf_least : GoodIn gT w_FontShelf_least := gW wd_2_72
theorem d_FontShelf_least_0 : decode b_FontShelf_least 0 = .ok (.iconst (-1), 1) := by decide +kernel
theorem d_FontShelf_least_1 : decode b_FontShelf_least 1 = .ok (.istore_n 3, 1) := by decide +kernel
theorem d_FontShelf_least_2 : decode b_FontShelf_least 2 = .ok (.iconst 0, 1) := by decide +kernel
theorem d_FontShelf_least_3 : decode b_FontShelf_least 3 = .ok (.istore 4, 2) := by decide +kernel
theorem d_FontShelf_least_5 : decode b_FontShelf_least 5 = .ok (.iload 4, 2) := by decide +kernel
theorem d_FontShelf_least_7 : decode b_FontShelf_least 7 = .ok (.aload_n 0, 1) := by decide +kernel
theorem d_FontShelf_least_8 : decode b_FontShelf_least 8 = .ok (.getfield 77, 3) := by decide +kernel
theorem d_FontShelf_least_11 : decode b_FontShelf_least 11 = .ok (.if_icmp .ge 58, 3) := by decide +kernel
theorem d_FontShelf_least_14 : decode b_FontShelf_least 14 = .ok (.iload 4, 2) := by decide +kernel
theorem d_FontShelf_least_16 : decode b_FontShelf_least 16 = .ok (.aload_n 0, 1) := by decide +kernel
theorem d_FontShelf_least_17 : decode b_FontShelf_least 17 = .ok (.getfield 38, 3) := by decide +kernel
theorem d_FontShelf_least_20 : decode b_FontShelf_least 20 = .ok (.arraylength, 1) := by decide +kernel
theorem d_FontShelf_least_21 : decode b_FontShelf_least 21 = .ok (.if_icmp .ge 48, 3) := by decide +kernel
theorem d_FontShelf_least_24 : decode b_FontShelf_least 24 = .ok (.aload_n 0, 1) := by decide +kernel
theorem d_FontShelf_least_25 : decode b_FontShelf_least 25 = .ok (.iload 4, 2) := by decide +kernel
theorem d_FontShelf_least_27 : decode b_FontShelf_least 27 = .ok (.iload_n 1, 1) := by decide +kernel
theorem d_FontShelf_least_28 : decode b_FontShelf_least 28 = .ok (.invokevirtual 139, 3) := by decide +kernel
theorem d_FontShelf_least_31 : decode b_FontShelf_least 31 = .ok (.istore 5, 2) := by decide +kernel
theorem d_FontShelf_least_33 : decode b_FontShelf_least 33 = .ok (.aload_n 0, 1) := by decide +kernel
theorem d_FontShelf_least_34 : decode b_FontShelf_least 34 = .ok (.getfield 38, 3) := by decide +kernel
theorem d_FontShelf_least_37 : decode b_FontShelf_least 37 = .ok (.iload 4, 2) := by decide +kernel
theorem d_FontShelf_least_39 : decode b_FontShelf_least 39 = .ok (.baload, 1) := by decide +kernel
theorem d_FontShelf_least_40 : decode b_FontShelf_least 40 = .ok (.ifCond .eq 23, 3) := by decide +kernel
theorem d_FontShelf_least_43 : decode b_FontShelf_least 43 = .ok (.iload 5, 2) := by decide +kernel
theorem d_FontShelf_least_45 : decode b_FontShelf_least 45 = .ok (.iload_n 2, 1) := by decide +kernel
theorem d_FontShelf_least_46 : decode b_FontShelf_least 46 = .ok (.if_icmp .lt 17, 3) := by decide +kernel
theorem d_FontShelf_least_49 : decode b_FontShelf_least 49 = .ok (.iload_n 3, 1) := by decide +kernel
theorem d_FontShelf_least_50 : decode b_FontShelf_least 50 = .ok (.iconst (-1), 1) := by decide +kernel
theorem d_FontShelf_least_51 : decode b_FontShelf_least 51 = .ok (.if_icmp .eq 9, 3) := by decide +kernel
theorem d_FontShelf_least_54 : decode b_FontShelf_least 54 = .ok (.iload 5, 2) := by decide +kernel
theorem d_FontShelf_least_56 : decode b_FontShelf_least 56 = .ok (.iload_n 3, 1) := by decide +kernel
theorem d_FontShelf_least_57 : decode b_FontShelf_least 57 = .ok (.if_icmp .ge 6, 3) := by decide +kernel
theorem d_FontShelf_least_60 : decode b_FontShelf_least 60 = .ok (.iload 5, 2) := by decide +kernel
theorem d_FontShelf_least_62 : decode b_FontShelf_least 62 = .ok (.istore_n 3, 1) := by decide +kernel
theorem d_FontShelf_least_63 : decode b_FontShelf_least 63 = .ok (.iinc 4 1, 3) := by decide +kernel
theorem d_FontShelf_least_66 : decode b_FontShelf_least 66 = .ok (.goto (-61), 3) := by decide +kernel
theorem d_FontShelf_least_69 : decode b_FontShelf_least 69 = .ok (.iload_n 3, 1) := by decide +kernel
theorem d_FontShelf_least_70 : decode b_FontShelf_least 70 = .ok (.ireturn, 1) := by decide +kernel
abbrev b_FontShelf_greatest : ByteArray := prog_3_method_34_code
abbrev y_FontShelf_greatest : MethodName := ⟨"SheetPrinter$FontShelf", "greatest", "(II)I"⟩
abbrev w_FontShelf_greatest : List Cond := .code y_FontShelf_greatest b_FontShelf_greatest 6 (some .int) :: gT
theorem gd_FontShelf_greatest : GoodIn gT w_FontShelf_greatest := gW wd_2_78
theorem d_FontShelf_greatest_0 : decode b_FontShelf_greatest 0 = .ok (.iconst (-1), 1) := by decide +kernel
theorem d_FontShelf_greatest_1 : decode b_FontShelf_greatest 1 = .ok (.istore_n 3, 1) := by decide +kernel
theorem d_FontShelf_greatest_2 : decode b_FontShelf_greatest 2 = .ok (.iconst 0, 1) := by decide +kernel
theorem d_FontShelf_greatest_3 : decode b_FontShelf_greatest 3 = .ok (.istore 4, 2) := by decide +kernel
theorem d_FontShelf_greatest_5 : decode b_FontShelf_greatest 5 = .ok (.iload 4, 2) := by decide +kernel
theorem d_FontShelf_greatest_7 : decode b_FontShelf_greatest 7 = .ok (.aload_n 0, 1) := by decide +kernel
theorem d_FontShelf_greatest_8 : decode b_FontShelf_greatest 8 = .ok (.getfield 77, 3) := by decide +kernel
theorem d_FontShelf_greatest_11 : decode b_FontShelf_greatest 11 = .ok (.if_icmp .ge 53, 3) := by decide +kernel
theorem d_FontShelf_greatest_14 : decode b_FontShelf_greatest 14 = .ok (.iload 4, 2) := by decide +kernel
theorem d_FontShelf_greatest_16 : decode b_FontShelf_greatest 16 = .ok (.aload_n 0, 1) := by decide +kernel
theorem d_FontShelf_greatest_17 : decode b_FontShelf_greatest 17 = .ok (.getfield 38, 3) := by decide +kernel
theorem d_FontShelf_greatest_20 : decode b_FontShelf_greatest 20 = .ok (.arraylength, 1) := by decide +kernel
theorem d_FontShelf_greatest_21 : decode b_FontShelf_greatest 21 = .ok (.if_icmp .ge 43, 3) := by decide +kernel
theorem d_FontShelf_greatest_24 : decode b_FontShelf_greatest 24 = .ok (.aload_n 0, 1) := by decide +kernel
theorem d_FontShelf_greatest_25 : decode b_FontShelf_greatest 25 = .ok (.iload 4, 2) := by decide +kernel
theorem d_FontShelf_greatest_27 : decode b_FontShelf_greatest 27 = .ok (.iload_n 1, 1) := by decide +kernel
theorem d_FontShelf_greatest_28 : decode b_FontShelf_greatest 28 = .ok (.invokevirtual 139, 3) := by decide +kernel
theorem d_FontShelf_greatest_31 : decode b_FontShelf_greatest 31 = .ok (.istore 5, 2) := by decide +kernel
theorem d_FontShelf_greatest_33 : decode b_FontShelf_greatest 33 = .ok (.aload_n 0, 1) := by decide +kernel
theorem d_FontShelf_greatest_34 : decode b_FontShelf_greatest 34 = .ok (.getfield 38, 3) := by decide +kernel
theorem d_FontShelf_greatest_37 : decode b_FontShelf_greatest 37 = .ok (.iload 4, 2) := by decide +kernel
theorem d_FontShelf_greatest_39 : decode b_FontShelf_greatest 39 = .ok (.baload, 1) := by decide +kernel
theorem d_FontShelf_greatest_40 : decode b_FontShelf_greatest 40 = .ok (.ifCond .eq 18, 3) := by decide +kernel
theorem d_FontShelf_greatest_43 : decode b_FontShelf_greatest 43 = .ok (.iload 5, 2) := by decide +kernel
theorem d_FontShelf_greatest_45 : decode b_FontShelf_greatest 45 = .ok (.iload_n 2, 1) := by decide +kernel
theorem d_FontShelf_greatest_46 : decode b_FontShelf_greatest 46 = .ok (.if_icmp .gt 12, 3) := by decide +kernel
theorem d_FontShelf_greatest_49 : decode b_FontShelf_greatest 49 = .ok (.iload 5, 2) := by decide +kernel
theorem d_FontShelf_greatest_51 : decode b_FontShelf_greatest 51 = .ok (.iload_n 3, 1) := by decide +kernel
theorem d_FontShelf_greatest_52 : decode b_FontShelf_greatest 52 = .ok (.if_icmp .le 6, 3) := by decide +kernel
theorem d_FontShelf_greatest_55 : decode b_FontShelf_greatest 55 = .ok (.iload 5, 2) := by decide +kernel
theorem d_FontShelf_greatest_57 : decode b_FontShelf_greatest 57 = .ok (.istore_n 3, 1) := by decide +kernel
theorem d_FontShelf_greatest_58 : decode b_FontShelf_greatest 58 = .ok (.iinc 4 1, 3) := by decide +kernel
theorem d_FontShelf_greatest_61 : decode b_FontShelf_greatest 61 = .ok (.goto (-56), 3) := by decide +kernel
theorem d_FontShelf_greatest_64 : decode b_FontShelf_greatest 64 = .ok (.iload_n 3, 1) := by decide +kernel
theorem d_FontShelf_greatest_65 : decode b_FontShelf_greatest 65 = .ok (.ireturn, 1) := by decide +kernel
abbrev b_FontShelf_anyLeft : ByteArray := prog_3_method_32_code
abbrev y_FontShelf_anyLeft : MethodName := ⟨"SheetPrinter$FontShelf", "anyLeft", "(II)Z"⟩
abbrev w_FontShelf_anyLeft : List Cond := .code y_FontShelf_anyLeft b_FontShelf_anyLeft 4 (some .boolean) :: gT
theorem gd_FontShelf_anyLeft : GoodIn gT w_FontShelf_anyLeft := gW wd_2_93
theorem d_FontShelf_anyLeft_0 : decode b_FontShelf_anyLeft 0 = .ok (.iconst 0, 1) := by decide +kernel
theorem d_FontShelf_anyLeft_1 : decode b_FontShelf_anyLeft 1 = .ok (.istore_n 3, 1) := by decide +kernel
theorem d_FontShelf_anyLeft_2 : decode b_FontShelf_anyLeft 2 = .ok (.iload_n 3, 1) := by decide +kernel
theorem d_FontShelf_anyLeft_3 : decode b_FontShelf_anyLeft 3 = .ok (.aload_n 0, 1) := by decide +kernel
theorem d_FontShelf_anyLeft_4 : decode b_FontShelf_anyLeft 4 = .ok (.getfield 77, 3) := by decide +kernel
theorem d_FontShelf_anyLeft_7 : decode b_FontShelf_anyLeft 7 = .ok (.if_icmp .ge 39, 3) := by decide +kernel
theorem d_FontShelf_anyLeft_10 : decode b_FontShelf_anyLeft 10 = .ok (.iload_n 3, 1) := by decide +kernel
theorem d_FontShelf_anyLeft_11 : decode b_FontShelf_anyLeft 11 = .ok (.aload_n 0, 1) := by decide +kernel
theorem d_FontShelf_anyLeft_12 : decode b_FontShelf_anyLeft 12 = .ok (.getfield 38, 3) := by decide +kernel
theorem d_FontShelf_anyLeft_15 : decode b_FontShelf_anyLeft 15 = .ok (.arraylength, 1) := by decide +kernel
theorem d_FontShelf_anyLeft_16 : decode b_FontShelf_anyLeft 16 = .ok (.if_icmp .ge 30, 3) := by decide +kernel
theorem d_FontShelf_anyLeft_19 : decode b_FontShelf_anyLeft 19 = .ok (.aload_n 0, 1) := by decide +kernel
theorem d_FontShelf_anyLeft_20 : decode b_FontShelf_anyLeft 20 = .ok (.getfield 38, 3) := by decide +kernel
theorem d_FontShelf_anyLeft_23 : decode b_FontShelf_anyLeft 23 = .ok (.iload_n 3, 1) := by decide +kernel
theorem d_FontShelf_anyLeft_24 : decode b_FontShelf_anyLeft 24 = .ok (.baload, 1) := by decide +kernel
theorem d_FontShelf_anyLeft_25 : decode b_FontShelf_anyLeft 25 = .ok (.ifCond .eq 15, 3) := by decide +kernel
theorem d_FontShelf_anyLeft_28 : decode b_FontShelf_anyLeft 28 = .ok (.aload_n 0, 1) := by decide +kernel
theorem d_FontShelf_anyLeft_29 : decode b_FontShelf_anyLeft 29 = .ok (.iload_n 3, 1) := by decide +kernel
theorem d_FontShelf_anyLeft_30 : decode b_FontShelf_anyLeft 30 = .ok (.iload_n 1, 1) := by decide +kernel
theorem d_FontShelf_anyLeft_31 : decode b_FontShelf_anyLeft 31 = .ok (.invokevirtual 139, 3) := by decide +kernel
theorem d_FontShelf_anyLeft_34 : decode b_FontShelf_anyLeft 34 = .ok (.iload_n 2, 1) := by decide +kernel
theorem d_FontShelf_anyLeft_35 : decode b_FontShelf_anyLeft 35 = .ok (.if_icmp .ne 5, 3) := by decide +kernel
theorem d_FontShelf_anyLeft_38 : decode b_FontShelf_anyLeft 38 = .ok (.iconst 1, 1) := by decide +kernel
theorem d_FontShelf_anyLeft_39 : decode b_FontShelf_anyLeft 39 = .ok (.ireturn, 1) := by decide +kernel
theorem d_FontShelf_anyLeft_40 : decode b_FontShelf_anyLeft 40 = .ok (.iinc 3 1, 3) := by decide +kernel
theorem d_FontShelf_anyLeft_43 : decode b_FontShelf_anyLeft 43 = .ok (.goto (-41), 3) := by decide +kernel
theorem d_FontShelf_anyLeft_46 : decode b_FontShelf_anyLeft 46 = .ok (.iconst 0, 1) := by decide +kernel
theorem d_FontShelf_anyLeft_47 : decode b_FontShelf_anyLeft 47 = .ok (.ireturn, 1) := by decide +kernel
abbrev b_FontShelf_lastLeft : ByteArray := prog_3_method_35_code
abbrev y_FontShelf_lastLeft : MethodName := ⟨"SheetPrinter$FontShelf", "lastLeft", "()I"⟩
abbrev w_FontShelf_lastLeft : List Cond := .code y_FontShelf_lastLeft b_FontShelf_lastLeft 4 (some .int) :: gT
theorem gd_FontShelf_lastLeft : GoodIn gT w_FontShelf_lastLeft := gW wd_2_97
theorem d_FontShelf_lastLeft_0 : decode b_FontShelf_lastLeft 0 = .ok (.iconst (-1), 1) := by decide +kernel
theorem d_FontShelf_lastLeft_1 : decode b_FontShelf_lastLeft 1 = .ok (.istore_n 1, 1) := by decide +kernel
theorem d_FontShelf_lastLeft_2 : decode b_FontShelf_lastLeft 2 = .ok (.iconst (-1), 1) := by decide +kernel
theorem d_FontShelf_lastLeft_3 : decode b_FontShelf_lastLeft 3 = .ok (.istore_n 2, 1) := by decide +kernel
theorem d_FontShelf_lastLeft_4 : decode b_FontShelf_lastLeft 4 = .ok (.iconst 0, 1) := by decide +kernel
theorem d_FontShelf_lastLeft_5 : decode b_FontShelf_lastLeft 5 = .ok (.istore_n 3, 1) := by decide +kernel
theorem d_FontShelf_lastLeft_6 : decode b_FontShelf_lastLeft 6 = .ok (.iload_n 3, 1) := by decide +kernel
theorem d_FontShelf_lastLeft_7 : decode b_FontShelf_lastLeft 7 = .ok (.aload_n 0, 1) := by decide +kernel
theorem d_FontShelf_lastLeft_8 : decode b_FontShelf_lastLeft 8 = .ok (.getfield 77, 3) := by decide +kernel
theorem d_FontShelf_lastLeft_11 : decode b_FontShelf_lastLeft 11 = .ok (.if_icmp .ge 44, 3) := by decide +kernel
theorem d_FontShelf_lastLeft_14 : decode b_FontShelf_lastLeft 14 = .ok (.iload_n 3, 1) := by decide +kernel
theorem d_FontShelf_lastLeft_15 : decode b_FontShelf_lastLeft 15 = .ok (.aload_n 0, 1) := by decide +kernel
theorem d_FontShelf_lastLeft_16 : decode b_FontShelf_lastLeft 16 = .ok (.getfield 38, 3) := by decide +kernel
theorem d_FontShelf_lastLeft_19 : decode b_FontShelf_lastLeft 19 = .ok (.arraylength, 1) := by decide +kernel
theorem d_FontShelf_lastLeft_20 : decode b_FontShelf_lastLeft 20 = .ok (.if_icmp .ge 35, 3) := by decide +kernel
theorem d_FontShelf_lastLeft_23 : decode b_FontShelf_lastLeft 23 = .ok (.aload_n 0, 1) := by decide +kernel
theorem d_FontShelf_lastLeft_24 : decode b_FontShelf_lastLeft 24 = .ok (.getfield 38, 3) := by decide +kernel
theorem d_FontShelf_lastLeft_27 : decode b_FontShelf_lastLeft 27 = .ok (.iload_n 3, 1) := by decide +kernel
theorem d_FontShelf_lastLeft_28 : decode b_FontShelf_lastLeft 28 = .ok (.baload, 1) := by decide +kernel
theorem d_FontShelf_lastLeft_29 : decode b_FontShelf_lastLeft 29 = .ok (.ifCond .eq 20, 3) := by decide +kernel
theorem d_FontShelf_lastLeft_32 : decode b_FontShelf_lastLeft 32 = .ok (.iload_n 3, 1) := by decide +kernel
theorem d_FontShelf_lastLeft_33 : decode b_FontShelf_lastLeft 33 = .ok (.istore_n 1, 1) := by decide +kernel
theorem d_FontShelf_lastLeft_34 : decode b_FontShelf_lastLeft 34 = .ok (.aload_n 0, 1) := by decide +kernel
theorem d_FontShelf_lastLeft_35 : decode b_FontShelf_lastLeft 35 = .ok (.getfield 18, 3) := by decide +kernel
theorem d_FontShelf_lastLeft_38 : decode b_FontShelf_lastLeft 38 = .ok (.iload_n 3, 1) := by decide +kernel
theorem d_FontShelf_lastLeft_39 : decode b_FontShelf_lastLeft 39 = .ok (.baload, 1) := by decide +kernel
theorem d_FontShelf_lastLeft_40 : decode b_FontShelf_lastLeft 40 = .ok (.ifCond .eq 7, 3) := by decide +kernel
theorem d_FontShelf_lastLeft_43 : decode b_FontShelf_lastLeft 43 = .ok (.iload_n 2, 1) := by decide +kernel
theorem d_FontShelf_lastLeft_44 : decode b_FontShelf_lastLeft 44 = .ok (.goto 4, 3) := by decide +kernel
theorem d_FontShelf_lastLeft_47 : decode b_FontShelf_lastLeft 47 = .ok (.iload_n 3, 1) := by decide +kernel
theorem d_FontShelf_lastLeft_48 : decode b_FontShelf_lastLeft 48 = .ok (.istore_n 2, 1) := by decide +kernel
theorem d_FontShelf_lastLeft_49 : decode b_FontShelf_lastLeft 49 = .ok (.iinc 3 1, 3) := by decide +kernel
theorem d_FontShelf_lastLeft_52 : decode b_FontShelf_lastLeft 52 = .ok (.goto (-46), 3) := by decide +kernel
theorem d_FontShelf_lastLeft_55 : decode b_FontShelf_lastLeft 55 = .ok (.iload_n 2, 1) := by decide +kernel
theorem d_FontShelf_lastLeft_56 : decode b_FontShelf_lastLeft 56 = .ok (.iconst (-1), 1) := by decide +kernel
theorem d_FontShelf_lastLeft_57 : decode b_FontShelf_lastLeft 57 = .ok (.if_icmp .ne 7, 3) := by decide +kernel
theorem d_FontShelf_lastLeft_60 : decode b_FontShelf_lastLeft 60 = .ok (.iload_n 1, 1) := by decide +kernel
theorem d_FontShelf_lastLeft_61 : decode b_FontShelf_lastLeft 61 = .ok (.goto 4, 3) := by decide +kernel
theorem d_FontShelf_lastLeft_64 : decode b_FontShelf_lastLeft 64 = .ok (.iload_n 2, 1) := by decide +kernel
theorem d_FontShelf_lastLeft_65 : decode b_FontShelf_lastLeft 65 = .ok (.ireturn, 1) := by decide +kernel
abbrev b_FontShelf_bestPitch : ByteArray := prog_3_method_29_code
abbrev y_FontShelf_bestPitch : MethodName := ⟨"SheetPrinter$FontShelf", "bestPitch", "(I)I"⟩
abbrev w_FontShelf_bestPitch : List Cond := .code y_FontShelf_bestPitch b_FontShelf_bestPitch 3 (some .int) :: gT
theorem gd_FontShelf_bestPitch : GoodIn gT w_FontShelf_bestPitch := gW wd_2_68
theorem d_FontShelf_bestPitch_0 : decode b_FontShelf_bestPitch 0 = .ok (.aload_n 0, 1) := by decide +kernel
theorem d_FontShelf_bestPitch_1 : decode b_FontShelf_bestPitch 1 = .ok (.iconst 2, 1) := by decide +kernel
theorem d_FontShelf_bestPitch_2 : decode b_FontShelf_bestPitch 2 = .ok (.iload_n 1, 1) := by decide +kernel
theorem d_FontShelf_bestPitch_3 : decode b_FontShelf_bestPitch 3 = .ok (.invokevirtual 166, 3) := by decide +kernel
theorem d_FontShelf_bestPitch_6 : decode b_FontShelf_bestPitch 6 = .ok (.istore_n 2, 1) := by decide +kernel
theorem d_FontShelf_bestPitch_7 : decode b_FontShelf_bestPitch 7 = .ok (.iload_n 2, 1) := by decide +kernel
theorem d_FontShelf_bestPitch_8 : decode b_FontShelf_bestPitch 8 = .ok (.iconst (-1), 1) := by decide +kernel
theorem d_FontShelf_bestPitch_9 : decode b_FontShelf_bestPitch 9 = .ok (.if_icmp .ne 16, 3) := by decide +kernel
theorem d_FontShelf_bestPitch_12 : decode b_FontShelf_bestPitch 12 = .ok (.aload_n 0, 1) := by decide +kernel
theorem d_FontShelf_bestPitch_13 : decode b_FontShelf_bestPitch 13 = .ok (.iconst 2, 1) := by decide +kernel
theorem d_FontShelf_bestPitch_14 : decode b_FontShelf_bestPitch 14 = .ok (.getstatic 125, 3) := by decide +kernel
theorem d_FontShelf_bestPitch_17 : decode b_FontShelf_bestPitch 17 = .ok (.iconst 2, 1) := by decide +kernel
theorem d_FontShelf_bestPitch_18 : decode b_FontShelf_bestPitch 18 = .ok (.iaload, 1) := by decide +kernel
theorem d_FontShelf_bestPitch_19 : decode b_FontShelf_bestPitch 19 = .ok (.invokevirtual 169, 3) := by decide +kernel
theorem d_FontShelf_bestPitch_22 : decode b_FontShelf_bestPitch 22 = .ok (.goto 4, 3) := by decide +kernel
theorem d_FontShelf_bestPitch_25 : decode b_FontShelf_bestPitch 25 = .ok (.iload_n 2, 1) := by decide +kernel
theorem d_FontShelf_bestPitch_26 : decode b_FontShelf_bestPitch 26 = .ok (.ireturn, 1) := by decide +kernel
abbrev b_FontShelf_nearestHeight : ByteArray := prog_3_method_30_code
abbrev y_FontShelf_nearestHeight : MethodName := ⟨"SheetPrinter$FontShelf", "nearestHeight", "(I)I"⟩
abbrev w_FontShelf_nearestHeight : List Cond := .code y_FontShelf_nearestHeight b_FontShelf_nearestHeight 4 (some .int) :: gT
theorem gd_FontShelf_nearestHeight : GoodIn gT w_FontShelf_nearestHeight := gW wd_2_82
theorem d_FontShelf_nearestHeight_0 : decode b_FontShelf_nearestHeight 0 = .ok (.aload_n 0, 1) := by decide +kernel
theorem d_FontShelf_nearestHeight_1 : decode b_FontShelf_nearestHeight 1 = .ok (.iconst 3, 1) := by decide +kernel
theorem d_FontShelf_nearestHeight_2 : decode b_FontShelf_nearestHeight 2 = .ok (.iload_n 1, 1) := by decide +kernel
theorem d_FontShelf_nearestHeight_3 : decode b_FontShelf_nearestHeight 3 = .ok (.invokevirtual 166, 3) := by decide +kernel
theorem d_FontShelf_nearestHeight_6 : decode b_FontShelf_nearestHeight 6 = .ok (.istore_n 2, 1) := by decide +kernel
theorem d_FontShelf_nearestHeight_7 : decode b_FontShelf_nearestHeight 7 = .ok (.aload_n 0, 1) := by decide +kernel
theorem d_FontShelf_nearestHeight_8 : decode b_FontShelf_nearestHeight 8 = .ok (.iconst 3, 1) := by decide +kernel
theorem d_FontShelf_nearestHeight_9 : decode b_FontShelf_nearestHeight 9 = .ok (.iload_n 1, 1) := by decide +kernel
theorem d_FontShelf_nearestHeight_10 : decode b_FontShelf_nearestHeight 10 = .ok (.invokevirtual 169, 3) := by decide +kernel
theorem d_FontShelf_nearestHeight_13 : decode b_FontShelf_nearestHeight 13 = .ok (.istore_n 3, 1) := by decide +kernel
theorem d_FontShelf_nearestHeight_14 : decode b_FontShelf_nearestHeight 14 = .ok (.iload_n 2, 1) := by decide +kernel
theorem d_FontShelf_nearestHeight_15 : decode b_FontShelf_nearestHeight 15 = .ok (.iconst (-1), 1) := by decide +kernel
theorem d_FontShelf_nearestHeight_16 : decode b_FontShelf_nearestHeight 16 = .ok (.if_icmp .eq 8, 3) := by decide +kernel
theorem d_FontShelf_nearestHeight_19 : decode b_FontShelf_nearestHeight 19 = .ok (.iload_n 3, 1) := by decide +kernel
theorem d_FontShelf_nearestHeight_20 : decode b_FontShelf_nearestHeight 20 = .ok (.iconst (-1), 1) := by decide +kernel
theorem d_FontShelf_nearestHeight_21 : decode b_FontShelf_nearestHeight 21 = .ok (.if_icmp .ne 9, 3) := by decide +kernel
theorem d_FontShelf_nearestHeight_24 : decode b_FontShelf_nearestHeight 24 = .ok (.iload_n 2, 1) := by decide +kernel
theorem d_FontShelf_nearestHeight_25 : decode b_FontShelf_nearestHeight 25 = .ok (.iload_n 3, 1) := by decide +kernel
theorem d_FontShelf_nearestHeight_26 : decode b_FontShelf_nearestHeight 26 = .ok (.invokestatic 172, 3) := by decide +kernel
theorem d_FontShelf_nearestHeight_29 : decode b_FontShelf_nearestHeight 29 = .ok (.ireturn, 1) := by decide +kernel
theorem d_FontShelf_nearestHeight_30 : decode b_FontShelf_nearestHeight 30 = .ok (.iload_n 1, 1) := by decide +kernel
theorem d_FontShelf_nearestHeight_31 : decode b_FontShelf_nearestHeight 31 = .ok (.iload_n 3, 1) := by decide +kernel
theorem d_FontShelf_nearestHeight_32 : decode b_FontShelf_nearestHeight 32 = .ok (.isub, 1) := by decide +kernel
theorem d_FontShelf_nearestHeight_33 : decode b_FontShelf_nearestHeight 33 = .ok (.iload_n 2, 1) := by decide +kernel
theorem d_FontShelf_nearestHeight_34 : decode b_FontShelf_nearestHeight 34 = .ok (.iload_n 1, 1) := by decide +kernel
theorem d_FontShelf_nearestHeight_35 : decode b_FontShelf_nearestHeight 35 = .ok (.isub, 1) := by decide +kernel
theorem d_FontShelf_nearestHeight_36 : decode b_FontShelf_nearestHeight 36 = .ok (.if_icmp .ge 7, 3) := by decide +kernel
theorem d_FontShelf_nearestHeight_39 : decode b_FontShelf_nearestHeight 39 = .ok (.iload_n 3, 1) := by decide +kernel
theorem d_FontShelf_nearestHeight_40 : decode b_FontShelf_nearestHeight 40 = .ok (.goto 4, 3) := by decide +kernel
theorem d_FontShelf_nearestHeight_43 : decode b_FontShelf_nearestHeight 43 = .ok (.iload_n 2, 1) := by decide +kernel
theorem d_FontShelf_nearestHeight_44 : decode b_FontShelf_nearestHeight 44 = .ok (.ireturn, 1) := by decide +kernel
abbrev b_FontShelf_dropPassing : ByteArray := prog_3_method_6_code
abbrev y_FontShelf_dropPassing : MethodName := ⟨"SheetPrinter$FontShelf", "dropPassing", "()V"⟩
abbrev w_FontShelf_dropPassing : List Cond := .code y_FontShelf_dropPassing b_FontShelf_dropPassing 2 none :: gT
theorem gd_FontShelf_dropPassing : GoodIn gT w_FontShelf_dropPassing := gW wd_2_19
theorem d_FontShelf_dropPassing_0 : decode b_FontShelf_dropPassing 0 = .ok (.aload_n 0, 1) := by decide +kernel
theorem d_FontShelf_dropPassing_1 : decode b_FontShelf_dropPassing 1 = .ok (.iconst 0, 1) := by decide +kernel
theorem d_FontShelf_dropPassing_2 : decode b_FontShelf_dropPassing 2 = .ok (.putfield 66, 3) := by decide +kernel
theorem d_FontShelf_dropPassing_5 : decode b_FontShelf_dropPassing 5 = .ok (.aload_n 0, 1) := by decide +kernel
theorem d_FontShelf_dropPassing_6 : decode b_FontShelf_dropPassing 6 = .ok (.getfield 77, 3) := by decide +kernel
theorem d_FontShelf_dropPassing_9 : decode b_FontShelf_dropPassing 9 = .ok (.bipush 32, 2) := by decide +kernel
theorem d_FontShelf_dropPassing_11 : decode b_FontShelf_dropPassing 11 = .ok (.invokestatic 97, 3) := by decide +kernel
theorem d_FontShelf_dropPassing_14 : decode b_FontShelf_dropPassing 14 = .ok (.iconst 1, 1) := by decide +kernel
theorem d_FontShelf_dropPassing_15 : decode b_FontShelf_dropPassing 15 = .ok (.isub, 1) := by decide +kernel
theorem d_FontShelf_dropPassing_16 : decode b_FontShelf_dropPassing 16 = .ok (.istore_n 1, 1) := by decide +kernel
theorem d_FontShelf_dropPassing_17 : decode b_FontShelf_dropPassing 17 = .ok (.iload_n 1, 1) := by decide +kernel
theorem d_FontShelf_dropPassing_18 : decode b_FontShelf_dropPassing 18 = .ok (.ifCond .lt 23, 3) := by decide +kernel
theorem d_FontShelf_dropPassing_21 : decode b_FontShelf_dropPassing 21 = .ok (.aload_n 0, 1) := by decide +kernel
theorem d_FontShelf_dropPassing_22 : decode b_FontShelf_dropPassing 22 = .ok (.getfield 18, 3) := by decide +kernel
theorem d_FontShelf_dropPassing_25 : decode b_FontShelf_dropPassing 25 = .ok (.iload_n 1, 1) := by decide +kernel
theorem d_FontShelf_dropPassing_26 : decode b_FontShelf_dropPassing 26 = .ok (.baload, 1) := by decide +kernel
theorem d_FontShelf_dropPassing_27 : decode b_FontShelf_dropPassing 27 = .ok (.ifCond .ne 8, 3) := by decide +kernel
theorem d_FontShelf_dropPassing_30 : decode b_FontShelf_dropPassing 30 = .ok (.aload_n 0, 1) := by decide +kernel
theorem d_FontShelf_dropPassing_31 : decode b_FontShelf_dropPassing 31 = .ok (.iload_n 1, 1) := by decide +kernel
theorem d_FontShelf_dropPassing_32 : decode b_FontShelf_dropPassing 32 = .ok (.invokevirtual 86, 3) := by decide +kernel
theorem d_FontShelf_dropPassing_35 : decode b_FontShelf_dropPassing 35 = .ok (.iinc 1 (-1), 3) := by decide +kernel
theorem d_FontShelf_dropPassing_38 : decode b_FontShelf_dropPassing 38 = .ok (.goto (-21), 3) := by decide +kernel
theorem d_FontShelf_dropPassing_41 : decode b_FontShelf_dropPassing 41 = .ok (.return_, 1) := by decide +kernel
abbrev b_FontShelf_bestWeight : ByteArray := prog_3_method_31_code
abbrev y_FontShelf_bestWeight : MethodName := ⟨"SheetPrinter$FontShelf", "bestWeight", "(I)I"⟩
abbrev w_FontShelf_bestWeight : List Cond := .code y_FontShelf_bestWeight b_FontShelf_bestWeight 4 (some .int) :: gT
theorem gd_FontShelf_bestWeight : GoodIn gT w_FontShelf_bestWeight := gW wd_2_87
theorem d_FontShelf_bestWeight_0 : decode b_FontShelf_bestWeight 0 = .ok (.iload_n 1, 1) := by decide +kernel
theorem d_FontShelf_bestWeight_1 : decode b_FontShelf_bestWeight 1 = .ok (.ifCond .lt 7, 3) := by decide +kernel
theorem d_FontShelf_bestWeight_4 : decode b_FontShelf_bestWeight 4 = .ok (.iconst 1, 1) := by decide +kernel
theorem d_FontShelf_bestWeight_5 : decode b_FontShelf_bestWeight 5 = .ok (.goto 4, 3) := by decide +kernel
theorem d_FontShelf_bestWeight_8 : decode b_FontShelf_bestWeight 8 = .ok (.iconst (-1), 1) := by decide +kernel
theorem d_FontShelf_bestWeight_9 : decode b_FontShelf_bestWeight 9 = .ok (.istore_n 2, 1) := by decide +kernel
theorem d_FontShelf_bestWeight_10 : decode b_FontShelf_bestWeight 10 = .ok (.iconst 1, 1) := by decide +kernel
theorem d_FontShelf_bestWeight_11 : decode b_FontShelf_bestWeight 11 = .ok (.istore_n 3, 1) := by decide +kernel
theorem d_FontShelf_bestWeight_12 : decode b_FontShelf_bestWeight 12 = .ok (.iload_n 3, 1) := by decide +kernel
theorem d_FontShelf_bestWeight_13 : decode b_FontShelf_bestWeight 13 = .ok (.getstatic 125, 3) := by decide +kernel
theorem d_FontShelf_bestWeight_16 : decode b_FontShelf_bestWeight 16 = .ok (.iconst 5, 1) := by decide +kernel
theorem d_FontShelf_bestWeight_17 : decode b_FontShelf_bestWeight 17 = .ok (.iaload, 1) := by decide +kernel
theorem d_FontShelf_bestWeight_18 : decode b_FontShelf_bestWeight 18 = .ok (.getstatic 122, 3) := by decide +kernel
theorem d_FontShelf_bestWeight_21 : decode b_FontShelf_bestWeight 21 = .ok (.iconst 5, 1) := by decide +kernel
theorem d_FontShelf_bestWeight_22 : decode b_FontShelf_bestWeight 22 = .ok (.iaload, 1) := by decide +kernel
theorem d_FontShelf_bestWeight_23 : decode b_FontShelf_bestWeight 23 = .ok (.isub, 1) := by decide +kernel
theorem d_FontShelf_bestWeight_24 : decode b_FontShelf_bestWeight 24 = .ok (.if_icmp .gt 28, 3) := by decide +kernel
theorem d_FontShelf_bestWeight_27 : decode b_FontShelf_bestWeight 27 = .ok (.aload_n 0, 1) := by decide +kernel
theorem d_FontShelf_bestWeight_28 : decode b_FontShelf_bestWeight 28 = .ok (.iconst 5, 1) := by decide +kernel
theorem d_FontShelf_bestWeight_29 : decode b_FontShelf_bestWeight 29 = .ok (.iload_n 1, 1) := by decide +kernel
theorem d_FontShelf_bestWeight_30 : decode b_FontShelf_bestWeight 30 = .ok (.iload_n 2, 1) := by decide +kernel
theorem d_FontShelf_bestWeight_31 : decode b_FontShelf_bestWeight 31 = .ok (.iload_n 3, 1) := by decide +kernel
theorem d_FontShelf_bestWeight_32 : decode b_FontShelf_bestWeight 32 = .ok (.imul, 1) := by decide +kernel
theorem d_FontShelf_bestWeight_33 : decode b_FontShelf_bestWeight 33 = .ok (.iadd, 1) := by decide +kernel
theorem d_FontShelf_bestWeight_34 : decode b_FontShelf_bestWeight 34 = .ok (.invokevirtual 175, 3) := by decide +kernel
theorem d_FontShelf_bestWeight_37 : decode b_FontShelf_bestWeight 37 = .ok (.ifCond .eq 9, 3) := by decide +kernel
theorem d_FontShelf_bestWeight_40 : decode b_FontShelf_bestWeight 40 = .ok (.iload_n 1, 1) := by decide +kernel
theorem d_FontShelf_bestWeight_41 : decode b_FontShelf_bestWeight 41 = .ok (.iload_n 2, 1) := by decide +kernel
theorem d_FontShelf_bestWeight_42 : decode b_FontShelf_bestWeight 42 = .ok (.iload_n 3, 1) := by decide +kernel
theorem d_FontShelf_bestWeight_43 : decode b_FontShelf_bestWeight 43 = .ok (.imul, 1) := by decide +kernel
theorem d_FontShelf_bestWeight_44 : decode b_FontShelf_bestWeight 44 = .ok (.iadd, 1) := by decide +kernel
theorem d_FontShelf_bestWeight_45 : decode b_FontShelf_bestWeight 45 = .ok (.ireturn, 1) := by decide +kernel
theorem d_FontShelf_bestWeight_46 : decode b_FontShelf_bestWeight 46 = .ok (.iinc 3 1, 3) := by decide +kernel
theorem d_FontShelf_bestWeight_49 : decode b_FontShelf_bestWeight 49 = .ok (.goto (-37), 3) := by decide +kernel
theorem d_FontShelf_bestWeight_52 : decode b_FontShelf_bestWeight 52 = .ok (.iconst 1, 1) := by decide +kernel
theorem d_FontShelf_bestWeight_53 : decode b_FontShelf_bestWeight 53 = .ok (.istore_n 3, 1) := by decide +kernel
theorem d_FontShelf_bestWeight_54 : decode b_FontShelf_bestWeight 54 = .ok (.iload_n 3, 1) := by decide +kernel
theorem d_FontShelf_bestWeight_55 : decode b_FontShelf_bestWeight 55 = .ok (.getstatic 125, 3) := by decide +kernel
theorem d_FontShelf_bestWeight_58 : decode b_FontShelf_bestWeight 58 = .ok (.iconst 5, 1) := by decide +kernel
theorem d_FontShelf_bestWeight_59 : decode b_FontShelf_bestWeight 59 = .ok (.iaload, 1) := by decide +kernel
theorem d_FontShelf_bestWeight_60 : decode b_FontShelf_bestWeight 60 = .ok (.getstatic 122, 3) := by decide +kernel
theorem d_FontShelf_bestWeight_63 : decode b_FontShelf_bestWeight 63 = .ok (.iconst 5, 1) := by decide +kernel
theorem d_FontShelf_bestWeight_64 : decode b_FontShelf_bestWeight 64 = .ok (.iaload, 1) := by decide +kernel
theorem d_FontShelf_bestWeight_65 : decode b_FontShelf_bestWeight 65 = .ok (.isub, 1) := by decide +kernel
theorem d_FontShelf_bestWeight_66 : decode b_FontShelf_bestWeight 66 = .ok (.if_icmp .gt 28, 3) := by decide +kernel
theorem d_FontShelf_bestWeight_69 : decode b_FontShelf_bestWeight 69 = .ok (.aload_n 0, 1) := by decide +kernel
theorem d_FontShelf_bestWeight_70 : decode b_FontShelf_bestWeight 70 = .ok (.iconst 5, 1) := by decide +kernel
theorem d_FontShelf_bestWeight_71 : decode b_FontShelf_bestWeight 71 = .ok (.iload_n 1, 1) := by decide +kernel
theorem d_FontShelf_bestWeight_72 : decode b_FontShelf_bestWeight 72 = .ok (.iload_n 2, 1) := by decide +kernel
theorem d_FontShelf_bestWeight_73 : decode b_FontShelf_bestWeight 73 = .ok (.iload_n 3, 1) := by decide +kernel
theorem d_FontShelf_bestWeight_74 : decode b_FontShelf_bestWeight 74 = .ok (.imul, 1) := by decide +kernel
theorem d_FontShelf_bestWeight_75 : decode b_FontShelf_bestWeight 75 = .ok (.isub, 1) := by decide +kernel
theorem d_FontShelf_bestWeight_76 : decode b_FontShelf_bestWeight 76 = .ok (.invokevirtual 175, 3) := by decide +kernel
theorem d_FontShelf_bestWeight_79 : decode b_FontShelf_bestWeight 79 = .ok (.ifCond .eq 9, 3) := by decide +kernel
theorem d_FontShelf_bestWeight_82 : decode b_FontShelf_bestWeight 82 = .ok (.iload_n 1, 1) := by decide +kernel
theorem d_FontShelf_bestWeight_83 : decode b_FontShelf_bestWeight 83 = .ok (.iload_n 2, 1) := by decide +kernel
theorem d_FontShelf_bestWeight_84 : decode b_FontShelf_bestWeight 84 = .ok (.iload_n 3, 1) := by decide +kernel
theorem d_FontShelf_bestWeight_85 : decode b_FontShelf_bestWeight 85 = .ok (.imul, 1) := by decide +kernel
theorem d_FontShelf_bestWeight_86 : decode b_FontShelf_bestWeight 86 = .ok (.isub, 1) := by decide +kernel
theorem d_FontShelf_bestWeight_87 : decode b_FontShelf_bestWeight 87 = .ok (.ireturn, 1) := by decide +kernel
theorem d_FontShelf_bestWeight_88 : decode b_FontShelf_bestWeight 88 = .ok (.iinc 3 1, 3) := by decide +kernel
theorem d_FontShelf_bestWeight_91 : decode b_FontShelf_bestWeight 91 = .ok (.goto (-37), 3) := by decide +kernel
theorem d_FontShelf_bestWeight_94 : decode b_FontShelf_bestWeight 94 = .ok (.iload_n 1, 1) := by decide +kernel
theorem d_FontShelf_bestWeight_95 : decode b_FontShelf_bestWeight 95 = .ok (.ireturn, 1) := by decide +kernel
abbrev b_FontShelf_choose : ByteArray := prog_3_method_26_code
abbrev y_FontShelf_choose : MethodName := ⟨"SheetPrinter$FontShelf", "choose", "(I)I"⟩
abbrev w_FontShelf_choose : List Cond := .code y_FontShelf_choose b_FontShelf_choose 5 (some .int) :: gT
theorem gd_FontShelf_choose : GoodIn gT w_FontShelf_choose := gW wd_2_48
theorem d_FontShelf_choose_0 : decode b_FontShelf_choose 0 = .ok (.aload_n 0, 1) := by decide +kernel
theorem d_FontShelf_choose_1 : decode b_FontShelf_choose 1 = .ok (.getfield 32, 3) := by decide +kernel
theorem d_FontShelf_choose_4 : decode b_FontShelf_choose 4 = .ok (.iload_n 1, 1) := by decide +kernel
theorem d_FontShelf_choose_5 : decode b_FontShelf_choose 5 = .ok (.iaload, 1) := by decide +kernel
theorem d_FontShelf_choose_6 : decode b_FontShelf_choose 6 = .ok (.iconst (-1), 1) := by decide +kernel
theorem d_FontShelf_choose_7 : decode b_FontShelf_choose 7 = .ok (.if_icmp .ne 7, 3) := by decide +kernel
theorem d_FontShelf_choose_10 : decode b_FontShelf_choose 10 = .ok (.iconst (-1), 1) := by decide +kernel
theorem d_FontShelf_choose_11 : decode b_FontShelf_choose 11 = .ok (.goto 13, 3) := by decide +kernel
theorem d_FontShelf_choose_14 : decode b_FontShelf_choose 14 = .ok (.aload_n 0, 1) := by decide +kernel
theorem d_FontShelf_choose_15 : decode b_FontShelf_choose 15 = .ok (.aload_n 0, 1) := by decide +kernel
theorem d_FontShelf_choose_16 : decode b_FontShelf_choose 16 = .ok (.getfield 32, 3) := by decide +kernel
theorem d_FontShelf_choose_19 : decode b_FontShelf_choose 19 = .ok (.iload_n 1, 1) := by decide +kernel
theorem d_FontShelf_choose_20 : decode b_FontShelf_choose 20 = .ok (.iaload, 1) := by decide +kernel
theorem d_FontShelf_choose_21 : decode b_FontShelf_choose 21 = .ok (.invokevirtual 73, 3) := by decide +kernel
theorem d_FontShelf_choose_24 : decode b_FontShelf_choose 24 = .ok (.istore_n 2, 1) := by decide +kernel
theorem d_FontShelf_choose_25 : decode b_FontShelf_choose 25 = .ok (.iload_n 2, 1) := by decide +kernel
theorem d_FontShelf_choose_26 : decode b_FontShelf_choose 26 = .ok (.ifCond .lt 5, 3) := by decide +kernel
theorem d_FontShelf_choose_29 : decode b_FontShelf_choose 29 = .ok (.iload_n 2, 1) := by decide +kernel
theorem d_FontShelf_choose_30 : decode b_FontShelf_choose 30 = .ok (.ireturn, 1) := by decide +kernel
theorem d_FontShelf_choose_31 : decode b_FontShelf_choose 31 = .ok (.iload_n 1, 1) := by decide +kernel
theorem d_FontShelf_choose_32 : decode b_FontShelf_choose 32 = .ok (.bipush 7, 2) := by decide +kernel
theorem d_FontShelf_choose_34 : decode b_FontShelf_choose 34 = .ok (.imul, 1) := by decide +kernel
theorem d_FontShelf_choose_35 : decode b_FontShelf_choose 35 = .ok (.istore_n 3, 1) := by decide +kernel
theorem d_FontShelf_choose_36 : decode b_FontShelf_choose 36 = .ok (.iconst 0, 1) := by decide +kernel
theorem d_FontShelf_choose_37 : decode b_FontShelf_choose 37 = .ok (.istore 4, 2) := by decide +kernel
theorem d_FontShelf_choose_39 : decode b_FontShelf_choose 39 = .ok (.iload 4, 2) := by decide +kernel
theorem d_FontShelf_choose_41 : decode b_FontShelf_choose 41 = .ok (.aload_n 0, 1) := by decide +kernel
theorem d_FontShelf_choose_42 : decode b_FontShelf_choose 42 = .ok (.getfield 38, 3) := by decide +kernel
theorem d_FontShelf_choose_45 : decode b_FontShelf_choose 45 = .ok (.arraylength, 1) := by decide +kernel
theorem d_FontShelf_choose_46 : decode b_FontShelf_choose 46 = .ok (.if_icmp .ge 30, 3) := by decide +kernel
theorem d_FontShelf_choose_49 : decode b_FontShelf_choose 49 = .ok (.aload_n 0, 1) := by decide +kernel
theorem d_FontShelf_choose_50 : decode b_FontShelf_choose 50 = .ok (.getfield 38, 3) := by decide +kernel
theorem d_FontShelf_choose_53 : decode b_FontShelf_choose 53 = .ok (.iload 4, 2) := by decide +kernel
theorem d_FontShelf_choose_55 : decode b_FontShelf_choose 55 = .ok (.iload 4, 2) := by decide +kernel
theorem d_FontShelf_choose_57 : decode b_FontShelf_choose 57 = .ok (.aload_n 0, 1) := by decide +kernel
theorem d_FontShelf_choose_58 : decode b_FontShelf_choose 58 = .ok (.getfield 77, 3) := by decide +kernel
theorem d_FontShelf_choose_61 : decode b_FontShelf_choose 61 = .ok (.if_icmp .ge 7, 3) := by decide +kernel
theorem d_FontShelf_choose_64 : decode b_FontShelf_choose 64 = .ok (.iconst 1, 1) := by decide +kernel
theorem d_FontShelf_choose_65 : decode b_FontShelf_choose 65 = .ok (.goto 4, 3) := by decide +kernel
theorem d_FontShelf_choose_68 : decode b_FontShelf_choose 68 = .ok (.iconst 0, 1) := by decide +kernel
theorem d_FontShelf_choose_69 : decode b_FontShelf_choose 69 = .ok (.bastore, 1) := by decide +kernel
theorem d_FontShelf_choose_70 : decode b_FontShelf_choose 70 = .ok (.iinc 4 1, 3) := by decide +kernel
theorem d_FontShelf_choose_73 : decode b_FontShelf_choose 73 = .ok (.goto (-34), 3) := by decide +kernel
theorem d_FontShelf_choose_76 : decode b_FontShelf_choose 76 = .ok (.aload_n 0, 1) := by decide +kernel
theorem d_FontShelf_choose_77 : decode b_FontShelf_choose 77 = .ok (.iconst 0, 1) := by decide +kernel
theorem d_FontShelf_choose_78 : decode b_FontShelf_choose 78 = .ok (.aload_n 0, 1) := by decide +kernel
theorem d_FontShelf_choose_79 : decode b_FontShelf_choose 79 = .ok (.getfield 29, 3) := by decide +kernel
theorem d_FontShelf_choose_82 : decode b_FontShelf_choose 82 = .ok (.iload_n 3, 1) := by decide +kernel
theorem d_FontShelf_choose_83 : decode b_FontShelf_choose 83 = .ok (.iconst 0, 1) := by decide +kernel
theorem d_FontShelf_choose_84 : decode b_FontShelf_choose 84 = .ok (.iadd, 1) := by decide +kernel
theorem d_FontShelf_choose_85 : decode b_FontShelf_choose 85 = .ok (.iaload, 1) := by decide +kernel
theorem d_FontShelf_choose_86 : decode b_FontShelf_choose 86 = .ok (.invokevirtual 145, 3) := by decide +kernel
theorem d_FontShelf_choose_89 : decode b_FontShelf_choose 89 = .ok (.ifCond .ne 12, 3) := by decide +kernel
theorem d_FontShelf_choose_92 : decode b_FontShelf_choose 92 = .ok (.aload_n 0, 1) := by decide +kernel
theorem d_FontShelf_choose_93 : decode b_FontShelf_choose 93 = .ok (.iconst 0, 1) := by decide +kernel
theorem d_FontShelf_choose_94 : decode b_FontShelf_choose 94 = .ok (.sipush 277, 3) := by decide +kernel
theorem d_FontShelf_choose_97 : decode b_FontShelf_choose 97 = .ok (.invokevirtual 145, 3) := by decide +kernel
theorem d_FontShelf_choose_100 : decode b_FontShelf_choose 100 = .ok (.pop, 1) := by decide +kernel
theorem d_FontShelf_choose_101 : decode b_FontShelf_choose 101 = .ok (.aload_n 0, 1) := by decide +kernel
theorem d_FontShelf_choose_102 : decode b_FontShelf_choose 102 = .ok (.iconst 1, 1) := by decide +kernel
theorem d_FontShelf_choose_103 : decode b_FontShelf_choose 103 = .ok (.aload_n 0, 1) := by decide +kernel
theorem d_FontShelf_choose_104 : decode b_FontShelf_choose 104 = .ok (.getfield 29, 3) := by decide +kernel
theorem d_FontShelf_choose_107 : decode b_FontShelf_choose 107 = .ok (.iload_n 3, 1) := by decide +kernel
theorem d_FontShelf_choose_108 : decode b_FontShelf_choose 108 = .ok (.iconst 1, 1) := by decide +kernel
theorem d_FontShelf_choose_109 : decode b_FontShelf_choose 109 = .ok (.iadd, 1) := by decide +kernel
theorem d_FontShelf_choose_110 : decode b_FontShelf_choose 110 = .ok (.iaload, 1) := by decide +kernel
theorem d_FontShelf_choose_111 : decode b_FontShelf_choose 111 = .ok (.invokevirtual 145, 3) := by decide +kernel
theorem d_FontShelf_choose_114 : decode b_FontShelf_choose 114 = .ok (.pop, 1) := by decide +kernel
theorem d_FontShelf_choose_115 : decode b_FontShelf_choose 115 = .ok (.aload_n 0, 1) := by decide +kernel
theorem d_FontShelf_choose_116 : decode b_FontShelf_choose 116 = .ok (.getfield 29, 3) := by decide +kernel
theorem d_FontShelf_choose_119 : decode b_FontShelf_choose 119 = .ok (.iload_n 3, 1) := by decide +kernel
theorem d_FontShelf_choose_120 : decode b_FontShelf_choose 120 = .ok (.iconst 1, 1) := by decide +kernel
theorem d_FontShelf_choose_121 : decode b_FontShelf_choose 121 = .ok (.iadd, 1) := by decide +kernel
theorem d_FontShelf_choose_122 : decode b_FontShelf_choose 122 = .ok (.iaload, 1) := by decide +kernel
theorem d_FontShelf_choose_123 : decode b_FontShelf_choose 123 = .ok (.ifCond .ne 28, 3) := by decide +kernel
theorem d_FontShelf_choose_126 : decode b_FontShelf_choose 126 = .ok (.aload_n 0, 1) := by decide +kernel
theorem d_FontShelf_choose_127 : decode b_FontShelf_choose 127 = .ok (.invokevirtual 149, 3) := by decide +kernel
theorem d_FontShelf_choose_130 : decode b_FontShelf_choose 130 = .ok (.ifCond .eq 21, 3) := by decide +kernel
theorem d_FontShelf_choose_133 : decode b_FontShelf_choose 133 = .ok (.aload_n 0, 1) := by decide +kernel
theorem d_FontShelf_choose_134 : decode b_FontShelf_choose 134 = .ok (.iconst 2, 1) := by decide +kernel
theorem d_FontShelf_choose_135 : decode b_FontShelf_choose 135 = .ok (.aload_n 0, 1) := by decide +kernel
theorem d_FontShelf_choose_136 : decode b_FontShelf_choose 136 = .ok (.aload_n 0, 1) := by decide +kernel
theorem d_FontShelf_choose_137 : decode b_FontShelf_choose 137 = .ok (.getfield 29, 3) := by decide +kernel
theorem d_FontShelf_choose_140 : decode b_FontShelf_choose 140 = .ok (.iload_n 3, 1) := by decide +kernel
theorem d_FontShelf_choose_141 : decode b_FontShelf_choose 141 = .ok (.iconst 2, 1) := by decide +kernel
theorem d_FontShelf_choose_142 : decode b_FontShelf_choose 142 = .ok (.iadd, 1) := by decide +kernel
theorem d_FontShelf_choose_143 : decode b_FontShelf_choose 143 = .ok (.iaload, 1) := by decide +kernel
theorem d_FontShelf_choose_144 : decode b_FontShelf_choose 144 = .ok (.invokevirtual 153, 3) := by decide +kernel
theorem d_FontShelf_choose_147 : decode b_FontShelf_choose 147 = .ok (.invokevirtual 145, 3) := by decide +kernel
theorem d_FontShelf_choose_150 : decode b_FontShelf_choose 150 = .ok (.pop, 1) := by decide +kernel
theorem d_FontShelf_choose_151 : decode b_FontShelf_choose 151 = .ok (.aload_n 0, 1) := by decide +kernel
theorem d_FontShelf_choose_152 : decode b_FontShelf_choose 152 = .ok (.iconst 3, 1) := by decide +kernel
theorem d_FontShelf_choose_153 : decode b_FontShelf_choose 153 = .ok (.aload_n 0, 1) := by decide +kernel
theorem d_FontShelf_choose_154 : decode b_FontShelf_choose 154 = .ok (.aload_n 0, 1) := by decide +kernel
theorem d_FontShelf_choose_155 : decode b_FontShelf_choose 155 = .ok (.getfield 29, 3) := by decide +kernel
theorem d_FontShelf_choose_158 : decode b_FontShelf_choose 158 = .ok (.iload_n 3, 1) := by decide +kernel
theorem d_FontShelf_choose_159 : decode b_FontShelf_choose 159 = .ok (.iconst 3, 1) := by decide +kernel
theorem d_FontShelf_choose_160 : decode b_FontShelf_choose 160 = .ok (.iadd, 1) := by decide +kernel
theorem d_FontShelf_choose_161 : decode b_FontShelf_choose 161 = .ok (.iaload, 1) := by decide +kernel
theorem d_FontShelf_choose_162 : decode b_FontShelf_choose 162 = .ok (.invokevirtual 156, 3) := by decide +kernel
theorem d_FontShelf_choose_165 : decode b_FontShelf_choose 165 = .ok (.invokevirtual 145, 3) := by decide +kernel
theorem d_FontShelf_choose_168 : decode b_FontShelf_choose 168 = .ok (.pop, 1) := by decide +kernel
theorem d_FontShelf_choose_169 : decode b_FontShelf_choose 169 = .ok (.aload_n 0, 1) := by decide +kernel
theorem d_FontShelf_choose_170 : decode b_FontShelf_choose 170 = .ok (.iconst 4, 1) := by decide +kernel
theorem d_FontShelf_choose_171 : decode b_FontShelf_choose 171 = .ok (.aload_n 0, 1) := by decide +kernel
theorem d_FontShelf_choose_172 : decode b_FontShelf_choose 172 = .ok (.getfield 29, 3) := by decide +kernel
theorem d_FontShelf_choose_175 : decode b_FontShelf_choose 175 = .ok (.iload_n 3, 1) := by decide +kernel
theorem d_FontShelf_choose_176 : decode b_FontShelf_choose 176 = .ok (.iconst 4, 1) := by decide +kernel
theorem d_FontShelf_choose_177 : decode b_FontShelf_choose 177 = .ok (.iadd, 1) := by decide +kernel
theorem d_FontShelf_choose_178 : decode b_FontShelf_choose 178 = .ok (.iaload, 1) := by decide +kernel
theorem d_FontShelf_choose_179 : decode b_FontShelf_choose 179 = .ok (.invokevirtual 145, 3) := by decide +kernel
theorem d_FontShelf_choose_182 : decode b_FontShelf_choose 182 = .ok (.pop, 1) := by decide +kernel
theorem d_FontShelf_choose_183 : decode b_FontShelf_choose 183 = .ok (.aload_n 0, 1) := by decide +kernel
theorem d_FontShelf_choose_184 : decode b_FontShelf_choose 184 = .ok (.iconst 5, 1) := by decide +kernel
theorem d_FontShelf_choose_185 : decode b_FontShelf_choose 185 = .ok (.aload_n 0, 1) := by decide +kernel
theorem d_FontShelf_choose_186 : decode b_FontShelf_choose 186 = .ok (.getfield 29, 3) := by decide +kernel
theorem d_FontShelf_choose_189 : decode b_FontShelf_choose 189 = .ok (.iload_n 3, 1) := by decide +kernel
theorem d_FontShelf_choose_190 : decode b_FontShelf_choose 190 = .ok (.iconst 5, 1) := by decide +kernel
theorem d_FontShelf_choose_191 : decode b_FontShelf_choose 191 = .ok (.iadd, 1) := by decide +kernel
theorem d_FontShelf_choose_192 : decode b_FontShelf_choose 192 = .ok (.iaload, 1) := by decide +kernel
theorem d_FontShelf_choose_193 : decode b_FontShelf_choose 193 = .ok (.invokevirtual 145, 3) := by decide +kernel
theorem d_FontShelf_choose_196 : decode b_FontShelf_choose 196 = .ok (.ifCond .ne 21, 3) := by decide +kernel
theorem d_FontShelf_choose_199 : decode b_FontShelf_choose 199 = .ok (.aload_n 0, 1) := by decide +kernel
theorem d_FontShelf_choose_200 : decode b_FontShelf_choose 200 = .ok (.iconst 5, 1) := by decide +kernel
theorem d_FontShelf_choose_201 : decode b_FontShelf_choose 201 = .ok (.aload_n 0, 1) := by decide +kernel
theorem d_FontShelf_choose_202 : decode b_FontShelf_choose 202 = .ok (.aload_n 0, 1) := by decide +kernel
theorem d_FontShelf_choose_203 : decode b_FontShelf_choose 203 = .ok (.getfield 29, 3) := by decide +kernel
theorem d_FontShelf_choose_206 : decode b_FontShelf_choose 206 = .ok (.iload_n 3, 1) := by decide +kernel
theorem d_FontShelf_choose_207 : decode b_FontShelf_choose 207 = .ok (.iconst 5, 1) := by decide +kernel
theorem d_FontShelf_choose_208 : decode b_FontShelf_choose 208 = .ok (.iadd, 1) := by decide +kernel
theorem d_FontShelf_choose_209 : decode b_FontShelf_choose 209 = .ok (.iaload, 1) := by decide +kernel
theorem d_FontShelf_choose_210 : decode b_FontShelf_choose 210 = .ok (.invokevirtual 159, 3) := by decide +kernel
theorem d_FontShelf_choose_213 : decode b_FontShelf_choose 213 = .ok (.invokevirtual 145, 3) := by decide +kernel
theorem d_FontShelf_choose_216 : decode b_FontShelf_choose 216 = .ok (.pop, 1) := by decide +kernel
theorem d_FontShelf_choose_217 : decode b_FontShelf_choose 217 = .ok (.aload_n 0, 1) := by decide +kernel
theorem d_FontShelf_choose_218 : decode b_FontShelf_choose 218 = .ok (.bipush 6, 2) := by decide +kernel
theorem d_FontShelf_choose_220 : decode b_FontShelf_choose 220 = .ok (.aload_n 0, 1) := by decide +kernel
theorem d_FontShelf_choose_221 : decode b_FontShelf_choose 221 = .ok (.getfield 29, 3) := by decide +kernel
theorem d_FontShelf_choose_224 : decode b_FontShelf_choose 224 = .ok (.iload_n 3, 1) := by decide +kernel
theorem d_FontShelf_choose_225 : decode b_FontShelf_choose 225 = .ok (.bipush 6, 2) := by decide +kernel
theorem d_FontShelf_choose_227 : decode b_FontShelf_choose 227 = .ok (.iadd, 1) := by decide +kernel
theorem d_FontShelf_choose_228 : decode b_FontShelf_choose 228 = .ok (.iaload, 1) := by decide +kernel
theorem d_FontShelf_choose_229 : decode b_FontShelf_choose 229 = .ok (.invokevirtual 145, 3) := by decide +kernel
theorem d_FontShelf_choose_232 : decode b_FontShelf_choose 232 = .ok (.pop, 1) := by decide +kernel
theorem d_FontShelf_choose_233 : decode b_FontShelf_choose 233 = .ok (.aload_n 0, 1) := by decide +kernel
theorem d_FontShelf_choose_234 : decode b_FontShelf_choose 234 = .ok (.invokevirtual 162, 3) := by decide +kernel
theorem d_FontShelf_choose_237 : decode b_FontShelf_choose 237 = .ok (.ireturn, 1) := by decide +kernel
abbrev b_FontShelf_settle : ByteArray := prog_3_method_25_code
abbrev y_FontShelf_settle : MethodName := ⟨"SheetPrinter$FontShelf", "settle", "()V"⟩
abbrev w_FontShelf_settle : List Cond := .code y_FontShelf_settle b_FontShelf_settle 1 none :: gT
theorem gd_FontShelf_settle : GoodIn gT w_FontShelf_settle := gW wd_2_44
theorem d_FontShelf_settle_0 : decode b_FontShelf_settle 0 = .ok (.aload_n 0, 1) := by decide +kernel
theorem d_FontShelf_settle_1 : decode b_FontShelf_settle 1 = .ok (.getfield 66, 3) := by decide +kernel
theorem d_FontShelf_settle_4 : decode b_FontShelf_settle 4 = .ok (.ifCond .ne 30, 3) := by decide +kernel
theorem d_FontShelf_settle_7 : decode b_FontShelf_settle 7 = .ok (.aload_n 0, 1) := by decide +kernel
theorem d_FontShelf_settle_8 : decode b_FontShelf_settle 8 = .ok (.getfield 35, 3) := by decide +kernel
theorem d_FontShelf_settle_11 : decode b_FontShelf_settle 11 = .ok (.iconst 0, 1) := by decide +kernel
theorem d_FontShelf_settle_12 : decode b_FontShelf_settle 12 = .ok (.aload_n 0, 1) := by decide +kernel
theorem d_FontShelf_settle_13 : decode b_FontShelf_settle 13 = .ok (.iconst 0, 1) := by decide +kernel
theorem d_FontShelf_settle_14 : decode b_FontShelf_settle 14 = .ok (.invokevirtual 142, 3) := by decide +kernel
theorem d_FontShelf_settle_17 : decode b_FontShelf_settle 17 = .ok (.iastore, 1) := by decide +kernel
theorem d_FontShelf_settle_18 : decode b_FontShelf_settle 18 = .ok (.aload_n 0, 1) := by decide +kernel
theorem d_FontShelf_settle_19 : decode b_FontShelf_settle 19 = .ok (.getfield 35, 3) := by decide +kernel
theorem d_FontShelf_settle_22 : decode b_FontShelf_settle 22 = .ok (.iconst 1, 1) := by decide +kernel
theorem d_FontShelf_settle_23 : decode b_FontShelf_settle 23 = .ok (.aload_n 0, 1) := by decide +kernel
theorem d_FontShelf_settle_24 : decode b_FontShelf_settle 24 = .ok (.iconst 1, 1) := by decide +kernel
theorem d_FontShelf_settle_25 : decode b_FontShelf_settle 25 = .ok (.invokevirtual 142, 3) := by decide +kernel
theorem d_FontShelf_settle_28 : decode b_FontShelf_settle 28 = .ok (.iastore, 1) := by decide +kernel
theorem d_FontShelf_settle_29 : decode b_FontShelf_settle 29 = .ok (.aload_n 0, 1) := by decide +kernel
theorem d_FontShelf_settle_30 : decode b_FontShelf_settle 30 = .ok (.iconst 1, 1) := by decide +kernel
theorem d_FontShelf_settle_31 : decode b_FontShelf_settle 31 = .ok (.putfield 66, 3) := by decide +kernel
theorem d_FontShelf_settle_34 : decode b_FontShelf_settle 34 = .ok (.return_, 1) := by decide +kernel
abbrev b_FontShelf_endJob : ByteArray := prog_3_method_2_code
abbrev y_FontShelf_endJob : MethodName := ⟨"SheetPrinter$FontShelf", "endJob", "()V"⟩
abbrev w_FontShelf_endJob : List Cond := .code y_FontShelf_endJob b_FontShelf_endJob 2 none :: gT
theorem gd_FontShelf_endJob : GoodIn gT w_FontShelf_endJob := gW wd_2_15
theorem d_FontShelf_endJob_0 : decode b_FontShelf_endJob 0 = .ok (.aload_n 0, 1) := by decide +kernel
theorem d_FontShelf_endJob_1 : decode b_FontShelf_endJob 1 = .ok (.invokevirtual 47, 3) := by decide +kernel
theorem d_FontShelf_endJob_4 : decode b_FontShelf_endJob 4 = .ok (.iconst 0, 1) := by decide +kernel
theorem d_FontShelf_endJob_5 : decode b_FontShelf_endJob 5 = .ok (.istore_n 1, 1) := by decide +kernel
theorem d_FontShelf_endJob_6 : decode b_FontShelf_endJob 6 = .ok (.iload_n 1, 1) := by decide +kernel
theorem d_FontShelf_endJob_7 : decode b_FontShelf_endJob 7 = .ok (.aload_n 0, 1) := by decide +kernel
theorem d_FontShelf_endJob_8 : decode b_FontShelf_endJob 8 = .ok (.getfield 29, 3) := by decide +kernel
theorem d_FontShelf_endJob_11 : decode b_FontShelf_endJob 11 = .ok (.arraylength, 1) := by decide +kernel
theorem d_FontShelf_endJob_12 : decode b_FontShelf_endJob 12 = .ok (.if_icmp .ge 23, 3) := by decide +kernel
theorem d_FontShelf_endJob_15 : decode b_FontShelf_endJob 15 = .ok (.aload_n 0, 1) := by decide +kernel
theorem d_FontShelf_endJob_16 : decode b_FontShelf_endJob 16 = .ok (.getfield 29, 3) := by decide +kernel
theorem d_FontShelf_endJob_19 : decode b_FontShelf_endJob 19 = .ok (.iload_n 1, 1) := by decide +kernel
theorem d_FontShelf_endJob_20 : decode b_FontShelf_endJob 20 = .ok (.getstatic 50, 3) := by decide +kernel
theorem d_FontShelf_endJob_23 : decode b_FontShelf_endJob 23 = .ok (.iload_n 1, 1) := by decide +kernel
theorem d_FontShelf_endJob_24 : decode b_FontShelf_endJob 24 = .ok (.bipush 7, 2) := by decide +kernel
theorem d_FontShelf_endJob_26 : decode b_FontShelf_endJob 26 = .ok (.irem, 1) := by decide +kernel
theorem d_FontShelf_endJob_27 : decode b_FontShelf_endJob 27 = .ok (.iaload, 1) := by decide +kernel
theorem d_FontShelf_endJob_28 : decode b_FontShelf_endJob 28 = .ok (.iastore, 1) := by decide +kernel
theorem d_FontShelf_endJob_29 : decode b_FontShelf_endJob 29 = .ok (.iinc 1 1, 3) := by decide +kernel
theorem d_FontShelf_endJob_32 : decode b_FontShelf_endJob 32 = .ok (.goto (-26), 3) := by decide +kernel
theorem d_FontShelf_endJob_35 : decode b_FontShelf_endJob 35 = .ok (.aload_n 0, 1) := by decide +kernel
theorem d_FontShelf_endJob_36 : decode b_FontShelf_endJob 36 = .ok (.getfield 32, 3) := by decide +kernel
theorem d_FontShelf_endJob_39 : decode b_FontShelf_endJob 39 = .ok (.iconst (-1), 1) := by decide +kernel
theorem d_FontShelf_endJob_40 : decode b_FontShelf_endJob 40 = .ok (.invokestatic 53, 3) := by decide +kernel
theorem d_FontShelf_endJob_43 : decode b_FontShelf_endJob 43 = .ok (.aload_n 0, 1) := by decide +kernel
theorem d_FontShelf_endJob_44 : decode b_FontShelf_endJob 44 = .ok (.iconst 0, 1) := by decide +kernel
theorem d_FontShelf_endJob_45 : decode b_FontShelf_endJob 45 = .ok (.putfield 59, 3) := by decide +kernel
theorem d_FontShelf_endJob_48 : decode b_FontShelf_endJob 48 = .ok (.aload_n 0, 1) := by decide +kernel
theorem d_FontShelf_endJob_49 : decode b_FontShelf_endJob 49 = .ok (.iconst 0, 1) := by decide +kernel
theorem d_FontShelf_endJob_50 : decode b_FontShelf_endJob 50 = .ok (.putfield 63, 3) := by decide +kernel
theorem d_FontShelf_endJob_53 : decode b_FontShelf_endJob 53 = .ok (.aload_n 0, 1) := by decide +kernel
theorem d_FontShelf_endJob_54 : decode b_FontShelf_endJob 54 = .ok (.iconst 0, 1) := by decide +kernel
theorem d_FontShelf_endJob_55 : decode b_FontShelf_endJob 55 = .ok (.putfield 66, 3) := by decide +kernel
theorem d_FontShelf_endJob_58 : decode b_FontShelf_endJob 58 = .ok (.aload_n 0, 1) := by decide +kernel
theorem d_FontShelf_endJob_59 : decode b_FontShelf_endJob 59 = .ok (.invokevirtual 70, 3) := by decide +kernel
theorem d_FontShelf_endJob_62 : decode b_FontShelf_endJob 62 = .ok (.return_, 1) := by decide +kernel
abbrev b_FontShelf_init : ByteArray := prog_3_method_1_code
abbrev y_FontShelf_init : MethodName := ⟨"SheetPrinter$FontShelf", "<init>", "()V"⟩
abbrev w_FontShelf_init : List Cond := .code y_FontShelf_init b_FontShelf_init 1 none :: gT
theorem gd_FontShelf_init : GoodIn gT w_FontShelf_init := gW wd_2_10
theorem d_FontShelf_init_0 : decode b_FontShelf_init 0 = .ok (.aload_n 0, 1) := by decide +kernel
theorem d_FontShelf_init_1 : decode b_FontShelf_init 1 = .ok (.invokespecial 3, 3) := by decide +kernel
theorem d_FontShelf_init_4 : decode b_FontShelf_init 4 = .ok (.aload_n 0, 1) := by decide +kernel
theorem d_FontShelf_init_5 : decode b_FontShelf_init 5 = .ok (.bipush 32, 2) := by decide +kernel
theorem d_FontShelf_init_7 : decode b_FontShelf_init 7 = .ok (.newarray .int, 2) := by decide +kernel
theorem d_FontShelf_init_9 : decode b_FontShelf_init 9 = .ok (.putfield 11, 3) := by decide +kernel
theorem d_FontShelf_init_12 : decode b_FontShelf_init 12 = .ok (.aload_n 0, 1) := by decide +kernel
theorem d_FontShelf_init_13 : decode b_FontShelf_init 13 = .ok (.sipush 224, 3) := by decide +kernel
theorem d_FontShelf_init_16 : decode b_FontShelf_init 16 = .ok (.newarray .int, 2) := by decide +kernel
theorem d_FontShelf_init_18 : decode b_FontShelf_init 18 = .ok (.putfield 15, 3) := by decide +kernel
theorem d_FontShelf_init_21 : decode b_FontShelf_init 21 = .ok (.aload_n 0, 1) := by decide +kernel
theorem d_FontShelf_init_22 : decode b_FontShelf_init 22 = .ok (.bipush 32, 2) := by decide +kernel
theorem d_FontShelf_init_24 : decode b_FontShelf_init 24 = .ok (.newarray .boolean, 2) := by decide +kernel
theorem d_FontShelf_init_26 : decode b_FontShelf_init 26 = .ok (.putfield 18, 3) := by decide +kernel
theorem d_FontShelf_init_29 : decode b_FontShelf_init 29 = .ok (.aload_n 0, 1) := by decide +kernel
theorem d_FontShelf_init_30 : decode b_FontShelf_init 30 = .ok (.sipush 2304, 3) := by decide +kernel
theorem d_FontShelf_init_33 : decode b_FontShelf_init 33 = .ok (.newarray .int, 2) := by decide +kernel
theorem d_FontShelf_init_35 : decode b_FontShelf_init 35 = .ok (.putfield 22, 3) := by decide +kernel
theorem d_FontShelf_init_38 : decode b_FontShelf_init 38 = .ok (.aload_n 0, 1) := by decide +kernel
theorem d_FontShelf_init_39 : decode b_FontShelf_init 39 = .ok (.sipush 16384, 3) := by decide +kernel
theorem d_FontShelf_init_42 : decode b_FontShelf_init 42 = .ok (.newarray .byte, 2) := by decide +kernel
theorem d_FontShelf_init_44 : decode b_FontShelf_init 44 = .ok (.putfield 25, 3) := by decide +kernel
theorem d_FontShelf_init_47 : decode b_FontShelf_init 47 = .ok (.aload_n 0, 1) := by decide +kernel
theorem d_FontShelf_init_48 : decode b_FontShelf_init 48 = .ok (.bipush 14, 2) := by decide +kernel
theorem d_FontShelf_init_50 : decode b_FontShelf_init 50 = .ok (.newarray .int, 2) := by decide +kernel
theorem d_FontShelf_init_52 : decode b_FontShelf_init 52 = .ok (.putfield 29, 3) := by decide +kernel
theorem d_FontShelf_init_55 : decode b_FontShelf_init 55 = .ok (.aload_n 0, 1) := by decide +kernel
theorem d_FontShelf_init_56 : decode b_FontShelf_init 56 = .ok (.iconst 2, 1) := by decide +kernel
theorem d_FontShelf_init_57 : decode b_FontShelf_init 57 = .ok (.newarray .int, 2) := by decide +kernel
theorem d_FontShelf_init_59 : decode b_FontShelf_init 59 = .ok (.putfield 32, 3) := by decide +kernel
theorem d_FontShelf_init_62 : decode b_FontShelf_init 62 = .ok (.aload_n 0, 1) := by decide +kernel
theorem d_FontShelf_init_63 : decode b_FontShelf_init 63 = .ok (.iconst 2, 1) := by decide +kernel
theorem d_FontShelf_init_64 : decode b_FontShelf_init 64 = .ok (.newarray .int, 2) := by decide +kernel
theorem d_FontShelf_init_66 : decode b_FontShelf_init 66 = .ok (.putfield 35, 3) := by decide +kernel
theorem d_FontShelf_init_69 : decode b_FontShelf_init 69 = .ok (.aload_n 0, 1) := by decide +kernel
theorem d_FontShelf_init_70 : decode b_FontShelf_init 70 = .ok (.bipush 32, 2) := by decide +kernel
theorem d_FontShelf_init_72 : decode b_FontShelf_init 72 = .ok (.newarray .boolean, 2) := by decide +kernel
theorem d_FontShelf_init_74 : decode b_FontShelf_init 74 = .ok (.putfield 38, 3) := by decide +kernel
theorem d_FontShelf_init_77 : decode b_FontShelf_init 77 = .ok (.aload_n 0, 1) := by decide +kernel
theorem d_FontShelf_init_78 : decode b_FontShelf_init 78 = .ok (.bipush 7, 2) := by decide +kernel
theorem d_FontShelf_init_80 : decode b_FontShelf_init 80 = .ok (.newarray .int, 2) := by decide +kernel
theorem d_FontShelf_init_82 : decode b_FontShelf_init 82 = .ok (.putfield 41, 3) := by decide +kernel
theorem d_FontShelf_init_85 : decode b_FontShelf_init 85 = .ok (.aload_n 0, 1) := by decide +kernel
theorem d_FontShelf_init_86 : decode b_FontShelf_init 86 = .ok (.invokevirtual 44, 3) := by decide +kernel
theorem d_FontShelf_init_89 : decode b_FontShelf_init 89 = .ok (.return_, 1) := by decide +kernel
abbrev b_Sheet_wordsOf : ByteArray := prog_12_method_2_code
abbrev y_Sheet_wordsOf : MethodName := ⟨"SheetPrinter$Sheet", "wordsOf", "(I)I"⟩
abbrev w_Sheet_wordsOf : List Cond := .code y_Sheet_wordsOf b_Sheet_wordsOf 1 (some .int) :: gT
theorem gd_Sheet_wordsOf : GoodIn gT w_Sheet_wordsOf := gW wd_1_184
theorem d_Sheet_wordsOf_0 : decode b_Sheet_wordsOf 0 = .ok (.iload_n 0, 1) := by decide +kernel
theorem d_Sheet_wordsOf_1 : decode b_Sheet_wordsOf 1 = .ok (.bipush 63, 2) := by decide +kernel
theorem d_Sheet_wordsOf_3 : decode b_Sheet_wordsOf 3 = .ok (.iadd, 1) := by decide +kernel
theorem d_Sheet_wordsOf_4 : decode b_Sheet_wordsOf 4 = .ok (.bipush 64, 2) := by decide +kernel
theorem d_Sheet_wordsOf_6 : decode b_Sheet_wordsOf 6 = .ok (.idiv, 1) := by decide +kernel
theorem d_Sheet_wordsOf_7 : decode b_Sheet_wordsOf 7 = .ok (.ireturn, 1) := by decide +kernel
abbrev at_c_keepThose_0 (dC : Nat → ClassId) (dI : Nat → Nat → Nat) (h0 : Nat) (s_ids : Nat) (s_attributes : Nat) (s_permanent : Nat) (s_glyphs : Nat) (s_glyphCount : Int32) (s_dots : Nat) (s_used : Int32) (s_wishes : Nat) (s_pins : Nat) (s_id : Int32) (s_code : Int32) (s_chosen : Nat) (s_chosenKnown : Int32) (s_left : Nat) (s_coming : Nat) (x : Int32) (y : Int32) (A : Nat → Prop) (u : Unit) (t : State) : Prop := match u with
  | _ => va_P (dC, dI) vcl [(h0, .inr (3, [.ref s_ids, .ref s_attributes, .ref s_permanent, .int 0, .ref s_glyphs, .int s_glyphCount, .ref s_dots, .int s_used, .ref s_wishes, .ref s_pins, .int s_id, .int s_code, .ref s_chosen, .int s_chosenKnown, .ref s_left, .ref s_coming]))] t.heap ∧ va_K (dC, dI) vcl [] t ∧ va_D A [(h0, .inr (3, [.ref s_ids, .ref s_attributes, .ref s_permanent, .int 0, .ref s_glyphs, .int s_glyphCount, .ref s_dots, .int s_used, .ref s_wishes, .ref s_pins, .int s_id, .int s_code, .ref s_chosen, .int s_chosenKnown, .ref s_left, .ref s_coming]))]
abbrev po_c_keepThose_0 (h0 : Nat) (s_ids : Nat) (s_attributes : Nat) (s_permanent : Nat) (s_glyphs : Nat) (s_glyphCount : Int32) (s_dots : Nat) (s_used : Int32) (s_wishes : Nat) (s_pins : Nat) (s_id : Int32) (s_code : Int32) (s_chosen : Nat) (s_chosenKnown : Int32) (s_left : Nat) (s_coming : Nat) (x : Int32) (y : Int32) (r : Int32) (u : Unit) : Prop := match u with
  | _ => r = 0
abbrev q_c_keepThose_0 (dC : Nat → ClassId) (dI : Nat → Nat → Nat) (h0 : Nat) (s_ids : Nat) (s_attributes : Nat) (s_permanent : Nat) (s_glyphs : Nat) (s_glyphCount : Int32) (s_dots : Nat) (s_used : Int32) (s_wishes : Nat) (s_pins : Nat) (s_id : Int32) (s_code : Int32) (s_chosen : Nat) (s_chosenKnown : Int32) (s_left : Nat) (s_coming : Nat) (x : Int32) (y : Int32) (A : Nat → Prop) : Array Value → State → Outcome → State → Prop := va_Qi (po_c_keepThose_0 h0 s_ids s_attributes s_permanent s_glyphs s_glyphCount s_dots s_used s_wishes s_pins s_id s_code s_chosen s_chosenKnown s_left s_coming x y) (at_c_keepThose_0 dC dI h0 s_ids s_attributes s_permanent s_glyphs s_glyphCount s_dots s_used s_wishes s_pins s_id s_code s_chosen s_chosenKnown s_left s_coming x y A) A
abbrev rm_c_keepThose_0 : Room := { frames := 0, cells := 0, slots := 0, locals := 0 }
set_option maxHeartbeats 4000000 in
set_option maxRecDepth 100000 in
theorem c_keepThose_0 (l : Launch) (dC : Nat → ClassId) (dI : Nat → Nat → Nat) (tt : Nat → Nat) (h0 : Nat) (s_ids : Nat) (s_attributes : Nat) (s_permanent : Nat) (s_glyphs : Nat) (s_glyphCount : Int32) (s_dots : Nat) (s_used : Int32) (s_wishes : Nat) (s_pins : Nat) (s_id : Int32) (s_code : Int32) (s_chosen : Nat) (s_chosenKnown : Int32) (s_left : Nat) (s_coming : Nat) (x : Int32) (y : Int32) (sz : Nat)  : Met l y_FontShelf_keepThose w_FontShelf_keepThose rm_c_keepThose_0 (va_Pc [.ref h0, .int x, .int y] (fun U => U.heap.size = sz ∧ va_P (dC, dI) vcl [(h0, .inr (3, [.ref s_ids, .ref s_attributes, .ref s_permanent, .int 0, .ref s_glyphs, .int s_glyphCount, .ref s_dots, .int s_used, .ref s_wishes, .ref s_pins, .int s_id, .int s_code, .ref s_chosen, .int s_chosenKnown, .ref s_left, .ref s_coming]))] U.heap ∧ va_K (dC, dI) vcl [] U ∧ va_D (fun _ => True) [(h0, .inr (3, [.ref s_ids, .ref s_attributes, .ref s_permanent, .int 0, .ref s_glyphs, .int s_glyphCount, .ref s_dots, .int s_used, .ref s_wishes, .ref s_pins, .int s_id, .int s_code, .ref s_chosen, .int s_chosenKnown, .ref s_left, .ref s_coming]))] ∧ SF tt (va_A [(h0, .inr (3, [.ref s_ids, .ref s_attributes, .ref s_permanent, .int 0, .ref s_glyphs, .int s_glyphCount, .ref s_dots, .int s_used, .ref s_wishes, .ref s_pins, .int s_id, .int s_code, .ref s_chosen, .int s_chosenKnown, .ref s_left, .ref s_coming]))] sz) U U.heap)) (q_c_keepThose_0 dC dI h0 s_ids s_attributes s_permanent s_glyphs s_glyphCount s_dots s_used s_wishes s_pins s_id s_code s_chosen s_chosenKnown s_left s_coming x y (va_A [(h0, .inr (3, [.ref s_ids, .ref s_attributes, .ref s_permanent, .int 0, .ref s_glyphs, .int s_glyphCount, .ref s_dots, .int s_used, .ref s_wishes, .ref s_pins, .int s_id, .int s_code, .ref s_chosen, .int s_chosenKnown, .ref s_left, .ref s_coming]))] sz)) 0 0 (va_A [(h0, .inr (3, [.ref s_ids, .ref s_attributes, .ref s_permanent, .int 0, .ref s_glyphs, .int s_glyphCount, .ref s_dots, .int s_used, .ref s_wishes, .ref s_pins, .int s_id, .int s_code, .ref s_chosen, .int s_chosenKnown, .ref s_left, .ref s_coming]))] sz) := by
  refine Met.ofW (cc := b_FontShelf_keepThose) (maxL := 5) (ret := (some .boolean)) (by decide) rfl ?_
  intro p e s m args below meth c s₁ B hml hv
  obtain ⟨rfl, hsz, hP, hK, hD0, hF⟩ := hv
  have hx := B.exec
  have hb := B.bytes
  have hr := B.returns
  have hwd : ∀ w ∈ gT, w.before _ s = true := fun w h => atoms_spec (ws := w_FontShelf_keepThose) B.pre w (List.mem_cons_of_mem _ h)
  have hown : s.vm.findClass R_FontShelf = some m.cls := findClass_of_methodNamed B.named
  have hlocks := B.notSynchronized
  subst hsz
  have hD := hD0.self (sz := s.heap.size)
  generalize hAe : va_A [(h0, .inr (3, [.ref s_ids, .ref s_attributes, .ref s_permanent, .int 0, .ref s_glyphs, .int s_glyphCount, .ref s_dots, .int s_used, .ref s_wishes, .ref s_pins, .int s_id, .int s_code, .ref s_chosen, .int s_chosenKnown, .ref s_left, .ref s_coming]))] s.heap.size = A at hD hF ⊢
  have hA : ∀ q : Nat, s.heap.size ≤ q → A q := fun q h => by rw [← hAe]; exact Or.inr h
  have hS : va_S A s.heap s.heap [] := va_S.rf
  have hP : va_P (dC, dI) vcl [(h0, .inr (3, [.ref s_ids, .ref s_attributes, .ref s_permanent, .int 0, .ref s_glyphs, .int s_glyphCount, .ref s_dots, .int s_used, .ref s_wishes, .ref s_pins, .int s_id, .int s_code, .ref s_chosen, .int s_chosenKnown, .ref s_left, .ref s_coming]))] s.heap := hP
  have hl := lv_entry ([.ref h0, .int x, .int y]) (n := 5) (Nat.le_of_ble_eq_true rfl)
  rw [lg_entry_eq]
  generalize (lg_sl ([.ref h0, .int x, .int y]) ++ List.replicate (5 - (lg_sl ([.ref h0, .int x, .int y])).length) Slot.unset).toArray = ls at hl ⊢
  have hl : lv_has ls 5 [(0, .ref h0), (1, .int x), (2, .int y)] := hl
  refine lv_iconst (v := 0) hx hb d_FontShelf_keepThose_0 (by decide) ?_
  refine lv_istore_n (lv' := [(3, .int 0), (0, .ref h0), (1, .int x), (2, .int y)]) hx hb d_FontShelf_keepThose_1 rfl hl (by decide) rfl ?_
  clear hl
  intro ls hl
  refine lv_iconst (v := 0) hx hb d_FontShelf_keepThose_2 (by decide) ?_
  refine lv_istore (lv' := [(4, .int 0), (3, .int 0), (0, .ref h0), (1, .int x), (2, .int y)]) hx hb d_FontShelf_keepThose_3 hl (by decide) rfl ?_
  clear hl
  intro ls hl
  refine lv_iload hx hb d_FontShelf_keepThose_5 (lv_at hl 0 rfl) ?_
  refine lv_aload_n hx hb d_FontShelf_keepThose_7 rfl (lv_at hl 2 rfl) ?_
  refine va_get (D := (dC, dI)) (ci := 3) (v := .int 0) (C := R_FontShelf) (T := F_FontShelf) (N := 16) hx hb hwd i_FontShelf hown hK hP 0 rfl rfl 3 (by decide) (hwd _ wd_2_101) (fun _ h9 => h9) rfl d_FontShelf_keepThose_8 ?_
  refine lv_icmp_ge (tgt := 59) hx hb d_FontShelf_keepThose_11 (by decide) (fun _ => ?_) (fun c11 => absurd (by decide) c11)
  refine lv_iconst (v := 0) hx hb d_FontShelf_keepThose_59 (by decide) ?_
  refine lv_istore (lv' := [(4, .int 0), (3, .int 0), (0, .ref h0), (1, .int x), (2, .int y)]) hx hb d_FontShelf_keepThose_60 hl (by decide) rfl ?_
  clear hl
  intro ls hl
  refine lv_iload hx hb d_FontShelf_keepThose_62 (lv_at hl 0 rfl) ?_
  refine lv_aload_n hx hb d_FontShelf_keepThose_64 rfl (lv_at hl 2 rfl) ?_
  refine va_get (D := (dC, dI)) (ci := 3) (v := .int 0) (C := R_FontShelf) (T := F_FontShelf) (N := 16) hx hb hwd i_FontShelf hown hK hP 0 rfl rfl 3 (by decide) (hwd _ wd_2_101) (fun _ h9 => h9) rfl d_FontShelf_keepThose_65 ?_
  refine lv_icmp_ge (tgt := 117) hx hb d_FontShelf_keepThose_68 (by decide) (fun _ => ?_) (fun c68 => absurd (by decide) c68)
  refine lv_iload_n hx hb d_FontShelf_keepThose_117 rfl (lv_at hl 1 rfl) ?_
  have hP9 := hP.sub (ws' := [(h0, .inr (3, [.ref s_ids, .ref s_attributes, .ref s_permanent, .int 0, .ref s_glyphs, .int s_glyphCount, .ref s_dots, .int s_used, .ref s_wishes, .ref s_pins, .int s_id, .int s_code, .ref s_chosen, .int s_chosenKnown, .ref s_left, .ref s_coming]))]) [0] rfl
  have hD9 := hD.sub (ws' := [(h0, .inr (3, [.ref s_ids, .ref s_attributes, .ref s_permanent, .int 0, .ref s_glyphs, .int s_glyphCount, .ref s_dots, .int s_used, .ref s_wishes, .ref s_pins, .int s_id, .int s_code, .ref s_chosen, .int s_chosenKnown, .ref s_left, .ref s_coming]))]) [0] (by decide) rfl
  have hK9 := hK.sub (tys' := []) [] rfl
  exact W.zret (v := 0) hx hb hr (by decide) (fun t ht hW => ⟨⟨0, (), rfl, (show (0 : Int32) = 0 from (by first | exact trivial | rfl | simp [*])), by rw [ht]; exact hP9, va_K.moved hW.alike hK9, hD9⟩, hS.F ht⟩) hS.2.2 d_FontShelf_keepThose_118

abbrev at_c_allLeftEven_0 (dC : Nat → ClassId) (dI : Nat → Nat → Nat) (h0 : Nat) (s_ids : Nat) (s_attributes : Nat) (s_permanent : Nat) (s_glyphs : Nat) (s_glyphCount : Int32) (s_dots : Nat) (s_used : Int32) (s_wishes : Nat) (s_pins : Nat) (s_id : Int32) (s_code : Int32) (s_chosen : Nat) (s_chosenKnown : Int32) (s_left : Nat) (s_coming : Nat) (A : Nat → Prop) (u : Unit) (t : State) : Prop := match u with
  | _ => va_P (dC, dI) vcl [(h0, .inr (3, [.ref s_ids, .ref s_attributes, .ref s_permanent, .int 0, .ref s_glyphs, .int s_glyphCount, .ref s_dots, .int s_used, .ref s_wishes, .ref s_pins, .int s_id, .int s_code, .ref s_chosen, .int s_chosenKnown, .ref s_left, .ref s_coming]))] t.heap ∧ va_K (dC, dI) vcl [] t ∧ va_D A [(h0, .inr (3, [.ref s_ids, .ref s_attributes, .ref s_permanent, .int 0, .ref s_glyphs, .int s_glyphCount, .ref s_dots, .int s_used, .ref s_wishes, .ref s_pins, .int s_id, .int s_code, .ref s_chosen, .int s_chosenKnown, .ref s_left, .ref s_coming]))]
abbrev po_c_allLeftEven_0 (h0 : Nat) (s_ids : Nat) (s_attributes : Nat) (s_permanent : Nat) (s_glyphs : Nat) (s_glyphCount : Int32) (s_dots : Nat) (s_used : Int32) (s_wishes : Nat) (s_pins : Nat) (s_id : Int32) (s_code : Int32) (s_chosen : Nat) (s_chosenKnown : Int32) (s_left : Nat) (s_coming : Nat) (r : Int32) (u : Unit) : Prop := match u with
  | _ => r = 1
abbrev q_c_allLeftEven_0 (dC : Nat → ClassId) (dI : Nat → Nat → Nat) (h0 : Nat) (s_ids : Nat) (s_attributes : Nat) (s_permanent : Nat) (s_glyphs : Nat) (s_glyphCount : Int32) (s_dots : Nat) (s_used : Int32) (s_wishes : Nat) (s_pins : Nat) (s_id : Int32) (s_code : Int32) (s_chosen : Nat) (s_chosenKnown : Int32) (s_left : Nat) (s_coming : Nat) (A : Nat → Prop) : Array Value → State → Outcome → State → Prop := va_Qi (po_c_allLeftEven_0 h0 s_ids s_attributes s_permanent s_glyphs s_glyphCount s_dots s_used s_wishes s_pins s_id s_code s_chosen s_chosenKnown s_left s_coming) (at_c_allLeftEven_0 dC dI h0 s_ids s_attributes s_permanent s_glyphs s_glyphCount s_dots s_used s_wishes s_pins s_id s_code s_chosen s_chosenKnown s_left s_coming A) A
abbrev rm_c_allLeftEven_0 : Room := { frames := 0, cells := 0, slots := 0, locals := 0 }
set_option maxHeartbeats 4000000 in
set_option maxRecDepth 100000 in
theorem c_allLeftEven_0 (l : Launch) (dC : Nat → ClassId) (dI : Nat → Nat → Nat) (tt : Nat → Nat) (h0 : Nat) (s_ids : Nat) (s_attributes : Nat) (s_permanent : Nat) (s_glyphs : Nat) (s_glyphCount : Int32) (s_dots : Nat) (s_used : Int32) (s_wishes : Nat) (s_pins : Nat) (s_id : Int32) (s_code : Int32) (s_chosen : Nat) (s_chosenKnown : Int32) (s_left : Nat) (s_coming : Nat) (sz : Nat)  : Met l y_FontShelf_allLeftEven w_FontShelf_allLeftEven rm_c_allLeftEven_0 (va_Pc [.ref h0] (fun U => U.heap.size = sz ∧ va_P (dC, dI) vcl [(h0, .inr (3, [.ref s_ids, .ref s_attributes, .ref s_permanent, .int 0, .ref s_glyphs, .int s_glyphCount, .ref s_dots, .int s_used, .ref s_wishes, .ref s_pins, .int s_id, .int s_code, .ref s_chosen, .int s_chosenKnown, .ref s_left, .ref s_coming]))] U.heap ∧ va_K (dC, dI) vcl [] U ∧ va_D (fun _ => True) [(h0, .inr (3, [.ref s_ids, .ref s_attributes, .ref s_permanent, .int 0, .ref s_glyphs, .int s_glyphCount, .ref s_dots, .int s_used, .ref s_wishes, .ref s_pins, .int s_id, .int s_code, .ref s_chosen, .int s_chosenKnown, .ref s_left, .ref s_coming]))] ∧ SF tt (va_A [(h0, .inr (3, [.ref s_ids, .ref s_attributes, .ref s_permanent, .int 0, .ref s_glyphs, .int s_glyphCount, .ref s_dots, .int s_used, .ref s_wishes, .ref s_pins, .int s_id, .int s_code, .ref s_chosen, .int s_chosenKnown, .ref s_left, .ref s_coming]))] sz) U U.heap)) (q_c_allLeftEven_0 dC dI h0 s_ids s_attributes s_permanent s_glyphs s_glyphCount s_dots s_used s_wishes s_pins s_id s_code s_chosen s_chosenKnown s_left s_coming (va_A [(h0, .inr (3, [.ref s_ids, .ref s_attributes, .ref s_permanent, .int 0, .ref s_glyphs, .int s_glyphCount, .ref s_dots, .int s_used, .ref s_wishes, .ref s_pins, .int s_id, .int s_code, .ref s_chosen, .int s_chosenKnown, .ref s_left, .ref s_coming]))] sz)) 0 0 (va_A [(h0, .inr (3, [.ref s_ids, .ref s_attributes, .ref s_permanent, .int 0, .ref s_glyphs, .int s_glyphCount, .ref s_dots, .int s_used, .ref s_wishes, .ref s_pins, .int s_id, .int s_code, .ref s_chosen, .int s_chosenKnown, .ref s_left, .ref s_coming]))] sz) := by
  refine Met.ofW (cc := b_FontShelf_allLeftEven) (maxL := 2) (ret := (some .boolean)) (by decide) rfl ?_
  intro p e s m args below meth c s₁ B hml hv
  obtain ⟨rfl, hsz, hP, hK, hD0, hF⟩ := hv
  have hx := B.exec
  have hb := B.bytes
  have hr := B.returns
  have hwd : ∀ w ∈ gT, w.before _ s = true := fun w h => atoms_spec (ws := w_FontShelf_allLeftEven) B.pre w (List.mem_cons_of_mem _ h)
  have hown : s.vm.findClass R_FontShelf = some m.cls := findClass_of_methodNamed B.named
  have hlocks := B.notSynchronized
  subst hsz
  have hD := hD0.self (sz := s.heap.size)
  generalize hAe : va_A [(h0, .inr (3, [.ref s_ids, .ref s_attributes, .ref s_permanent, .int 0, .ref s_glyphs, .int s_glyphCount, .ref s_dots, .int s_used, .ref s_wishes, .ref s_pins, .int s_id, .int s_code, .ref s_chosen, .int s_chosenKnown, .ref s_left, .ref s_coming]))] s.heap.size = A at hD hF ⊢
  have hA : ∀ q : Nat, s.heap.size ≤ q → A q := fun q h => by rw [← hAe]; exact Or.inr h
  have hS : va_S A s.heap s.heap [] := va_S.rf
  have hP : va_P (dC, dI) vcl [(h0, .inr (3, [.ref s_ids, .ref s_attributes, .ref s_permanent, .int 0, .ref s_glyphs, .int s_glyphCount, .ref s_dots, .int s_used, .ref s_wishes, .ref s_pins, .int s_id, .int s_code, .ref s_chosen, .int s_chosenKnown, .ref s_left, .ref s_coming]))] s.heap := hP
  have hl := lv_entry ([.ref h0]) (n := 2) (Nat.le_of_ble_eq_true rfl)
  rw [lg_entry_eq]
  generalize (lg_sl ([.ref h0]) ++ List.replicate (2 - (lg_sl ([.ref h0])).length) Slot.unset).toArray = ls at hl ⊢
  have hl : lv_has ls 2 [(0, .ref h0)] := hl
  refine lv_iconst (v := 0) hx hb d_FontShelf_allLeftEven_0 (by decide) ?_
  refine lv_istore_n (lv' := [(1, .int 0), (0, .ref h0)]) hx hb d_FontShelf_allLeftEven_1 rfl hl (by decide) rfl ?_
  clear hl
  intro ls hl
  refine lv_iload_n hx hb d_FontShelf_allLeftEven_2 rfl (lv_at hl 0 rfl) ?_
  refine lv_aload_n hx hb d_FontShelf_allLeftEven_3 rfl (lv_at hl 1 rfl) ?_
  refine va_get (D := (dC, dI)) (ci := 3) (v := .int 0) (C := R_FontShelf) (T := F_FontShelf) (N := 16) hx hb hwd i_FontShelf hown hK hP 0 rfl rfl 3 (by decide) (hwd _ wd_2_101) (fun _ h9 => h9) rfl d_FontShelf_allLeftEven_4 ?_
  refine lv_icmp_ge (tgt := 45) hx hb d_FontShelf_allLeftEven_7 (by decide) (fun _ => ?_) (fun c7 => absurd (by decide) c7)
  refine lv_iconst (v := 1) hx hb d_FontShelf_allLeftEven_45 (by decide) ?_
  have hP9 := hP.sub (ws' := [(h0, .inr (3, [.ref s_ids, .ref s_attributes, .ref s_permanent, .int 0, .ref s_glyphs, .int s_glyphCount, .ref s_dots, .int s_used, .ref s_wishes, .ref s_pins, .int s_id, .int s_code, .ref s_chosen, .int s_chosenKnown, .ref s_left, .ref s_coming]))]) [0] rfl
  have hD9 := hD.sub (ws' := [(h0, .inr (3, [.ref s_ids, .ref s_attributes, .ref s_permanent, .int 0, .ref s_glyphs, .int s_glyphCount, .ref s_dots, .int s_used, .ref s_wishes, .ref s_pins, .int s_id, .int s_code, .ref s_chosen, .int s_chosenKnown, .ref s_left, .ref s_coming]))]) [0] (by decide) rfl
  have hK9 := hK.sub (tys' := []) [] rfl
  exact W.zret (v := 1) hx hb hr (by decide) (fun t ht hW => ⟨⟨1, (), rfl, (show (1 : Int32) = 1 from (by first | exact trivial | rfl | simp [*])), by rw [ht]; exact hP9, va_K.moved hW.alike hK9, hD9⟩, hS.F ht⟩) hS.2.2 d_FontShelf_allLeftEven_46

abbrev at_c_least_0 (dC : Nat → ClassId) (dI : Nat → Nat → Nat) (h0 : Nat) (s_ids : Nat) (s_attributes : Nat) (s_permanent : Nat) (s_glyphs : Nat) (s_glyphCount : Int32) (s_dots : Nat) (s_used : Int32) (s_wishes : Nat) (s_pins : Nat) (s_id : Int32) (s_code : Int32) (s_chosen : Nat) (s_chosenKnown : Int32) (s_left : Nat) (s_coming : Nat) (x : Int32) (y : Int32) (A : Nat → Prop) (u : Unit) (t : State) : Prop := match u with
  | _ => va_P (dC, dI) vcl [(h0, .inr (3, [.ref s_ids, .ref s_attributes, .ref s_permanent, .int 0, .ref s_glyphs, .int s_glyphCount, .ref s_dots, .int s_used, .ref s_wishes, .ref s_pins, .int s_id, .int s_code, .ref s_chosen, .int s_chosenKnown, .ref s_left, .ref s_coming]))] t.heap ∧ va_K (dC, dI) vcl [] t ∧ va_D A [(h0, .inr (3, [.ref s_ids, .ref s_attributes, .ref s_permanent, .int 0, .ref s_glyphs, .int s_glyphCount, .ref s_dots, .int s_used, .ref s_wishes, .ref s_pins, .int s_id, .int s_code, .ref s_chosen, .int s_chosenKnown, .ref s_left, .ref s_coming]))]
abbrev po_c_least_0 (h0 : Nat) (s_ids : Nat) (s_attributes : Nat) (s_permanent : Nat) (s_glyphs : Nat) (s_glyphCount : Int32) (s_dots : Nat) (s_used : Int32) (s_wishes : Nat) (s_pins : Nat) (s_id : Int32) (s_code : Int32) (s_chosen : Nat) (s_chosenKnown : Int32) (s_left : Nat) (s_coming : Nat) (x : Int32) (y : Int32) (r : Int32) (u : Unit) : Prop := match u with
  | _ => r = (-1)
abbrev q_c_least_0 (dC : Nat → ClassId) (dI : Nat → Nat → Nat) (h0 : Nat) (s_ids : Nat) (s_attributes : Nat) (s_permanent : Nat) (s_glyphs : Nat) (s_glyphCount : Int32) (s_dots : Nat) (s_used : Int32) (s_wishes : Nat) (s_pins : Nat) (s_id : Int32) (s_code : Int32) (s_chosen : Nat) (s_chosenKnown : Int32) (s_left : Nat) (s_coming : Nat) (x : Int32) (y : Int32) (A : Nat → Prop) : Array Value → State → Outcome → State → Prop := va_Qi (po_c_least_0 h0 s_ids s_attributes s_permanent s_glyphs s_glyphCount s_dots s_used s_wishes s_pins s_id s_code s_chosen s_chosenKnown s_left s_coming x y) (at_c_least_0 dC dI h0 s_ids s_attributes s_permanent s_glyphs s_glyphCount s_dots s_used s_wishes s_pins s_id s_code s_chosen s_chosenKnown s_left s_coming x y A) A
abbrev rm_c_least_0 : Room := { frames := 0, cells := 0, slots := 0, locals := 0 }
set_option maxHeartbeats 4000000 in
set_option maxRecDepth 100000 in
theorem c_least_0 (l : Launch) (dC : Nat → ClassId) (dI : Nat → Nat → Nat) (tt : Nat → Nat) (h0 : Nat) (s_ids : Nat) (s_attributes : Nat) (s_permanent : Nat) (s_glyphs : Nat) (s_glyphCount : Int32) (s_dots : Nat) (s_used : Int32) (s_wishes : Nat) (s_pins : Nat) (s_id : Int32) (s_code : Int32) (s_chosen : Nat) (s_chosenKnown : Int32) (s_left : Nat) (s_coming : Nat) (x : Int32) (y : Int32) (sz : Nat)  : Met l y_FontShelf_least w_FontShelf_least rm_c_least_0 (va_Pc [.ref h0, .int x, .int y] (fun U => U.heap.size = sz ∧ va_P (dC, dI) vcl [(h0, .inr (3, [.ref s_ids, .ref s_attributes, .ref s_permanent, .int 0, .ref s_glyphs, .int s_glyphCount, .ref s_dots, .int s_used, .ref s_wishes, .ref s_pins, .int s_id, .int s_code, .ref s_chosen, .int s_chosenKnown, .ref s_left, .ref s_coming]))] U.heap ∧ va_K (dC, dI) vcl [] U ∧ va_D (fun _ => True) [(h0, .inr (3, [.ref s_ids, .ref s_attributes, .ref s_permanent, .int 0, .ref s_glyphs, .int s_glyphCount, .ref s_dots, .int s_used, .ref s_wishes, .ref s_pins, .int s_id, .int s_code, .ref s_chosen, .int s_chosenKnown, .ref s_left, .ref s_coming]))] ∧ SF tt (va_A [(h0, .inr (3, [.ref s_ids, .ref s_attributes, .ref s_permanent, .int 0, .ref s_glyphs, .int s_glyphCount, .ref s_dots, .int s_used, .ref s_wishes, .ref s_pins, .int s_id, .int s_code, .ref s_chosen, .int s_chosenKnown, .ref s_left, .ref s_coming]))] sz) U U.heap)) (q_c_least_0 dC dI h0 s_ids s_attributes s_permanent s_glyphs s_glyphCount s_dots s_used s_wishes s_pins s_id s_code s_chosen s_chosenKnown s_left s_coming x y (va_A [(h0, .inr (3, [.ref s_ids, .ref s_attributes, .ref s_permanent, .int 0, .ref s_glyphs, .int s_glyphCount, .ref s_dots, .int s_used, .ref s_wishes, .ref s_pins, .int s_id, .int s_code, .ref s_chosen, .int s_chosenKnown, .ref s_left, .ref s_coming]))] sz)) 0 0 (va_A [(h0, .inr (3, [.ref s_ids, .ref s_attributes, .ref s_permanent, .int 0, .ref s_glyphs, .int s_glyphCount, .ref s_dots, .int s_used, .ref s_wishes, .ref s_pins, .int s_id, .int s_code, .ref s_chosen, .int s_chosenKnown, .ref s_left, .ref s_coming]))] sz) := by
  refine Met.ofW (cc := b_FontShelf_least) (maxL := 6) (ret := (some .int)) (by decide) rfl ?_
  intro p e s m args below meth c s₁ B hml hv
  obtain ⟨rfl, hsz, hP, hK, hD0, hF⟩ := hv
  have hx := B.exec
  have hb := B.bytes
  have hr := B.returns
  have hwd : ∀ w ∈ gT, w.before _ s = true := fun w h => atoms_spec (ws := w_FontShelf_least) B.pre w (List.mem_cons_of_mem _ h)
  have hown : s.vm.findClass R_FontShelf = some m.cls := findClass_of_methodNamed B.named
  have hlocks := B.notSynchronized
  subst hsz
  have hD := hD0.self (sz := s.heap.size)
  generalize hAe : va_A [(h0, .inr (3, [.ref s_ids, .ref s_attributes, .ref s_permanent, .int 0, .ref s_glyphs, .int s_glyphCount, .ref s_dots, .int s_used, .ref s_wishes, .ref s_pins, .int s_id, .int s_code, .ref s_chosen, .int s_chosenKnown, .ref s_left, .ref s_coming]))] s.heap.size = A at hD hF ⊢
  have hA : ∀ q : Nat, s.heap.size ≤ q → A q := fun q h => by rw [← hAe]; exact Or.inr h
  have hS : va_S A s.heap s.heap [] := va_S.rf
  have hP : va_P (dC, dI) vcl [(h0, .inr (3, [.ref s_ids, .ref s_attributes, .ref s_permanent, .int 0, .ref s_glyphs, .int s_glyphCount, .ref s_dots, .int s_used, .ref s_wishes, .ref s_pins, .int s_id, .int s_code, .ref s_chosen, .int s_chosenKnown, .ref s_left, .ref s_coming]))] s.heap := hP
  have hl := lv_entry ([.ref h0, .int x, .int y]) (n := 6) (Nat.le_of_ble_eq_true rfl)
  rw [lg_entry_eq]
  generalize (lg_sl ([.ref h0, .int x, .int y]) ++ List.replicate (6 - (lg_sl ([.ref h0, .int x, .int y])).length) Slot.unset).toArray = ls at hl ⊢
  have hl : lv_has ls 6 [(0, .ref h0), (1, .int x), (2, .int y)] := hl
  refine lv_iconst (v := (-1)) hx hb d_FontShelf_least_0 (by decide) ?_
  refine lv_istore_n (lv' := [(3, .int (-1)), (0, .ref h0), (1, .int x), (2, .int y)]) hx hb d_FontShelf_least_1 rfl hl (by decide) rfl ?_
  clear hl
  intro ls hl
  refine lv_iconst (v := 0) hx hb d_FontShelf_least_2 (by decide) ?_
  refine lv_istore (lv' := [(4, .int 0), (3, .int (-1)), (0, .ref h0), (1, .int x), (2, .int y)]) hx hb d_FontShelf_least_3 hl (by decide) rfl ?_
  clear hl
  intro ls hl
  refine lv_iload hx hb d_FontShelf_least_5 (lv_at hl 0 rfl) ?_
  refine lv_aload_n hx hb d_FontShelf_least_7 rfl (lv_at hl 2 rfl) ?_
  refine va_get (D := (dC, dI)) (ci := 3) (v := .int 0) (C := R_FontShelf) (T := F_FontShelf) (N := 16) hx hb hwd i_FontShelf hown hK hP 0 rfl rfl 3 (by decide) (hwd _ wd_2_101) (fun _ h9 => h9) rfl d_FontShelf_least_8 ?_
  refine lv_icmp_ge (tgt := 69) hx hb d_FontShelf_least_11 (by decide) (fun _ => ?_) (fun c11 => absurd (by decide) c11)
  refine lv_iload_n hx hb d_FontShelf_least_69 rfl (lv_at hl 1 rfl) ?_
  have hP9 := hP.sub (ws' := [(h0, .inr (3, [.ref s_ids, .ref s_attributes, .ref s_permanent, .int 0, .ref s_glyphs, .int s_glyphCount, .ref s_dots, .int s_used, .ref s_wishes, .ref s_pins, .int s_id, .int s_code, .ref s_chosen, .int s_chosenKnown, .ref s_left, .ref s_coming]))]) [0] rfl
  have hD9 := hD.sub (ws' := [(h0, .inr (3, [.ref s_ids, .ref s_attributes, .ref s_permanent, .int 0, .ref s_glyphs, .int s_glyphCount, .ref s_dots, .int s_used, .ref s_wishes, .ref s_pins, .int s_id, .int s_code, .ref s_chosen, .int s_chosenKnown, .ref s_left, .ref s_coming]))]) [0] (by decide) rfl
  have hK9 := hK.sub (tys' := []) [] rfl
  exact W.iret (v := (-1)) hx hb hr (fun t ht hW => ⟨⟨(-1), (), rfl, (show ((-1) : Int32) = (-1) from (by first | exact trivial | rfl | simp [*])), by rw [ht]; exact hP9, va_K.moved hW.alike hK9, hD9⟩, hS.F ht⟩) hS.2.2 d_FontShelf_least_70

abbrev at_c_greatest_0 (dC : Nat → ClassId) (dI : Nat → Nat → Nat) (h0 : Nat) (s_ids : Nat) (s_attributes : Nat) (s_permanent : Nat) (s_glyphs : Nat) (s_glyphCount : Int32) (s_dots : Nat) (s_used : Int32) (s_wishes : Nat) (s_pins : Nat) (s_id : Int32) (s_code : Int32) (s_chosen : Nat) (s_chosenKnown : Int32) (s_left : Nat) (s_coming : Nat) (x : Int32) (y : Int32) (A : Nat → Prop) (u : Unit) (t : State) : Prop := match u with
  | _ => va_P (dC, dI) vcl [(h0, .inr (3, [.ref s_ids, .ref s_attributes, .ref s_permanent, .int 0, .ref s_glyphs, .int s_glyphCount, .ref s_dots, .int s_used, .ref s_wishes, .ref s_pins, .int s_id, .int s_code, .ref s_chosen, .int s_chosenKnown, .ref s_left, .ref s_coming]))] t.heap ∧ va_K (dC, dI) vcl [] t ∧ va_D A [(h0, .inr (3, [.ref s_ids, .ref s_attributes, .ref s_permanent, .int 0, .ref s_glyphs, .int s_glyphCount, .ref s_dots, .int s_used, .ref s_wishes, .ref s_pins, .int s_id, .int s_code, .ref s_chosen, .int s_chosenKnown, .ref s_left, .ref s_coming]))]
abbrev po_c_greatest_0 (h0 : Nat) (s_ids : Nat) (s_attributes : Nat) (s_permanent : Nat) (s_glyphs : Nat) (s_glyphCount : Int32) (s_dots : Nat) (s_used : Int32) (s_wishes : Nat) (s_pins : Nat) (s_id : Int32) (s_code : Int32) (s_chosen : Nat) (s_chosenKnown : Int32) (s_left : Nat) (s_coming : Nat) (x : Int32) (y : Int32) (r : Int32) (u : Unit) : Prop := match u with
  | _ => r = (-1)
abbrev q_c_greatest_0 (dC : Nat → ClassId) (dI : Nat → Nat → Nat) (h0 : Nat) (s_ids : Nat) (s_attributes : Nat) (s_permanent : Nat) (s_glyphs : Nat) (s_glyphCount : Int32) (s_dots : Nat) (s_used : Int32) (s_wishes : Nat) (s_pins : Nat) (s_id : Int32) (s_code : Int32) (s_chosen : Nat) (s_chosenKnown : Int32) (s_left : Nat) (s_coming : Nat) (x : Int32) (y : Int32) (A : Nat → Prop) : Array Value → State → Outcome → State → Prop := va_Qi (po_c_greatest_0 h0 s_ids s_attributes s_permanent s_glyphs s_glyphCount s_dots s_used s_wishes s_pins s_id s_code s_chosen s_chosenKnown s_left s_coming x y) (at_c_greatest_0 dC dI h0 s_ids s_attributes s_permanent s_glyphs s_glyphCount s_dots s_used s_wishes s_pins s_id s_code s_chosen s_chosenKnown s_left s_coming x y A) A
abbrev rm_c_greatest_0 : Room := { frames := 0, cells := 0, slots := 0, locals := 0 }
set_option maxHeartbeats 4000000 in
set_option maxRecDepth 100000 in
theorem c_greatest_0 (l : Launch) (dC : Nat → ClassId) (dI : Nat → Nat → Nat) (tt : Nat → Nat) (h0 : Nat) (s_ids : Nat) (s_attributes : Nat) (s_permanent : Nat) (s_glyphs : Nat) (s_glyphCount : Int32) (s_dots : Nat) (s_used : Int32) (s_wishes : Nat) (s_pins : Nat) (s_id : Int32) (s_code : Int32) (s_chosen : Nat) (s_chosenKnown : Int32) (s_left : Nat) (s_coming : Nat) (x : Int32) (y : Int32) (sz : Nat)  : Met l y_FontShelf_greatest w_FontShelf_greatest rm_c_greatest_0 (va_Pc [.ref h0, .int x, .int y] (fun U => U.heap.size = sz ∧ va_P (dC, dI) vcl [(h0, .inr (3, [.ref s_ids, .ref s_attributes, .ref s_permanent, .int 0, .ref s_glyphs, .int s_glyphCount, .ref s_dots, .int s_used, .ref s_wishes, .ref s_pins, .int s_id, .int s_code, .ref s_chosen, .int s_chosenKnown, .ref s_left, .ref s_coming]))] U.heap ∧ va_K (dC, dI) vcl [] U ∧ va_D (fun _ => True) [(h0, .inr (3, [.ref s_ids, .ref s_attributes, .ref s_permanent, .int 0, .ref s_glyphs, .int s_glyphCount, .ref s_dots, .int s_used, .ref s_wishes, .ref s_pins, .int s_id, .int s_code, .ref s_chosen, .int s_chosenKnown, .ref s_left, .ref s_coming]))] ∧ SF tt (va_A [(h0, .inr (3, [.ref s_ids, .ref s_attributes, .ref s_permanent, .int 0, .ref s_glyphs, .int s_glyphCount, .ref s_dots, .int s_used, .ref s_wishes, .ref s_pins, .int s_id, .int s_code, .ref s_chosen, .int s_chosenKnown, .ref s_left, .ref s_coming]))] sz) U U.heap)) (q_c_greatest_0 dC dI h0 s_ids s_attributes s_permanent s_glyphs s_glyphCount s_dots s_used s_wishes s_pins s_id s_code s_chosen s_chosenKnown s_left s_coming x y (va_A [(h0, .inr (3, [.ref s_ids, .ref s_attributes, .ref s_permanent, .int 0, .ref s_glyphs, .int s_glyphCount, .ref s_dots, .int s_used, .ref s_wishes, .ref s_pins, .int s_id, .int s_code, .ref s_chosen, .int s_chosenKnown, .ref s_left, .ref s_coming]))] sz)) 0 0 (va_A [(h0, .inr (3, [.ref s_ids, .ref s_attributes, .ref s_permanent, .int 0, .ref s_glyphs, .int s_glyphCount, .ref s_dots, .int s_used, .ref s_wishes, .ref s_pins, .int s_id, .int s_code, .ref s_chosen, .int s_chosenKnown, .ref s_left, .ref s_coming]))] sz) := by
  refine Met.ofW (cc := b_FontShelf_greatest) (maxL := 6) (ret := (some .int)) (by decide) rfl ?_
  intro p e s m args below meth c s₁ B hml hv
  obtain ⟨rfl, hsz, hP, hK, hD0, hF⟩ := hv
  have hx := B.exec
  have hb := B.bytes
  have hr := B.returns
  have hwd : ∀ w ∈ gT, w.before _ s = true := fun w h => atoms_spec (ws := w_FontShelf_greatest) B.pre w (List.mem_cons_of_mem _ h)
  have hown : s.vm.findClass R_FontShelf = some m.cls := findClass_of_methodNamed B.named
  have hlocks := B.notSynchronized
  subst hsz
  have hD := hD0.self (sz := s.heap.size)
  generalize hAe : va_A [(h0, .inr (3, [.ref s_ids, .ref s_attributes, .ref s_permanent, .int 0, .ref s_glyphs, .int s_glyphCount, .ref s_dots, .int s_used, .ref s_wishes, .ref s_pins, .int s_id, .int s_code, .ref s_chosen, .int s_chosenKnown, .ref s_left, .ref s_coming]))] s.heap.size = A at hD hF ⊢
  have hA : ∀ q : Nat, s.heap.size ≤ q → A q := fun q h => by rw [← hAe]; exact Or.inr h
  have hS : va_S A s.heap s.heap [] := va_S.rf
  have hP : va_P (dC, dI) vcl [(h0, .inr (3, [.ref s_ids, .ref s_attributes, .ref s_permanent, .int 0, .ref s_glyphs, .int s_glyphCount, .ref s_dots, .int s_used, .ref s_wishes, .ref s_pins, .int s_id, .int s_code, .ref s_chosen, .int s_chosenKnown, .ref s_left, .ref s_coming]))] s.heap := hP
  have hl := lv_entry ([.ref h0, .int x, .int y]) (n := 6) (Nat.le_of_ble_eq_true rfl)
  rw [lg_entry_eq]
  generalize (lg_sl ([.ref h0, .int x, .int y]) ++ List.replicate (6 - (lg_sl ([.ref h0, .int x, .int y])).length) Slot.unset).toArray = ls at hl ⊢
  have hl : lv_has ls 6 [(0, .ref h0), (1, .int x), (2, .int y)] := hl
  refine lv_iconst (v := (-1)) hx hb d_FontShelf_greatest_0 (by decide) ?_
  refine lv_istore_n (lv' := [(3, .int (-1)), (0, .ref h0), (1, .int x), (2, .int y)]) hx hb d_FontShelf_greatest_1 rfl hl (by decide) rfl ?_
  clear hl
  intro ls hl
  refine lv_iconst (v := 0) hx hb d_FontShelf_greatest_2 (by decide) ?_
  refine lv_istore (lv' := [(4, .int 0), (3, .int (-1)), (0, .ref h0), (1, .int x), (2, .int y)]) hx hb d_FontShelf_greatest_3 hl (by decide) rfl ?_
  clear hl
  intro ls hl
  refine lv_iload hx hb d_FontShelf_greatest_5 (lv_at hl 0 rfl) ?_
  refine lv_aload_n hx hb d_FontShelf_greatest_7 rfl (lv_at hl 2 rfl) ?_
  refine va_get (D := (dC, dI)) (ci := 3) (v := .int 0) (C := R_FontShelf) (T := F_FontShelf) (N := 16) hx hb hwd i_FontShelf hown hK hP 0 rfl rfl 3 (by decide) (hwd _ wd_2_101) (fun _ h9 => h9) rfl d_FontShelf_greatest_8 ?_
  refine lv_icmp_ge (tgt := 64) hx hb d_FontShelf_greatest_11 (by decide) (fun _ => ?_) (fun c11 => absurd (by decide) c11)
  refine lv_iload_n hx hb d_FontShelf_greatest_64 rfl (lv_at hl 1 rfl) ?_
  have hP9 := hP.sub (ws' := [(h0, .inr (3, [.ref s_ids, .ref s_attributes, .ref s_permanent, .int 0, .ref s_glyphs, .int s_glyphCount, .ref s_dots, .int s_used, .ref s_wishes, .ref s_pins, .int s_id, .int s_code, .ref s_chosen, .int s_chosenKnown, .ref s_left, .ref s_coming]))]) [0] rfl
  have hD9 := hD.sub (ws' := [(h0, .inr (3, [.ref s_ids, .ref s_attributes, .ref s_permanent, .int 0, .ref s_glyphs, .int s_glyphCount, .ref s_dots, .int s_used, .ref s_wishes, .ref s_pins, .int s_id, .int s_code, .ref s_chosen, .int s_chosenKnown, .ref s_left, .ref s_coming]))]) [0] (by decide) rfl
  have hK9 := hK.sub (tys' := []) [] rfl
  exact W.iret (v := (-1)) hx hb hr (fun t ht hW => ⟨⟨(-1), (), rfl, (show ((-1) : Int32) = (-1) from (by first | exact trivial | rfl | simp [*])), by rw [ht]; exact hP9, va_K.moved hW.alike hK9, hD9⟩, hS.F ht⟩) hS.2.2 d_FontShelf_greatest_65

abbrev at_c_anyLeft_0 (dC : Nat → ClassId) (dI : Nat → Nat → Nat) (h0 : Nat) (s_ids : Nat) (s_attributes : Nat) (s_permanent : Nat) (s_glyphs : Nat) (s_glyphCount : Int32) (s_dots : Nat) (s_used : Int32) (s_wishes : Nat) (s_pins : Nat) (s_id : Int32) (s_code : Int32) (s_chosen : Nat) (s_chosenKnown : Int32) (s_left : Nat) (s_coming : Nat) (x : Int32) (y : Int32) (A : Nat → Prop) (u : Unit) (t : State) : Prop := match u with
  | _ => va_P (dC, dI) vcl [(h0, .inr (3, [.ref s_ids, .ref s_attributes, .ref s_permanent, .int 0, .ref s_glyphs, .int s_glyphCount, .ref s_dots, .int s_used, .ref s_wishes, .ref s_pins, .int s_id, .int s_code, .ref s_chosen, .int s_chosenKnown, .ref s_left, .ref s_coming]))] t.heap ∧ va_K (dC, dI) vcl [] t ∧ va_D A [(h0, .inr (3, [.ref s_ids, .ref s_attributes, .ref s_permanent, .int 0, .ref s_glyphs, .int s_glyphCount, .ref s_dots, .int s_used, .ref s_wishes, .ref s_pins, .int s_id, .int s_code, .ref s_chosen, .int s_chosenKnown, .ref s_left, .ref s_coming]))]
abbrev po_c_anyLeft_0 (h0 : Nat) (s_ids : Nat) (s_attributes : Nat) (s_permanent : Nat) (s_glyphs : Nat) (s_glyphCount : Int32) (s_dots : Nat) (s_used : Int32) (s_wishes : Nat) (s_pins : Nat) (s_id : Int32) (s_code : Int32) (s_chosen : Nat) (s_chosenKnown : Int32) (s_left : Nat) (s_coming : Nat) (x : Int32) (y : Int32) (r : Int32) (u : Unit) : Prop := match u with
  | _ => r = 0
abbrev q_c_anyLeft_0 (dC : Nat → ClassId) (dI : Nat → Nat → Nat) (h0 : Nat) (s_ids : Nat) (s_attributes : Nat) (s_permanent : Nat) (s_glyphs : Nat) (s_glyphCount : Int32) (s_dots : Nat) (s_used : Int32) (s_wishes : Nat) (s_pins : Nat) (s_id : Int32) (s_code : Int32) (s_chosen : Nat) (s_chosenKnown : Int32) (s_left : Nat) (s_coming : Nat) (x : Int32) (y : Int32) (A : Nat → Prop) : Array Value → State → Outcome → State → Prop := va_Qi (po_c_anyLeft_0 h0 s_ids s_attributes s_permanent s_glyphs s_glyphCount s_dots s_used s_wishes s_pins s_id s_code s_chosen s_chosenKnown s_left s_coming x y) (at_c_anyLeft_0 dC dI h0 s_ids s_attributes s_permanent s_glyphs s_glyphCount s_dots s_used s_wishes s_pins s_id s_code s_chosen s_chosenKnown s_left s_coming x y A) A
abbrev rm_c_anyLeft_0 : Room := { frames := 0, cells := 0, slots := 0, locals := 0 }
set_option maxHeartbeats 4000000 in
set_option maxRecDepth 100000 in
theorem c_anyLeft_0 (l : Launch) (dC : Nat → ClassId) (dI : Nat → Nat → Nat) (tt : Nat → Nat) (h0 : Nat) (s_ids : Nat) (s_attributes : Nat) (s_permanent : Nat) (s_glyphs : Nat) (s_glyphCount : Int32) (s_dots : Nat) (s_used : Int32) (s_wishes : Nat) (s_pins : Nat) (s_id : Int32) (s_code : Int32) (s_chosen : Nat) (s_chosenKnown : Int32) (s_left : Nat) (s_coming : Nat) (x : Int32) (y : Int32) (sz : Nat)  : Met l y_FontShelf_anyLeft w_FontShelf_anyLeft rm_c_anyLeft_0 (va_Pc [.ref h0, .int x, .int y] (fun U => U.heap.size = sz ∧ va_P (dC, dI) vcl [(h0, .inr (3, [.ref s_ids, .ref s_attributes, .ref s_permanent, .int 0, .ref s_glyphs, .int s_glyphCount, .ref s_dots, .int s_used, .ref s_wishes, .ref s_pins, .int s_id, .int s_code, .ref s_chosen, .int s_chosenKnown, .ref s_left, .ref s_coming]))] U.heap ∧ va_K (dC, dI) vcl [] U ∧ va_D (fun _ => True) [(h0, .inr (3, [.ref s_ids, .ref s_attributes, .ref s_permanent, .int 0, .ref s_glyphs, .int s_glyphCount, .ref s_dots, .int s_used, .ref s_wishes, .ref s_pins, .int s_id, .int s_code, .ref s_chosen, .int s_chosenKnown, .ref s_left, .ref s_coming]))] ∧ SF tt (va_A [(h0, .inr (3, [.ref s_ids, .ref s_attributes, .ref s_permanent, .int 0, .ref s_glyphs, .int s_glyphCount, .ref s_dots, .int s_used, .ref s_wishes, .ref s_pins, .int s_id, .int s_code, .ref s_chosen, .int s_chosenKnown, .ref s_left, .ref s_coming]))] sz) U U.heap)) (q_c_anyLeft_0 dC dI h0 s_ids s_attributes s_permanent s_glyphs s_glyphCount s_dots s_used s_wishes s_pins s_id s_code s_chosen s_chosenKnown s_left s_coming x y (va_A [(h0, .inr (3, [.ref s_ids, .ref s_attributes, .ref s_permanent, .int 0, .ref s_glyphs, .int s_glyphCount, .ref s_dots, .int s_used, .ref s_wishes, .ref s_pins, .int s_id, .int s_code, .ref s_chosen, .int s_chosenKnown, .ref s_left, .ref s_coming]))] sz)) 0 0 (va_A [(h0, .inr (3, [.ref s_ids, .ref s_attributes, .ref s_permanent, .int 0, .ref s_glyphs, .int s_glyphCount, .ref s_dots, .int s_used, .ref s_wishes, .ref s_pins, .int s_id, .int s_code, .ref s_chosen, .int s_chosenKnown, .ref s_left, .ref s_coming]))] sz) := by
  refine Met.ofW (cc := b_FontShelf_anyLeft) (maxL := 4) (ret := (some .boolean)) (by decide) rfl ?_
  intro p e s m args below meth c s₁ B hml hv
  obtain ⟨rfl, hsz, hP, hK, hD0, hF⟩ := hv
  have hx := B.exec
  have hb := B.bytes
  have hr := B.returns
  have hwd : ∀ w ∈ gT, w.before _ s = true := fun w h => atoms_spec (ws := w_FontShelf_anyLeft) B.pre w (List.mem_cons_of_mem _ h)
  have hown : s.vm.findClass R_FontShelf = some m.cls := findClass_of_methodNamed B.named
  have hlocks := B.notSynchronized
  subst hsz
  have hD := hD0.self (sz := s.heap.size)
  generalize hAe : va_A [(h0, .inr (3, [.ref s_ids, .ref s_attributes, .ref s_permanent, .int 0, .ref s_glyphs, .int s_glyphCount, .ref s_dots, .int s_used, .ref s_wishes, .ref s_pins, .int s_id, .int s_code, .ref s_chosen, .int s_chosenKnown, .ref s_left, .ref s_coming]))] s.heap.size = A at hD hF ⊢
  have hA : ∀ q : Nat, s.heap.size ≤ q → A q := fun q h => by rw [← hAe]; exact Or.inr h
  have hS : va_S A s.heap s.heap [] := va_S.rf
  have hP : va_P (dC, dI) vcl [(h0, .inr (3, [.ref s_ids, .ref s_attributes, .ref s_permanent, .int 0, .ref s_glyphs, .int s_glyphCount, .ref s_dots, .int s_used, .ref s_wishes, .ref s_pins, .int s_id, .int s_code, .ref s_chosen, .int s_chosenKnown, .ref s_left, .ref s_coming]))] s.heap := hP
  have hl := lv_entry ([.ref h0, .int x, .int y]) (n := 4) (Nat.le_of_ble_eq_true rfl)
  rw [lg_entry_eq]
  generalize (lg_sl ([.ref h0, .int x, .int y]) ++ List.replicate (4 - (lg_sl ([.ref h0, .int x, .int y])).length) Slot.unset).toArray = ls at hl ⊢
  have hl : lv_has ls 4 [(0, .ref h0), (1, .int x), (2, .int y)] := hl
  refine lv_iconst (v := 0) hx hb d_FontShelf_anyLeft_0 (by decide) ?_
  refine lv_istore_n (lv' := [(3, .int 0), (0, .ref h0), (1, .int x), (2, .int y)]) hx hb d_FontShelf_anyLeft_1 rfl hl (by decide) rfl ?_
  clear hl
  intro ls hl
  refine lv_iload_n hx hb d_FontShelf_anyLeft_2 rfl (lv_at hl 0 rfl) ?_
  refine lv_aload_n hx hb d_FontShelf_anyLeft_3 rfl (lv_at hl 1 rfl) ?_
  refine va_get (D := (dC, dI)) (ci := 3) (v := .int 0) (C := R_FontShelf) (T := F_FontShelf) (N := 16) hx hb hwd i_FontShelf hown hK hP 0 rfl rfl 3 (by decide) (hwd _ wd_2_101) (fun _ h9 => h9) rfl d_FontShelf_anyLeft_4 ?_
  refine lv_icmp_ge (tgt := 46) hx hb d_FontShelf_anyLeft_7 (by decide) (fun _ => ?_) (fun c7 => absurd (by decide) c7)
  refine lv_iconst (v := 0) hx hb d_FontShelf_anyLeft_46 (by decide) ?_
  have hP9 := hP.sub (ws' := [(h0, .inr (3, [.ref s_ids, .ref s_attributes, .ref s_permanent, .int 0, .ref s_glyphs, .int s_glyphCount, .ref s_dots, .int s_used, .ref s_wishes, .ref s_pins, .int s_id, .int s_code, .ref s_chosen, .int s_chosenKnown, .ref s_left, .ref s_coming]))]) [0] rfl
  have hD9 := hD.sub (ws' := [(h0, .inr (3, [.ref s_ids, .ref s_attributes, .ref s_permanent, .int 0, .ref s_glyphs, .int s_glyphCount, .ref s_dots, .int s_used, .ref s_wishes, .ref s_pins, .int s_id, .int s_code, .ref s_chosen, .int s_chosenKnown, .ref s_left, .ref s_coming]))]) [0] (by decide) rfl
  have hK9 := hK.sub (tys' := []) [] rfl
  exact W.zret (v := 0) hx hb hr (by decide) (fun t ht hW => ⟨⟨0, (), rfl, (show (0 : Int32) = 0 from (by first | exact trivial | rfl | simp [*])), by rw [ht]; exact hP9, va_K.moved hW.alike hK9, hD9⟩, hS.F ht⟩) hS.2.2 d_FontShelf_anyLeft_47

abbrev at_c_lastLeft_0 (dC : Nat → ClassId) (dI : Nat → Nat → Nat) (h0 : Nat) (s_ids : Nat) (s_attributes : Nat) (s_permanent : Nat) (s_glyphs : Nat) (s_glyphCount : Int32) (s_dots : Nat) (s_used : Int32) (s_wishes : Nat) (s_pins : Nat) (s_id : Int32) (s_code : Int32) (s_chosen : Nat) (s_chosenKnown : Int32) (s_left : Nat) (s_coming : Nat) (A : Nat → Prop) (u : Unit) (t : State) : Prop := match u with
  | _ => va_P (dC, dI) vcl [(h0, .inr (3, [.ref s_ids, .ref s_attributes, .ref s_permanent, .int 0, .ref s_glyphs, .int s_glyphCount, .ref s_dots, .int s_used, .ref s_wishes, .ref s_pins, .int s_id, .int s_code, .ref s_chosen, .int s_chosenKnown, .ref s_left, .ref s_coming]))] t.heap ∧ va_K (dC, dI) vcl [] t ∧ va_D A [(h0, .inr (3, [.ref s_ids, .ref s_attributes, .ref s_permanent, .int 0, .ref s_glyphs, .int s_glyphCount, .ref s_dots, .int s_used, .ref s_wishes, .ref s_pins, .int s_id, .int s_code, .ref s_chosen, .int s_chosenKnown, .ref s_left, .ref s_coming]))]
abbrev po_c_lastLeft_0 (h0 : Nat) (s_ids : Nat) (s_attributes : Nat) (s_permanent : Nat) (s_glyphs : Nat) (s_glyphCount : Int32) (s_dots : Nat) (s_used : Int32) (s_wishes : Nat) (s_pins : Nat) (s_id : Int32) (s_code : Int32) (s_chosen : Nat) (s_chosenKnown : Int32) (s_left : Nat) (s_coming : Nat) (r : Int32) (u : Unit) : Prop := match u with
  | _ => r = (-1)
abbrev q_c_lastLeft_0 (dC : Nat → ClassId) (dI : Nat → Nat → Nat) (h0 : Nat) (s_ids : Nat) (s_attributes : Nat) (s_permanent : Nat) (s_glyphs : Nat) (s_glyphCount : Int32) (s_dots : Nat) (s_used : Int32) (s_wishes : Nat) (s_pins : Nat) (s_id : Int32) (s_code : Int32) (s_chosen : Nat) (s_chosenKnown : Int32) (s_left : Nat) (s_coming : Nat) (A : Nat → Prop) : Array Value → State → Outcome → State → Prop := va_Qi (po_c_lastLeft_0 h0 s_ids s_attributes s_permanent s_glyphs s_glyphCount s_dots s_used s_wishes s_pins s_id s_code s_chosen s_chosenKnown s_left s_coming) (at_c_lastLeft_0 dC dI h0 s_ids s_attributes s_permanent s_glyphs s_glyphCount s_dots s_used s_wishes s_pins s_id s_code s_chosen s_chosenKnown s_left s_coming A) A
abbrev rm_c_lastLeft_0 : Room := { frames := 0, cells := 0, slots := 0, locals := 0 }
set_option maxHeartbeats 4000000 in
set_option maxRecDepth 100000 in
theorem c_lastLeft_0 (l : Launch) (dC : Nat → ClassId) (dI : Nat → Nat → Nat) (tt : Nat → Nat) (h0 : Nat) (s_ids : Nat) (s_attributes : Nat) (s_permanent : Nat) (s_glyphs : Nat) (s_glyphCount : Int32) (s_dots : Nat) (s_used : Int32) (s_wishes : Nat) (s_pins : Nat) (s_id : Int32) (s_code : Int32) (s_chosen : Nat) (s_chosenKnown : Int32) (s_left : Nat) (s_coming : Nat) (sz : Nat)  : Met l y_FontShelf_lastLeft w_FontShelf_lastLeft rm_c_lastLeft_0 (va_Pc [.ref h0] (fun U => U.heap.size = sz ∧ va_P (dC, dI) vcl [(h0, .inr (3, [.ref s_ids, .ref s_attributes, .ref s_permanent, .int 0, .ref s_glyphs, .int s_glyphCount, .ref s_dots, .int s_used, .ref s_wishes, .ref s_pins, .int s_id, .int s_code, .ref s_chosen, .int s_chosenKnown, .ref s_left, .ref s_coming]))] U.heap ∧ va_K (dC, dI) vcl [] U ∧ va_D (fun _ => True) [(h0, .inr (3, [.ref s_ids, .ref s_attributes, .ref s_permanent, .int 0, .ref s_glyphs, .int s_glyphCount, .ref s_dots, .int s_used, .ref s_wishes, .ref s_pins, .int s_id, .int s_code, .ref s_chosen, .int s_chosenKnown, .ref s_left, .ref s_coming]))] ∧ SF tt (va_A [(h0, .inr (3, [.ref s_ids, .ref s_attributes, .ref s_permanent, .int 0, .ref s_glyphs, .int s_glyphCount, .ref s_dots, .int s_used, .ref s_wishes, .ref s_pins, .int s_id, .int s_code, .ref s_chosen, .int s_chosenKnown, .ref s_left, .ref s_coming]))] sz) U U.heap)) (q_c_lastLeft_0 dC dI h0 s_ids s_attributes s_permanent s_glyphs s_glyphCount s_dots s_used s_wishes s_pins s_id s_code s_chosen s_chosenKnown s_left s_coming (va_A [(h0, .inr (3, [.ref s_ids, .ref s_attributes, .ref s_permanent, .int 0, .ref s_glyphs, .int s_glyphCount, .ref s_dots, .int s_used, .ref s_wishes, .ref s_pins, .int s_id, .int s_code, .ref s_chosen, .int s_chosenKnown, .ref s_left, .ref s_coming]))] sz)) 0 0 (va_A [(h0, .inr (3, [.ref s_ids, .ref s_attributes, .ref s_permanent, .int 0, .ref s_glyphs, .int s_glyphCount, .ref s_dots, .int s_used, .ref s_wishes, .ref s_pins, .int s_id, .int s_code, .ref s_chosen, .int s_chosenKnown, .ref s_left, .ref s_coming]))] sz) := by
  refine Met.ofW (cc := b_FontShelf_lastLeft) (maxL := 4) (ret := (some .int)) (by decide) rfl ?_
  intro p e s m args below meth c s₁ B hml hv
  obtain ⟨rfl, hsz, hP, hK, hD0, hF⟩ := hv
  have hx := B.exec
  have hb := B.bytes
  have hr := B.returns
  have hwd : ∀ w ∈ gT, w.before _ s = true := fun w h => atoms_spec (ws := w_FontShelf_lastLeft) B.pre w (List.mem_cons_of_mem _ h)
  have hown : s.vm.findClass R_FontShelf = some m.cls := findClass_of_methodNamed B.named
  have hlocks := B.notSynchronized
  subst hsz
  have hD := hD0.self (sz := s.heap.size)
  generalize hAe : va_A [(h0, .inr (3, [.ref s_ids, .ref s_attributes, .ref s_permanent, .int 0, .ref s_glyphs, .int s_glyphCount, .ref s_dots, .int s_used, .ref s_wishes, .ref s_pins, .int s_id, .int s_code, .ref s_chosen, .int s_chosenKnown, .ref s_left, .ref s_coming]))] s.heap.size = A at hD hF ⊢
  have hA : ∀ q : Nat, s.heap.size ≤ q → A q := fun q h => by rw [← hAe]; exact Or.inr h
  have hS : va_S A s.heap s.heap [] := va_S.rf
  have hP : va_P (dC, dI) vcl [(h0, .inr (3, [.ref s_ids, .ref s_attributes, .ref s_permanent, .int 0, .ref s_glyphs, .int s_glyphCount, .ref s_dots, .int s_used, .ref s_wishes, .ref s_pins, .int s_id, .int s_code, .ref s_chosen, .int s_chosenKnown, .ref s_left, .ref s_coming]))] s.heap := hP
  have hl := lv_entry ([.ref h0]) (n := 4) (Nat.le_of_ble_eq_true rfl)
  rw [lg_entry_eq]
  generalize (lg_sl ([.ref h0]) ++ List.replicate (4 - (lg_sl ([.ref h0])).length) Slot.unset).toArray = ls at hl ⊢
  have hl : lv_has ls 4 [(0, .ref h0)] := hl
  refine lv_iconst (v := (-1)) hx hb d_FontShelf_lastLeft_0 (by decide) ?_
  refine lv_istore_n (lv' := [(1, .int (-1)), (0, .ref h0)]) hx hb d_FontShelf_lastLeft_1 rfl hl (by decide) rfl ?_
  clear hl
  intro ls hl
  refine lv_iconst (v := (-1)) hx hb d_FontShelf_lastLeft_2 (by decide) ?_
  refine lv_istore_n (lv' := [(2, .int (-1)), (1, .int (-1)), (0, .ref h0)]) hx hb d_FontShelf_lastLeft_3 rfl hl (by decide) rfl ?_
  clear hl
  intro ls hl
  refine lv_iconst (v := 0) hx hb d_FontShelf_lastLeft_4 (by decide) ?_
  refine lv_istore_n (lv' := [(3, .int 0), (2, .int (-1)), (1, .int (-1)), (0, .ref h0)]) hx hb d_FontShelf_lastLeft_5 rfl hl (by decide) rfl ?_
  clear hl
  intro ls hl
  refine lv_iload_n hx hb d_FontShelf_lastLeft_6 rfl (lv_at hl 0 rfl) ?_
  refine lv_aload_n hx hb d_FontShelf_lastLeft_7 rfl (lv_at hl 3 rfl) ?_
  refine va_get (D := (dC, dI)) (ci := 3) (v := .int 0) (C := R_FontShelf) (T := F_FontShelf) (N := 16) hx hb hwd i_FontShelf hown hK hP 0 rfl rfl 3 (by decide) (hwd _ wd_2_101) (fun _ h9 => h9) rfl d_FontShelf_lastLeft_8 ?_
  refine lv_icmp_ge (tgt := 55) hx hb d_FontShelf_lastLeft_11 (by decide) (fun _ => ?_) (fun c11 => absurd (by decide) c11)
  refine lv_iload_n hx hb d_FontShelf_lastLeft_55 rfl (lv_at hl 1 rfl) ?_
  refine lv_iconst (v := (-1)) hx hb d_FontShelf_lastLeft_56 (by decide) ?_
  refine lv_icmp_ne (tgt := 64) hx hb d_FontShelf_lastLeft_57 (by decide) (fun c57 => absurd c57 (by decide)) (fun _ => ?_)
  refine lv_iload_n hx hb d_FontShelf_lastLeft_60 rfl (lv_at hl 2 rfl) ?_
  refine lv_goto (tgt := 65) hx hb d_FontShelf_lastLeft_61 (by decide) ?_
  have hP9 := hP.sub (ws' := [(h0, .inr (3, [.ref s_ids, .ref s_attributes, .ref s_permanent, .int 0, .ref s_glyphs, .int s_glyphCount, .ref s_dots, .int s_used, .ref s_wishes, .ref s_pins, .int s_id, .int s_code, .ref s_chosen, .int s_chosenKnown, .ref s_left, .ref s_coming]))]) [0] rfl
  have hD9 := hD.sub (ws' := [(h0, .inr (3, [.ref s_ids, .ref s_attributes, .ref s_permanent, .int 0, .ref s_glyphs, .int s_glyphCount, .ref s_dots, .int s_used, .ref s_wishes, .ref s_pins, .int s_id, .int s_code, .ref s_chosen, .int s_chosenKnown, .ref s_left, .ref s_coming]))]) [0] (by decide) rfl
  have hK9 := hK.sub (tys' := []) [] rfl
  exact W.iret (v := (-1)) hx hb hr (fun t ht hW => ⟨⟨(-1), (), rfl, (show ((-1) : Int32) = (-1) from (by first | exact trivial | rfl | simp [*])), by rw [ht]; exact hP9, va_K.moved hW.alike hK9, hD9⟩, hS.F ht⟩) hS.2.2 d_FontShelf_lastLeft_65

abbrev at_c_bestPitch_0 (dC : Nat → ClassId) (dI : Nat → Nat → Nat) (h0 : Nat) (s_ids : Nat) (s_attributes : Nat) (s_permanent : Nat) (s_glyphs : Nat) (s_glyphCount : Int32) (s_dots : Nat) (s_used : Int32) (s_wishes : Nat) (s_pins : Nat) (s_id : Int32) (s_code : Int32) (s_chosen : Nat) (s_chosenKnown : Int32) (s_left : Nat) (s_coming : Nat) (x : Int32) (A : Nat → Prop) (u : Unit) (t : State) : Prop := match u with
  | _ => va_P (dC, dI) vcl [(h0, .inr (3, [.ref s_ids, .ref s_attributes, .ref s_permanent, .int 0, .ref s_glyphs, .int s_glyphCount, .ref s_dots, .int s_used, .ref s_wishes, .ref s_pins, .int s_id, .int s_code, .ref s_chosen, .int s_chosenKnown, .ref s_left, .ref s_coming]))] t.heap ∧ va_K (dC, dI) vcl [] t ∧ va_D A [(h0, .inr (3, [.ref s_ids, .ref s_attributes, .ref s_permanent, .int 0, .ref s_glyphs, .int s_glyphCount, .ref s_dots, .int s_used, .ref s_wishes, .ref s_pins, .int s_id, .int s_code, .ref s_chosen, .int s_chosenKnown, .ref s_left, .ref s_coming]))]
abbrev po_c_bestPitch_0 (h0 : Nat) (s_ids : Nat) (s_attributes : Nat) (s_permanent : Nat) (s_glyphs : Nat) (s_glyphCount : Int32) (s_dots : Nat) (s_used : Int32) (s_wishes : Nat) (s_pins : Nat) (s_id : Int32) (s_code : Int32) (s_chosen : Nat) (s_chosenKnown : Int32) (s_left : Nat) (s_coming : Nat) (x : Int32) (r : Int32) (u : Unit) : Prop := match u with
  | _ => r = (-1)
abbrev q_c_bestPitch_0 (dC : Nat → ClassId) (dI : Nat → Nat → Nat) (h0 : Nat) (s_ids : Nat) (s_attributes : Nat) (s_permanent : Nat) (s_glyphs : Nat) (s_glyphCount : Int32) (s_dots : Nat) (s_used : Int32) (s_wishes : Nat) (s_pins : Nat) (s_id : Int32) (s_code : Int32) (s_chosen : Nat) (s_chosenKnown : Int32) (s_left : Nat) (s_coming : Nat) (x : Int32) (A : Nat → Prop) : Array Value → State → Outcome → State → Prop := va_Qi (po_c_bestPitch_0 h0 s_ids s_attributes s_permanent s_glyphs s_glyphCount s_dots s_used s_wishes s_pins s_id s_code s_chosen s_chosenKnown s_left s_coming x) (at_c_bestPitch_0 dC dI h0 s_ids s_attributes s_permanent s_glyphs s_glyphCount s_dots s_used s_wishes s_pins s_id s_code s_chosen s_chosenKnown s_left s_coming x A) A
abbrev rm_c_bestPitch_0 : Room := { frames := 1, cells := 0, slots := 0, locals := 25 }
set_option maxHeartbeats 4000000 in
set_option maxRecDepth 100000 in
theorem c_bestPitch_0 (l : Launch) (dC : Nat → ClassId) (dI : Nat → Nat → Nat) (tt : Nat → Nat) (h0 : Nat) (s_ids : Nat) (s_attributes : Nat) (s_permanent : Nat) (s_glyphs : Nat) (s_glyphCount : Int32) (s_dots : Nat) (s_used : Int32) (s_wishes : Nat) (s_pins : Nat) (s_id : Int32) (s_code : Int32) (s_chosen : Nat) (s_chosenKnown : Int32) (s_left : Nat) (s_coming : Nat) (x : Int32) (sz : Nat)  : Met l y_FontShelf_bestPitch w_FontShelf_bestPitch rm_c_bestPitch_0 (va_Pc [.ref h0, .int x] (fun U => U.heap.size = sz ∧ va_P (dC, dI) vcl [(h0, .inr (3, [.ref s_ids, .ref s_attributes, .ref s_permanent, .int 0, .ref s_glyphs, .int s_glyphCount, .ref s_dots, .int s_used, .ref s_wishes, .ref s_pins, .int s_id, .int s_code, .ref s_chosen, .int s_chosenKnown, .ref s_left, .ref s_coming]))] U.heap ∧ va_K (dC, dI) vcl [] U ∧ va_D (fun _ => True) [(h0, .inr (3, [.ref s_ids, .ref s_attributes, .ref s_permanent, .int 0, .ref s_glyphs, .int s_glyphCount, .ref s_dots, .int s_used, .ref s_wishes, .ref s_pins, .int s_id, .int s_code, .ref s_chosen, .int s_chosenKnown, .ref s_left, .ref s_coming]))] ∧ SF tt (va_A [(h0, .inr (3, [.ref s_ids, .ref s_attributes, .ref s_permanent, .int 0, .ref s_glyphs, .int s_glyphCount, .ref s_dots, .int s_used, .ref s_wishes, .ref s_pins, .int s_id, .int s_code, .ref s_chosen, .int s_chosenKnown, .ref s_left, .ref s_coming]))] sz) U U.heap)) (q_c_bestPitch_0 dC dI h0 s_ids s_attributes s_permanent s_glyphs s_glyphCount s_dots s_used s_wishes s_pins s_id s_code s_chosen s_chosenKnown s_left s_coming x (va_A [(h0, .inr (3, [.ref s_ids, .ref s_attributes, .ref s_permanent, .int 0, .ref s_glyphs, .int s_glyphCount, .ref s_dots, .int s_used, .ref s_wishes, .ref s_pins, .int s_id, .int s_code, .ref s_chosen, .int s_chosenKnown, .ref s_left, .ref s_coming]))] sz)) 0 0 (va_A [(h0, .inr (3, [.ref s_ids, .ref s_attributes, .ref s_permanent, .int 0, .ref s_glyphs, .int s_glyphCount, .ref s_dots, .int s_used, .ref s_wishes, .ref s_pins, .int s_id, .int s_code, .ref s_chosen, .int s_chosenKnown, .ref s_left, .ref s_coming]))] sz) := by
  refine Met.ofW (cc := b_FontShelf_bestPitch) (maxL := 3) (ret := (some .int)) (by decide) rfl ?_
  intro p e s m args below meth c s₁ B hml hv
  obtain ⟨rfl, hsz, hP, hK, hD0, hF⟩ := hv
  have hx := B.exec
  have hb := B.bytes
  have hr := B.returns
  have hwd : ∀ w ∈ gT, w.before _ s = true := fun w h => atoms_spec (ws := w_FontShelf_bestPitch) B.pre w (List.mem_cons_of_mem _ h)
  have hown : s.vm.findClass R_FontShelf = some m.cls := findClass_of_methodNamed B.named
  have hlocks := B.notSynchronized
  subst hsz
  have hD := hD0.self (sz := s.heap.size)
  generalize hAe : va_A [(h0, .inr (3, [.ref s_ids, .ref s_attributes, .ref s_permanent, .int 0, .ref s_glyphs, .int s_glyphCount, .ref s_dots, .int s_used, .ref s_wishes, .ref s_pins, .int s_id, .int s_code, .ref s_chosen, .int s_chosenKnown, .ref s_left, .ref s_coming]))] s.heap.size = A at hD hF ⊢
  have hA : ∀ q : Nat, s.heap.size ≤ q → A q := fun q h => by rw [← hAe]; exact Or.inr h
  have hS : va_S A s.heap s.heap [] := va_S.rf
  have hP : va_P (dC, dI) vcl [(h0, .inr (3, [.ref s_ids, .ref s_attributes, .ref s_permanent, .int 0, .ref s_glyphs, .int s_glyphCount, .ref s_dots, .int s_used, .ref s_wishes, .ref s_pins, .int s_id, .int s_code, .ref s_chosen, .int s_chosenKnown, .ref s_left, .ref s_coming]))] s.heap := hP
  have hl := lv_entry ([.ref h0, .int x]) (n := 3) (Nat.le_of_ble_eq_true rfl)
  rw [lg_entry_eq]
  generalize (lg_sl ([.ref h0, .int x]) ++ List.replicate (3 - (lg_sl ([.ref h0, .int x])).length) Slot.unset).toArray = ls at hl ⊢
  have hl : lv_has ls 3 [(0, .ref h0), (1, .int x)] := hl
  refine lv_aload_n hx hb d_FontShelf_bestPitch_0 rfl (lv_at hl 0 rfl) ?_
  refine lv_iconst (v := 2) hx hb d_FontShelf_bestPitch_1 (by decide) ?_
  refine lv_iload_n hx hb d_FontShelf_bestPitch_2 rfl (lv_at hl 1 rfl) ?_
  have hPc := hP.sub (ws' := [(h0, .inr (3, [.ref s_ids, .ref s_attributes, .ref s_permanent, .int 0, .ref s_glyphs, .int s_glyphCount, .ref s_dots, .int s_used, .ref s_wishes, .ref s_pins, .int s_id, .int s_code, .ref s_chosen, .int s_chosenKnown, .ref s_left, .ref s_coming]))]) [0] rfl
  have hDc := hD.sub (ws' := [(h0, .inr (3, [.ref s_ids, .ref s_attributes, .ref s_permanent, .int 0, .ref s_glyphs, .int s_glyphCount, .ref s_dots, .int s_used, .ref s_wishes, .ref s_pins, .int s_id, .int s_code, .ref s_chosen, .int s_chosenKnown, .ref s_left, .ref s_coming]))]) [0] (by decide) rfl
  have hKc := hK.sub (tys' := []) [] rfl
  have hFc := va_free (wc := [(h0, .inr (3, [.ref s_ids, .ref s_attributes, .ref s_permanent, .int 0, .ref s_glyphs, .int s_glyphCount, .ref s_dots, .int s_used, .ref s_wishes, .ref s_pins, .int s_id, .int s_code, .ref s_chosen, .int s_chosenKnown, .ref s_left, .ref s_coming]))]) hD hS hA [0] rfl
  refine va_calli (va_runV (As := [.int 2, .int x]) (rest := []) ⟨hx, hb, hml, hown, hwd⟩ (c_least_0 l dC dI tt h0 s_ids s_attributes s_permanent s_glyphs s_glyphCount s_dots s_used s_wishes s_pins s_id s_code s_chosen s_chosenKnown s_left s_coming 2 x s.heap.size ) (cwV 2 hwd (gV gd_FontShelf_least wd_2_69 wd_2_71 ws_12 wd_1_5) rfl rfl rfl (by decide +kernel) ⟨Nat.le_of_ble_eq_true rfl, Nat.le_of_ble_eq_true rfl⟩) ⟨fun a U g mk q => by obtain ⟨q0, q1, qP, qK, qD, qF⟩ := q; exact ⟨q0, q1, qP, va_K.moved (u := U) (U := U.calling g mk a) (Vm.Alike.refl U.vm) qK, qD, SF.same (u := U) (U := U.calling g mk a) rfl qF⟩, va_recv hKc hPc (ci := 3) (q0 := 0) rfl rfl, fun U hU hW => ⟨rfl, by rw [hU], by rw [hU]; exact hPc, va_K.moved hW.alike hKc, hDc.weaken (fun _ _ _ _ => trivial), by rw [hU]; exact SF.narrow (SF.moved hW (SF.kept hF (fun a h1 h2 => hS.2.1 a h1 h2))) hFc⟩⟩ rfl rfl hl.1 rfl (lv_room (Nat.le_of_ble_eq_true rfl)) d_FontShelf_bestPitch_3 ⟨Nat.le_of_ble_eq_true rfl, Nat.le_of_ble_eq_true rfl⟩) hS (fun q _ h => hFc q h) hFc ?_
  clear hPc hDc hKc hS
  intro r_1 u_2 t H1 locs ht hvm hw hB hz1 hk1 hS
  obtain ⟨hP1, hK1, hD1⟩ := hB
  rw [ht] at hP1
  have hK1 := va_K.moved hvm.symm hK1
  try dsimp only at hw
  have hJ := va_join (wr := []) (w1 := [(h0, .inr (3, [.ref s_ids, .ref s_attributes, .ref s_permanent, .int 0, .ref s_glyphs, .int s_glyphCount, .ref s_dots, .int s_used, .ref s_wishes, .ref s_pins, .int s_id, .int s_code, .ref s_chosen, .int s_chosenKnown, .ref s_left, .ref s_coming]))]) hP hD [0] [] rfl rfl (by decide) (by decide) hk1 hFc hP1 hD1
  clear hP hD hk1 hFc hP1 hD1 hz1
  obtain ⟨hP, hD⟩ := hJ
  clear hK1 ht hvm
  generalize H1 = H at hP hS ⊢
  replace hP : va_P (dC, dI) vcl [(h0, .inr (3, [.ref s_ids, .ref s_attributes, .ref s_permanent, .int 0, .ref s_glyphs, .int s_glyphCount, .ref s_dots, .int s_used, .ref s_wishes, .ref s_pins, .int s_id, .int s_code, .ref s_chosen, .int s_chosenKnown, .ref s_left, .ref s_coming]))] H := hP
  replace hD : va_D A [(h0, .inr (3, [.ref s_ids, .ref s_attributes, .ref s_permanent, .int 0, .ref s_glyphs, .int s_glyphCount, .ref s_dots, .int s_used, .ref s_wishes, .ref s_pins, .int s_id, .int s_code, .ref s_chosen, .int s_chosenKnown, .ref s_left, .ref s_coming]))] := hD
  obtain rfl := hw
  refine lv_istore_n (lv' := [(2, .int (-1)), (0, .ref h0), (1, .int x)]) hx hb d_FontShelf_bestPitch_6 rfl hl (by decide) rfl ?_
  clear hl
  intro ls hl
  refine lv_iload_n hx hb d_FontShelf_bestPitch_7 rfl (lv_at hl 0 rfl) ?_
  refine lv_iconst (v := (-1)) hx hb d_FontShelf_bestPitch_8 (by decide) ?_
  refine lv_icmp_ne (tgt := 25) hx hb d_FontShelf_bestPitch_9 (by decide) (fun c9 => absurd c9 (by decide)) (fun _ => ?_)
  refine lv_aload_n hx hb d_FontShelf_bestPitch_12 rfl (lv_at hl 1 rfl) ?_
  refine lv_iconst (v := 2) hx hb d_FontShelf_bestPitch_13 (by decide) ?_
  refine va_gets hx hb (SF_p3 hF).1 hS hown (hwd _ wd_2_73) (fun _ h9 => h9) d_FontShelf_bestPitch_14 ?_
  refine lv_iconst (v := 2) hx hb d_FontShelf_bestPitch_17 (by decide) ?_
  refine va_ti (v := .int 57600) hx hb (SF_p3 hF).2 hS (show ¬ ((2 : Int32) < 0 ∨ 7 ≤ (2 : Int32).toNatClampNeg) by decide) rfl d_FontShelf_bestPitch_18 ?_
  have hPc := hP.sub (ws' := [(h0, .inr (3, [.ref s_ids, .ref s_attributes, .ref s_permanent, .int 0, .ref s_glyphs, .int s_glyphCount, .ref s_dots, .int s_used, .ref s_wishes, .ref s_pins, .int s_id, .int s_code, .ref s_chosen, .int s_chosenKnown, .ref s_left, .ref s_coming]))]) [0] rfl
  have hDc := hD.sub (ws' := [(h0, .inr (3, [.ref s_ids, .ref s_attributes, .ref s_permanent, .int 0, .ref s_glyphs, .int s_glyphCount, .ref s_dots, .int s_used, .ref s_wishes, .ref s_pins, .int s_id, .int s_code, .ref s_chosen, .int s_chosenKnown, .ref s_left, .ref s_coming]))]) [0] (by decide) rfl
  have hKc := hK.sub (tys' := []) [] rfl
  have hFc := va_free (wc := [(h0, .inr (3, [.ref s_ids, .ref s_attributes, .ref s_permanent, .int 0, .ref s_glyphs, .int s_glyphCount, .ref s_dots, .int s_used, .ref s_wishes, .ref s_pins, .int s_id, .int s_code, .ref s_chosen, .int s_chosenKnown, .ref s_left, .ref s_coming]))]) hD hS hA [0] rfl
  refine va_calli (va_runV (As := [.int 2, .int 57600]) (rest := []) ⟨hx, hb, hml, hown, hwd⟩ (c_greatest_0 l dC dI tt h0 s_ids s_attributes s_permanent s_glyphs s_glyphCount s_dots s_used s_wishes s_pins s_id s_code s_chosen s_chosenKnown s_left s_coming 2 57600 H.size ) (cwV 2 hwd (gV gd_FontShelf_greatest wd_2_75 wd_2_77 ws_13 wd_1_5) rfl rfl rfl (by decide +kernel) ⟨Nat.le_of_ble_eq_true rfl, Nat.le_of_ble_eq_true rfl⟩) ⟨fun a U g mk q => by obtain ⟨q0, q1, qP, qK, qD, qF⟩ := q; exact ⟨q0, q1, qP, va_K.moved (u := U) (U := U.calling g mk a) (Vm.Alike.refl U.vm) qK, qD, SF.same (u := U) (U := U.calling g mk a) rfl qF⟩, va_recv hKc hPc (ci := 3) (q0 := 0) rfl rfl, fun U hU hW => ⟨rfl, by rw [hU], by rw [hU]; exact hPc, va_K.moved hW.alike hKc, hDc.weaken (fun _ _ _ _ => trivial), by rw [hU]; exact SF.narrow (SF.moved hW (SF.kept hF (fun a h1 h2 => hS.2.1 a h1 h2))) hFc⟩⟩ rfl rfl hl.1 rfl (lv_room (Nat.le_of_ble_eq_true rfl)) d_FontShelf_bestPitch_19 ⟨Nat.le_of_ble_eq_true rfl, Nat.le_of_ble_eq_true rfl⟩) hS (fun q _ h => hFc q h) hFc ?_
  clear hPc hDc hKc hS
  intro r_3 u_4 t H1 locs ht hvm hw hB hz1 hk1 hS
  obtain ⟨hP1, hK1, hD1⟩ := hB
  rw [ht] at hP1
  have hK1 := va_K.moved hvm.symm hK1
  try dsimp only at hw
  have hJ := va_join (wr := []) (w1 := [(h0, .inr (3, [.ref s_ids, .ref s_attributes, .ref s_permanent, .int 0, .ref s_glyphs, .int s_glyphCount, .ref s_dots, .int s_used, .ref s_wishes, .ref s_pins, .int s_id, .int s_code, .ref s_chosen, .int s_chosenKnown, .ref s_left, .ref s_coming]))]) hP hD [0] [] rfl rfl (by decide) (by decide) hk1 hFc hP1 hD1
  clear hP hD hk1 hFc hP1 hD1 hz1
  obtain ⟨hP, hD⟩ := hJ
  clear hK1 ht hvm
  generalize H1 = H at hP hS ⊢
  replace hP : va_P (dC, dI) vcl [(h0, .inr (3, [.ref s_ids, .ref s_attributes, .ref s_permanent, .int 0, .ref s_glyphs, .int s_glyphCount, .ref s_dots, .int s_used, .ref s_wishes, .ref s_pins, .int s_id, .int s_code, .ref s_chosen, .int s_chosenKnown, .ref s_left, .ref s_coming]))] H := hP
  replace hD : va_D A [(h0, .inr (3, [.ref s_ids, .ref s_attributes, .ref s_permanent, .int 0, .ref s_glyphs, .int s_glyphCount, .ref s_dots, .int s_used, .ref s_wishes, .ref s_pins, .int s_id, .int s_code, .ref s_chosen, .int s_chosenKnown, .ref s_left, .ref s_coming]))] := hD
  obtain rfl := hw
  refine lv_goto (tgt := 26) hx hb d_FontShelf_bestPitch_22 (by decide) ?_
  have hP9 := hP.sub (ws' := [(h0, .inr (3, [.ref s_ids, .ref s_attributes, .ref s_permanent, .int 0, .ref s_glyphs, .int s_glyphCount, .ref s_dots, .int s_used, .ref s_wishes, .ref s_pins, .int s_id, .int s_code, .ref s_chosen, .int s_chosenKnown, .ref s_left, .ref s_coming]))]) [0] rfl
  have hD9 := hD.sub (ws' := [(h0, .inr (3, [.ref s_ids, .ref s_attributes, .ref s_permanent, .int 0, .ref s_glyphs, .int s_glyphCount, .ref s_dots, .int s_used, .ref s_wishes, .ref s_pins, .int s_id, .int s_code, .ref s_chosen, .int s_chosenKnown, .ref s_left, .ref s_coming]))]) [0] (by decide) rfl
  have hK9 := hK.sub (tys' := []) [] rfl
  exact W.iret (v := (-1)) hx hb hr (fun t ht hW => ⟨⟨(-1), (), rfl, (show ((-1) : Int32) = (-1) from (by first | exact trivial | rfl | simp [*])), by rw [ht]; exact hP9, va_K.moved hW.alike hK9, hD9⟩, hS.F ht⟩) hS.2.2 d_FontShelf_bestPitch_26

abbrev at_c_nearestHeight_0 (dC : Nat → ClassId) (dI : Nat → Nat → Nat) (h0 : Nat) (s_ids : Nat) (s_attributes : Nat) (s_permanent : Nat) (s_glyphs : Nat) (s_glyphCount : Int32) (s_dots : Nat) (s_used : Int32) (s_wishes : Nat) (s_pins : Nat) (s_id : Int32) (s_code : Int32) (s_chosen : Nat) (s_chosenKnown : Int32) (s_left : Nat) (s_coming : Nat) (x : Int32) (A : Nat → Prop) (u : Unit) (t : State) : Prop := match u with
  | _ => va_P (dC, dI) vcl [(h0, .inr (3, [.ref s_ids, .ref s_attributes, .ref s_permanent, .int 0, .ref s_glyphs, .int s_glyphCount, .ref s_dots, .int s_used, .ref s_wishes, .ref s_pins, .int s_id, .int s_code, .ref s_chosen, .int s_chosenKnown, .ref s_left, .ref s_coming]))] t.heap ∧ va_K (dC, dI) vcl [] t ∧ va_D A [(h0, .inr (3, [.ref s_ids, .ref s_attributes, .ref s_permanent, .int 0, .ref s_glyphs, .int s_glyphCount, .ref s_dots, .int s_used, .ref s_wishes, .ref s_pins, .int s_id, .int s_code, .ref s_chosen, .int s_chosenKnown, .ref s_left, .ref s_coming]))]
abbrev po_c_nearestHeight_0 (h0 : Nat) (s_ids : Nat) (s_attributes : Nat) (s_permanent : Nat) (s_glyphs : Nat) (s_glyphCount : Int32) (s_dots : Nat) (s_used : Int32) (s_wishes : Nat) (s_pins : Nat) (s_id : Int32) (s_code : Int32) (s_chosen : Nat) (s_chosenKnown : Int32) (s_left : Nat) (s_coming : Nat) (x : Int32) (r : Int32) (u : Unit) : Prop := match u with
  | _ => r = (-1)
abbrev q_c_nearestHeight_0 (dC : Nat → ClassId) (dI : Nat → Nat → Nat) (h0 : Nat) (s_ids : Nat) (s_attributes : Nat) (s_permanent : Nat) (s_glyphs : Nat) (s_glyphCount : Int32) (s_dots : Nat) (s_used : Int32) (s_wishes : Nat) (s_pins : Nat) (s_id : Int32) (s_code : Int32) (s_chosen : Nat) (s_chosenKnown : Int32) (s_left : Nat) (s_coming : Nat) (x : Int32) (A : Nat → Prop) : Array Value → State → Outcome → State → Prop := va_Qi (po_c_nearestHeight_0 h0 s_ids s_attributes s_permanent s_glyphs s_glyphCount s_dots s_used s_wishes s_pins s_id s_code s_chosen s_chosenKnown s_left s_coming x) (at_c_nearestHeight_0 dC dI h0 s_ids s_attributes s_permanent s_glyphs s_glyphCount s_dots s_used s_wishes s_pins s_id s_code s_chosen s_chosenKnown s_left s_coming x A) A
abbrev rm_c_nearestHeight_0 : Room := { frames := 1, cells := 0, slots := 0, locals := 25 }
set_option maxHeartbeats 4000000 in
set_option maxRecDepth 100000 in
theorem c_nearestHeight_0 (l : Launch) (dC : Nat → ClassId) (dI : Nat → Nat → Nat) (tt : Nat → Nat) (h0 : Nat) (s_ids : Nat) (s_attributes : Nat) (s_permanent : Nat) (s_glyphs : Nat) (s_glyphCount : Int32) (s_dots : Nat) (s_used : Int32) (s_wishes : Nat) (s_pins : Nat) (s_id : Int32) (s_code : Int32) (s_chosen : Nat) (s_chosenKnown : Int32) (s_left : Nat) (s_coming : Nat) (x : Int32) (sz : Nat)  : Met l y_FontShelf_nearestHeight w_FontShelf_nearestHeight rm_c_nearestHeight_0 (va_Pc [.ref h0, .int x] (fun U => U.heap.size = sz ∧ va_P (dC, dI) vcl [(h0, .inr (3, [.ref s_ids, .ref s_attributes, .ref s_permanent, .int 0, .ref s_glyphs, .int s_glyphCount, .ref s_dots, .int s_used, .ref s_wishes, .ref s_pins, .int s_id, .int s_code, .ref s_chosen, .int s_chosenKnown, .ref s_left, .ref s_coming]))] U.heap ∧ va_K (dC, dI) vcl [] U ∧ va_D (fun _ => True) [(h0, .inr (3, [.ref s_ids, .ref s_attributes, .ref s_permanent, .int 0, .ref s_glyphs, .int s_glyphCount, .ref s_dots, .int s_used, .ref s_wishes, .ref s_pins, .int s_id, .int s_code, .ref s_chosen, .int s_chosenKnown, .ref s_left, .ref s_coming]))] ∧ SF tt (va_A [(h0, .inr (3, [.ref s_ids, .ref s_attributes, .ref s_permanent, .int 0, .ref s_glyphs, .int s_glyphCount, .ref s_dots, .int s_used, .ref s_wishes, .ref s_pins, .int s_id, .int s_code, .ref s_chosen, .int s_chosenKnown, .ref s_left, .ref s_coming]))] sz) U U.heap)) (q_c_nearestHeight_0 dC dI h0 s_ids s_attributes s_permanent s_glyphs s_glyphCount s_dots s_used s_wishes s_pins s_id s_code s_chosen s_chosenKnown s_left s_coming x (va_A [(h0, .inr (3, [.ref s_ids, .ref s_attributes, .ref s_permanent, .int 0, .ref s_glyphs, .int s_glyphCount, .ref s_dots, .int s_used, .ref s_wishes, .ref s_pins, .int s_id, .int s_code, .ref s_chosen, .int s_chosenKnown, .ref s_left, .ref s_coming]))] sz)) 0 0 (va_A [(h0, .inr (3, [.ref s_ids, .ref s_attributes, .ref s_permanent, .int 0, .ref s_glyphs, .int s_glyphCount, .ref s_dots, .int s_used, .ref s_wishes, .ref s_pins, .int s_id, .int s_code, .ref s_chosen, .int s_chosenKnown, .ref s_left, .ref s_coming]))] sz) := by
  refine Met.ofW (cc := b_FontShelf_nearestHeight) (maxL := 4) (ret := (some .int)) (by decide) rfl ?_
  intro p e s m args below meth c s₁ B hml hv
  obtain ⟨rfl, hsz, hP, hK, hD0, hF⟩ := hv
  have hx := B.exec
  have hb := B.bytes
  have hr := B.returns
  have hwd : ∀ w ∈ gT, w.before _ s = true := fun w h => atoms_spec (ws := w_FontShelf_nearestHeight) B.pre w (List.mem_cons_of_mem _ h)
  have hown : s.vm.findClass R_FontShelf = some m.cls := findClass_of_methodNamed B.named
  have hlocks := B.notSynchronized
  subst hsz
  have hD := hD0.self (sz := s.heap.size)
  generalize hAe : va_A [(h0, .inr (3, [.ref s_ids, .ref s_attributes, .ref s_permanent, .int 0, .ref s_glyphs, .int s_glyphCount, .ref s_dots, .int s_used, .ref s_wishes, .ref s_pins, .int s_id, .int s_code, .ref s_chosen, .int s_chosenKnown, .ref s_left, .ref s_coming]))] s.heap.size = A at hD hF ⊢
  have hA : ∀ q : Nat, s.heap.size ≤ q → A q := fun q h => by rw [← hAe]; exact Or.inr h
  have hS : va_S A s.heap s.heap [] := va_S.rf
  have hP : va_P (dC, dI) vcl [(h0, .inr (3, [.ref s_ids, .ref s_attributes, .ref s_permanent, .int 0, .ref s_glyphs, .int s_glyphCount, .ref s_dots, .int s_used, .ref s_wishes, .ref s_pins, .int s_id, .int s_code, .ref s_chosen, .int s_chosenKnown, .ref s_left, .ref s_coming]))] s.heap := hP
  have hl := lv_entry ([.ref h0, .int x]) (n := 4) (Nat.le_of_ble_eq_true rfl)
  rw [lg_entry_eq]
  generalize (lg_sl ([.ref h0, .int x]) ++ List.replicate (4 - (lg_sl ([.ref h0, .int x])).length) Slot.unset).toArray = ls at hl ⊢
  have hl : lv_has ls 4 [(0, .ref h0), (1, .int x)] := hl
  refine lv_aload_n hx hb d_FontShelf_nearestHeight_0 rfl (lv_at hl 0 rfl) ?_
  refine lv_iconst (v := 3) hx hb d_FontShelf_nearestHeight_1 (by decide) ?_
  refine lv_iload_n hx hb d_FontShelf_nearestHeight_2 rfl (lv_at hl 1 rfl) ?_
  have hPc := hP.sub (ws' := [(h0, .inr (3, [.ref s_ids, .ref s_attributes, .ref s_permanent, .int 0, .ref s_glyphs, .int s_glyphCount, .ref s_dots, .int s_used, .ref s_wishes, .ref s_pins, .int s_id, .int s_code, .ref s_chosen, .int s_chosenKnown, .ref s_left, .ref s_coming]))]) [0] rfl
  have hDc := hD.sub (ws' := [(h0, .inr (3, [.ref s_ids, .ref s_attributes, .ref s_permanent, .int 0, .ref s_glyphs, .int s_glyphCount, .ref s_dots, .int s_used, .ref s_wishes, .ref s_pins, .int s_id, .int s_code, .ref s_chosen, .int s_chosenKnown, .ref s_left, .ref s_coming]))]) [0] (by decide) rfl
  have hKc := hK.sub (tys' := []) [] rfl
  have hFc := va_free (wc := [(h0, .inr (3, [.ref s_ids, .ref s_attributes, .ref s_permanent, .int 0, .ref s_glyphs, .int s_glyphCount, .ref s_dots, .int s_used, .ref s_wishes, .ref s_pins, .int s_id, .int s_code, .ref s_chosen, .int s_chosenKnown, .ref s_left, .ref s_coming]))]) hD hS hA [0] rfl
  refine va_calli (va_runV (As := [.int 3, .int x]) (rest := []) ⟨hx, hb, hml, hown, hwd⟩ (c_least_0 l dC dI tt h0 s_ids s_attributes s_permanent s_glyphs s_glyphCount s_dots s_used s_wishes s_pins s_id s_code s_chosen s_chosenKnown s_left s_coming 3 x s.heap.size ) (cwV 2 hwd (gV gd_FontShelf_least wd_2_69 wd_2_71 ws_12 wd_1_5) rfl rfl rfl (by decide +kernel) ⟨Nat.le_of_ble_eq_true rfl, Nat.le_of_ble_eq_true rfl⟩) ⟨fun a U g mk q => by obtain ⟨q0, q1, qP, qK, qD, qF⟩ := q; exact ⟨q0, q1, qP, va_K.moved (u := U) (U := U.calling g mk a) (Vm.Alike.refl U.vm) qK, qD, SF.same (u := U) (U := U.calling g mk a) rfl qF⟩, va_recv hKc hPc (ci := 3) (q0 := 0) rfl rfl, fun U hU hW => ⟨rfl, by rw [hU], by rw [hU]; exact hPc, va_K.moved hW.alike hKc, hDc.weaken (fun _ _ _ _ => trivial), by rw [hU]; exact SF.narrow (SF.moved hW (SF.kept hF (fun a h1 h2 => hS.2.1 a h1 h2))) hFc⟩⟩ rfl rfl hl.1 rfl (lv_room (Nat.le_of_ble_eq_true rfl)) d_FontShelf_nearestHeight_3 ⟨Nat.le_of_ble_eq_true rfl, Nat.le_of_ble_eq_true rfl⟩) hS (fun q _ h => hFc q h) hFc ?_
  clear hPc hDc hKc hS
  intro r_1 u_2 t H1 locs ht hvm hw hB hz1 hk1 hS
  obtain ⟨hP1, hK1, hD1⟩ := hB
  rw [ht] at hP1
  have hK1 := va_K.moved hvm.symm hK1
  try dsimp only at hw
  have hJ := va_join (wr := []) (w1 := [(h0, .inr (3, [.ref s_ids, .ref s_attributes, .ref s_permanent, .int 0, .ref s_glyphs, .int s_glyphCount, .ref s_dots, .int s_used, .ref s_wishes, .ref s_pins, .int s_id, .int s_code, .ref s_chosen, .int s_chosenKnown, .ref s_left, .ref s_coming]))]) hP hD [0] [] rfl rfl (by decide) (by decide) hk1 hFc hP1 hD1
  clear hP hD hk1 hFc hP1 hD1 hz1
  obtain ⟨hP, hD⟩ := hJ
  clear hK1 ht hvm
  generalize H1 = H at hP hS ⊢
  replace hP : va_P (dC, dI) vcl [(h0, .inr (3, [.ref s_ids, .ref s_attributes, .ref s_permanent, .int 0, .ref s_glyphs, .int s_glyphCount, .ref s_dots, .int s_used, .ref s_wishes, .ref s_pins, .int s_id, .int s_code, .ref s_chosen, .int s_chosenKnown, .ref s_left, .ref s_coming]))] H := hP
  replace hD : va_D A [(h0, .inr (3, [.ref s_ids, .ref s_attributes, .ref s_permanent, .int 0, .ref s_glyphs, .int s_glyphCount, .ref s_dots, .int s_used, .ref s_wishes, .ref s_pins, .int s_id, .int s_code, .ref s_chosen, .int s_chosenKnown, .ref s_left, .ref s_coming]))] := hD
  obtain rfl := hw
  refine lv_istore_n (lv' := [(2, .int (-1)), (0, .ref h0), (1, .int x)]) hx hb d_FontShelf_nearestHeight_6 rfl hl (by decide) rfl ?_
  clear hl
  intro ls hl
  refine lv_aload_n hx hb d_FontShelf_nearestHeight_7 rfl (lv_at hl 1 rfl) ?_
  refine lv_iconst (v := 3) hx hb d_FontShelf_nearestHeight_8 (by decide) ?_
  refine lv_iload_n hx hb d_FontShelf_nearestHeight_9 rfl (lv_at hl 2 rfl) ?_
  have hPc := hP.sub (ws' := [(h0, .inr (3, [.ref s_ids, .ref s_attributes, .ref s_permanent, .int 0, .ref s_glyphs, .int s_glyphCount, .ref s_dots, .int s_used, .ref s_wishes, .ref s_pins, .int s_id, .int s_code, .ref s_chosen, .int s_chosenKnown, .ref s_left, .ref s_coming]))]) [0] rfl
  have hDc := hD.sub (ws' := [(h0, .inr (3, [.ref s_ids, .ref s_attributes, .ref s_permanent, .int 0, .ref s_glyphs, .int s_glyphCount, .ref s_dots, .int s_used, .ref s_wishes, .ref s_pins, .int s_id, .int s_code, .ref s_chosen, .int s_chosenKnown, .ref s_left, .ref s_coming]))]) [0] (by decide) rfl
  have hKc := hK.sub (tys' := []) [] rfl
  have hFc := va_free (wc := [(h0, .inr (3, [.ref s_ids, .ref s_attributes, .ref s_permanent, .int 0, .ref s_glyphs, .int s_glyphCount, .ref s_dots, .int s_used, .ref s_wishes, .ref s_pins, .int s_id, .int s_code, .ref s_chosen, .int s_chosenKnown, .ref s_left, .ref s_coming]))]) hD hS hA [0] rfl
  refine va_calli (va_runV (As := [.int 3, .int x]) (rest := []) ⟨hx, hb, hml, hown, hwd⟩ (c_greatest_0 l dC dI tt h0 s_ids s_attributes s_permanent s_glyphs s_glyphCount s_dots s_used s_wishes s_pins s_id s_code s_chosen s_chosenKnown s_left s_coming 3 x H.size ) (cwV 2 hwd (gV gd_FontShelf_greatest wd_2_75 wd_2_77 ws_13 wd_1_5) rfl rfl rfl (by decide +kernel) ⟨Nat.le_of_ble_eq_true rfl, Nat.le_of_ble_eq_true rfl⟩) ⟨fun a U g mk q => by obtain ⟨q0, q1, qP, qK, qD, qF⟩ := q; exact ⟨q0, q1, qP, va_K.moved (u := U) (U := U.calling g mk a) (Vm.Alike.refl U.vm) qK, qD, SF.same (u := U) (U := U.calling g mk a) rfl qF⟩, va_recv hKc hPc (ci := 3) (q0 := 0) rfl rfl, fun U hU hW => ⟨rfl, by rw [hU], by rw [hU]; exact hPc, va_K.moved hW.alike hKc, hDc.weaken (fun _ _ _ _ => trivial), by rw [hU]; exact SF.narrow (SF.moved hW (SF.kept hF (fun a h1 h2 => hS.2.1 a h1 h2))) hFc⟩⟩ rfl rfl hl.1 rfl (lv_room (Nat.le_of_ble_eq_true rfl)) d_FontShelf_nearestHeight_10 ⟨Nat.le_of_ble_eq_true rfl, Nat.le_of_ble_eq_true rfl⟩) hS (fun q _ h => hFc q h) hFc ?_
  clear hPc hDc hKc hS
  intro r_3 u_4 t H1 locs ht hvm hw hB hz1 hk1 hS
  obtain ⟨hP1, hK1, hD1⟩ := hB
  rw [ht] at hP1
  have hK1 := va_K.moved hvm.symm hK1
  try dsimp only at hw
  have hJ := va_join (wr := []) (w1 := [(h0, .inr (3, [.ref s_ids, .ref s_attributes, .ref s_permanent, .int 0, .ref s_glyphs, .int s_glyphCount, .ref s_dots, .int s_used, .ref s_wishes, .ref s_pins, .int s_id, .int s_code, .ref s_chosen, .int s_chosenKnown, .ref s_left, .ref s_coming]))]) hP hD [0] [] rfl rfl (by decide) (by decide) hk1 hFc hP1 hD1
  clear hP hD hk1 hFc hP1 hD1 hz1
  obtain ⟨hP, hD⟩ := hJ
  clear hK1 ht hvm
  generalize H1 = H at hP hS ⊢
  replace hP : va_P (dC, dI) vcl [(h0, .inr (3, [.ref s_ids, .ref s_attributes, .ref s_permanent, .int 0, .ref s_glyphs, .int s_glyphCount, .ref s_dots, .int s_used, .ref s_wishes, .ref s_pins, .int s_id, .int s_code, .ref s_chosen, .int s_chosenKnown, .ref s_left, .ref s_coming]))] H := hP
  replace hD : va_D A [(h0, .inr (3, [.ref s_ids, .ref s_attributes, .ref s_permanent, .int 0, .ref s_glyphs, .int s_glyphCount, .ref s_dots, .int s_used, .ref s_wishes, .ref s_pins, .int s_id, .int s_code, .ref s_chosen, .int s_chosenKnown, .ref s_left, .ref s_coming]))] := hD
  obtain rfl := hw
  refine lv_istore_n (lv' := [(3, .int (-1)), (2, .int (-1)), (0, .ref h0), (1, .int x)]) hx hb d_FontShelf_nearestHeight_13 rfl hl (by decide) rfl ?_
  clear hl
  intro ls hl
  refine lv_iload_n hx hb d_FontShelf_nearestHeight_14 rfl (lv_at hl 1 rfl) ?_
  refine lv_iconst (v := (-1)) hx hb d_FontShelf_nearestHeight_15 (by decide) ?_
  refine lv_icmp_eq (tgt := 24) hx hb d_FontShelf_nearestHeight_16 (by decide) (fun _ => ?_) (fun c16 => absurd (by decide) c16)
  refine lv_iload_n hx hb d_FontShelf_nearestHeight_24 rfl (lv_at hl 1 rfl) ?_
  refine lv_iload_n hx hb d_FontShelf_nearestHeight_25 rfl (lv_at hl 0 rfl) ?_
  refine va_mmax hx hb (hml.trans hl.1.symm) hown (hwd _ wd_2_83) (hwd _ wd_1_179) (hwd _ wd_1_3) (hwd _ wd_1_180) (Nat.le_of_ble_eq_true rfl) (Nat.le_of_ble_eq_true rfl) (Nat.le_of_ble_eq_true rfl) (Nat.le_of_ble_eq_true rfl) d_FontShelf_nearestHeight_26 ?_
  refine lv_topi (fun y_5 ey_5 => ?_)
  obtain rfl : y_5 = ((-1) : Int32) := ey_5.trans (by decide)
  have hP9 := hP.sub (ws' := [(h0, .inr (3, [.ref s_ids, .ref s_attributes, .ref s_permanent, .int 0, .ref s_glyphs, .int s_glyphCount, .ref s_dots, .int s_used, .ref s_wishes, .ref s_pins, .int s_id, .int s_code, .ref s_chosen, .int s_chosenKnown, .ref s_left, .ref s_coming]))]) [0] rfl
  have hD9 := hD.sub (ws' := [(h0, .inr (3, [.ref s_ids, .ref s_attributes, .ref s_permanent, .int 0, .ref s_glyphs, .int s_glyphCount, .ref s_dots, .int s_used, .ref s_wishes, .ref s_pins, .int s_id, .int s_code, .ref s_chosen, .int s_chosenKnown, .ref s_left, .ref s_coming]))]) [0] (by decide) rfl
  have hK9 := hK.sub (tys' := []) [] rfl
  exact W.iret (v := (-1)) hx hb hr (fun t ht hW => ⟨⟨(-1), (), rfl, (show ((-1) : Int32) = (-1) from (by first | exact trivial | rfl | simp [*])), by rw [ht]; exact hP9, va_K.moved hW.alike hK9, hD9⟩, hS.F ht⟩) hS.2.2 d_FontShelf_nearestHeight_29

abbrev at_c_dropPassing_0 (dC : Nat → ClassId) (dI : Nat → Nat → Nat) (h0 : Nat) (s_ids : Nat) (s_attributes : Nat) (s_permanent : Nat) (s_glyphs : Nat) (s_glyphCount : Int32) (s_dots : Nat) (s_used : Int32) (s_wishes : Nat) (s_pins : Nat) (s_id : Int32) (s_code : Int32) (s_chosen : Nat) (s_chosenKnown : Int32) (s_left : Nat) (s_coming : Nat) (A : Nat → Prop) (u : Unit) (t : State) : Prop := match u with
  | _ => va_P (dC, dI) vcl [(h0, .inr (3, [.ref s_ids, .ref s_attributes, .ref s_permanent, .int 0, .ref s_glyphs, .int s_glyphCount, .ref s_dots, .int s_used, .ref s_wishes, .ref s_pins, .int s_id, .int s_code, .ref s_chosen, .int 0, .ref s_left, .ref s_coming]))] t.heap ∧ va_K (dC, dI) vcl [] t ∧ va_D A [(h0, .inr (3, [.ref s_ids, .ref s_attributes, .ref s_permanent, .int 0, .ref s_glyphs, .int s_glyphCount, .ref s_dots, .int s_used, .ref s_wishes, .ref s_pins, .int s_id, .int s_code, .ref s_chosen, .int 0, .ref s_left, .ref s_coming]))]
abbrev po_c_dropPassing_0 (h0 : Nat) (s_ids : Nat) (s_attributes : Nat) (s_permanent : Nat) (s_glyphs : Nat) (s_glyphCount : Int32) (s_dots : Nat) (s_used : Int32) (s_wishes : Nat) (s_pins : Nat) (s_id : Int32) (s_code : Int32) (s_chosen : Nat) (s_chosenKnown : Int32) (s_left : Nat) (s_coming : Nat) (u : Unit) : Prop := match u with
  | _ => True
abbrev q_c_dropPassing_0 (dC : Nat → ClassId) (dI : Nat → Nat → Nat) (h0 : Nat) (s_ids : Nat) (s_attributes : Nat) (s_permanent : Nat) (s_glyphs : Nat) (s_glyphCount : Int32) (s_dots : Nat) (s_used : Int32) (s_wishes : Nat) (s_pins : Nat) (s_id : Int32) (s_code : Int32) (s_chosen : Nat) (s_chosenKnown : Int32) (s_left : Nat) (s_coming : Nat) (A : Nat → Prop) : Array Value → State → Outcome → State → Prop := va_Qv (po_c_dropPassing_0 h0 s_ids s_attributes s_permanent s_glyphs s_glyphCount s_dots s_used s_wishes s_pins s_id s_code s_chosen s_chosenKnown s_left s_coming) (at_c_dropPassing_0 dC dI h0 s_ids s_attributes s_permanent s_glyphs s_glyphCount s_dots s_used s_wishes s_pins s_id s_code s_chosen s_chosenKnown s_left s_coming A) A
abbrev rm_c_dropPassing_0 : Room := { frames := 1, cells := 0, slots := 0, locals := 13 }
set_option maxHeartbeats 4000000 in
set_option maxRecDepth 100000 in
theorem c_dropPassing_0 (l : Launch) (dC : Nat → ClassId) (dI : Nat → Nat → Nat) (tt : Nat → Nat) (h0 : Nat) (s_ids : Nat) (s_attributes : Nat) (s_permanent : Nat) (s_glyphs : Nat) (s_glyphCount : Int32) (s_dots : Nat) (s_used : Int32) (s_wishes : Nat) (s_pins : Nat) (s_id : Int32) (s_code : Int32) (s_chosen : Nat) (s_chosenKnown : Int32) (s_left : Nat) (s_coming : Nat) (sz : Nat)  : Met l y_FontShelf_dropPassing w_FontShelf_dropPassing rm_c_dropPassing_0 (va_Pc [.ref h0] (fun U => U.heap.size = sz ∧ va_P (dC, dI) vcl [(h0, .inr (3, [.ref s_ids, .ref s_attributes, .ref s_permanent, .int 0, .ref s_glyphs, .int s_glyphCount, .ref s_dots, .int s_used, .ref s_wishes, .ref s_pins, .int s_id, .int s_code, .ref s_chosen, .int s_chosenKnown, .ref s_left, .ref s_coming]))] U.heap ∧ va_K (dC, dI) vcl [] U ∧ va_D (fun _ => True) [(h0, .inr (3, [.ref s_ids, .ref s_attributes, .ref s_permanent, .int 0, .ref s_glyphs, .int s_glyphCount, .ref s_dots, .int s_used, .ref s_wishes, .ref s_pins, .int s_id, .int s_code, .ref s_chosen, .int s_chosenKnown, .ref s_left, .ref s_coming]))] ∧ SF tt (va_A [(h0, .inr (3, [.ref s_ids, .ref s_attributes, .ref s_permanent, .int 0, .ref s_glyphs, .int s_glyphCount, .ref s_dots, .int s_used, .ref s_wishes, .ref s_pins, .int s_id, .int s_code, .ref s_chosen, .int s_chosenKnown, .ref s_left, .ref s_coming]))] sz) U U.heap)) (q_c_dropPassing_0 dC dI h0 s_ids s_attributes s_permanent s_glyphs s_glyphCount s_dots s_used s_wishes s_pins s_id s_code s_chosen s_chosenKnown s_left s_coming (va_A [(h0, .inr (3, [.ref s_ids, .ref s_attributes, .ref s_permanent, .int 0, .ref s_glyphs, .int s_glyphCount, .ref s_dots, .int s_used, .ref s_wishes, .ref s_pins, .int s_id, .int s_code, .ref s_chosen, .int s_chosenKnown, .ref s_left, .ref s_coming]))] sz)) 0 0 (va_A [(h0, .inr (3, [.ref s_ids, .ref s_attributes, .ref s_permanent, .int 0, .ref s_glyphs, .int s_glyphCount, .ref s_dots, .int s_used, .ref s_wishes, .ref s_pins, .int s_id, .int s_code, .ref s_chosen, .int s_chosenKnown, .ref s_left, .ref s_coming]))] sz) := by
  refine Met.ofW (cc := b_FontShelf_dropPassing) (maxL := 2) (ret := none) (by decide) rfl ?_
  intro p e s m args below meth c s₁ B hml hv
  obtain ⟨rfl, hsz, hP, hK, hD0, hF⟩ := hv
  have hx := B.exec
  have hb := B.bytes
  have hr := B.returns
  have hwd : ∀ w ∈ gT, w.before _ s = true := fun w h => atoms_spec (ws := w_FontShelf_dropPassing) B.pre w (List.mem_cons_of_mem _ h)
  have hown : s.vm.findClass R_FontShelf = some m.cls := findClass_of_methodNamed B.named
  have hlocks := B.notSynchronized
  subst hsz
  have hD := hD0.self (sz := s.heap.size)
  generalize hAe : va_A [(h0, .inr (3, [.ref s_ids, .ref s_attributes, .ref s_permanent, .int 0, .ref s_glyphs, .int s_glyphCount, .ref s_dots, .int s_used, .ref s_wishes, .ref s_pins, .int s_id, .int s_code, .ref s_chosen, .int s_chosenKnown, .ref s_left, .ref s_coming]))] s.heap.size = A at hD hF ⊢
  have hA : ∀ q : Nat, s.heap.size ≤ q → A q := fun q h => by rw [← hAe]; exact Or.inr h
  have hS : va_S A s.heap s.heap [] := va_S.rf
  have hP : va_P (dC, dI) vcl [(h0, .inr (3, [.ref s_ids, .ref s_attributes, .ref s_permanent, .int 0, .ref s_glyphs, .int s_glyphCount, .ref s_dots, .int s_used, .ref s_wishes, .ref s_pins, .int s_id, .int s_code, .ref s_chosen, .int s_chosenKnown, .ref s_left, .ref s_coming]))] s.heap := hP
  have hl := lv_entry ([.ref h0]) (n := 2) (Nat.le_of_ble_eq_true rfl)
  rw [lg_entry_eq]
  generalize (lg_sl ([.ref h0]) ++ List.replicate (2 - (lg_sl ([.ref h0])).length) Slot.unset).toArray = ls at hl ⊢
  have hl : lv_has ls 2 [(0, .ref h0)] := hl
  refine lv_aload_n hx hb d_FontShelf_dropPassing_0 rfl (lv_at hl 0 rfl) ?_
  refine lv_iconst (v := 0) hx hb d_FontShelf_dropPassing_1 (by decide) ?_
  refine va_put (D := (dC, dI)) (ci := 3) (v := .int 0) (ty := .boolean) (C := R_FontShelf) (T := F_FontShelf) (N := 16) hx hb hwd i_FontShelf t_FontShelf to_FontShelf no_FontShelf hown hK hP hD hS 0 rfl rfl 13 (by decide) (hwd _ wd_2_114) (fun _ h9 => h9) rfl (by decide +kernel) (by decide) rfl (Nat.le_of_ble_eq_true rfl) d_FontShelf_dropPassing_2 ?_
  clear hP hD hS
  intro H locs hP hD hS
  replace hP : va_P (dC, dI) vcl [(h0, .inr (3, [.ref s_ids, .ref s_attributes, .ref s_permanent, .int 0, .ref s_glyphs, .int s_glyphCount, .ref s_dots, .int s_used, .ref s_wishes, .ref s_pins, .int s_id, .int s_code, .ref s_chosen, .int 0, .ref s_left, .ref s_coming]))] H := hP
  replace hD : va_D A [(h0, .inr (3, [.ref s_ids, .ref s_attributes, .ref s_permanent, .int 0, .ref s_glyphs, .int s_glyphCount, .ref s_dots, .int s_used, .ref s_wishes, .ref s_pins, .int s_id, .int s_code, .ref s_chosen, .int 0, .ref s_left, .ref s_coming]))] := hD
  refine lv_aload_n hx hb d_FontShelf_dropPassing_5 rfl (lv_at hl 0 rfl) ?_
  refine va_get (D := (dC, dI)) (ci := 3) (v := .int 0) (C := R_FontShelf) (T := F_FontShelf) (N := 16) hx hb hwd i_FontShelf hown hK hP 0 rfl rfl 3 (by decide) (hwd _ wd_2_101) (fun _ h9 => h9) rfl d_FontShelf_dropPassing_6 ?_
  refine lv_bipush (v := 32) hx hb d_FontShelf_dropPassing_9 (by decide) ?_
  refine va_mmin hx hb (hml.trans hl.1.symm) hown (hwd _ wd_2_20) (hwd _ wd_1_176) (hwd _ wd_1_3) (hwd _ wd_1_177) (Nat.le_of_ble_eq_true rfl) (Nat.le_of_ble_eq_true rfl) (Nat.le_of_ble_eq_true rfl) (Nat.le_of_ble_eq_true rfl) d_FontShelf_dropPassing_11 ?_
  refine lv_topi (fun y_1 ey_1 => ?_)
  obtain rfl : y_1 = (0 : Int32) := ey_1.trans (by decide)
  refine lv_iconst (v := 1) hx hb d_FontShelf_dropPassing_14 (by decide) ?_
  refine lv_isub hx hb d_FontShelf_dropPassing_15 ?_
  refine lv_topi (fun y_2 ey_2 => ?_)
  obtain rfl : y_2 = ((-1) : Int32) := ey_2.trans (by decide)
  refine lv_istore_n (lv' := [(1, .int (-1)), (0, .ref h0)]) hx hb d_FontShelf_dropPassing_16 rfl hl (by decide) rfl ?_
  clear hl
  intro ls hl
  refine lv_iload_n hx hb d_FontShelf_dropPassing_17 rfl (lv_at hl 0 rfl) ?_
  refine lv_if_lt (tgt := 41) hx hb d_FontShelf_dropPassing_18 (by decide) (fun _ => ?_) (fun c18 => absurd (by decide) c18)
  have hP9 := hP.sub (ws' := [(h0, .inr (3, [.ref s_ids, .ref s_attributes, .ref s_permanent, .int 0, .ref s_glyphs, .int s_glyphCount, .ref s_dots, .int s_used, .ref s_wishes, .ref s_pins, .int s_id, .int s_code, .ref s_chosen, .int 0, .ref s_left, .ref s_coming]))]) [0] rfl
  have hD9 := hD.sub (ws' := [(h0, .inr (3, [.ref s_ids, .ref s_attributes, .ref s_permanent, .int 0, .ref s_glyphs, .int s_glyphCount, .ref s_dots, .int s_used, .ref s_wishes, .ref s_pins, .int s_id, .int s_code, .ref s_chosen, .int 0, .ref s_left, .ref s_coming]))]) [0] (by decide) rfl
  have hK9 := hK.sub (tys' := []) [] rfl
  exact W.vret hx hb hr (fun t ht hW => ⟨⟨(), rfl, (trivial), by rw [ht]; exact hP9, va_K.moved hW.alike hK9, hD9⟩, hS.F ht⟩) hS.2.2 d_FontShelf_dropPassing_41

abbrev at_c_bestWeight_0 (dC : Nat → ClassId) (dI : Nat → Nat → Nat) (h0 : Nat) (s_ids : Nat) (s_attributes : Nat) (s_permanent : Nat) (s_glyphs : Nat) (s_glyphCount : Int32) (s_dots : Nat) (s_used : Int32) (s_wishes : Nat) (s_pins : Nat) (s_id : Int32) (s_code : Int32) (s_chosen : Nat) (s_chosenKnown : Int32) (s_left : Nat) (s_coming : Nat) (x : Int32) (A : Nat → Prop) (u : Unit) (t : State) : Prop := match u with
  | _ => va_P (dC, dI) vcl [(h0, .inr (3, [.ref s_ids, .ref s_attributes, .ref s_permanent, .int 0, .ref s_glyphs, .int s_glyphCount, .ref s_dots, .int s_used, .ref s_wishes, .ref s_pins, .int s_id, .int s_code, .ref s_chosen, .int s_chosenKnown, .ref s_left, .ref s_coming]))] t.heap ∧ va_K (dC, dI) vcl [] t ∧ va_D A [(h0, .inr (3, [.ref s_ids, .ref s_attributes, .ref s_permanent, .int 0, .ref s_glyphs, .int s_glyphCount, .ref s_dots, .int s_used, .ref s_wishes, .ref s_pins, .int s_id, .int s_code, .ref s_chosen, .int s_chosenKnown, .ref s_left, .ref s_coming]))]
abbrev po_c_bestWeight_0 (h0 : Nat) (s_ids : Nat) (s_attributes : Nat) (s_permanent : Nat) (s_glyphs : Nat) (s_glyphCount : Int32) (s_dots : Nat) (s_used : Int32) (s_wishes : Nat) (s_pins : Nat) (s_id : Int32) (s_code : Int32) (s_chosen : Nat) (s_chosenKnown : Int32) (s_left : Nat) (s_coming : Nat) (x : Int32) (r : Int32) (u : Unit) : Prop := match u with
  | _ => r = x
abbrev q_c_bestWeight_0 (dC : Nat → ClassId) (dI : Nat → Nat → Nat) (h0 : Nat) (s_ids : Nat) (s_attributes : Nat) (s_permanent : Nat) (s_glyphs : Nat) (s_glyphCount : Int32) (s_dots : Nat) (s_used : Int32) (s_wishes : Nat) (s_pins : Nat) (s_id : Int32) (s_code : Int32) (s_chosen : Nat) (s_chosenKnown : Int32) (s_left : Nat) (s_coming : Nat) (x : Int32) (A : Nat → Prop) : Array Value → State → Outcome → State → Prop := va_Qi (po_c_bestWeight_0 h0 s_ids s_attributes s_permanent s_glyphs s_glyphCount s_dots s_used s_wishes s_pins s_id s_code s_chosen s_chosenKnown s_left s_coming x) (at_c_bestWeight_0 dC dI h0 s_ids s_attributes s_permanent s_glyphs s_glyphCount s_dots s_used s_wishes s_pins s_id s_code s_chosen s_chosenKnown s_left s_coming x A) A
abbrev rm_c_bestWeight_0 : Room := { frames := 1, cells := 0, slots := 0, locals := 23 }
set_option maxHeartbeats 4000000 in
set_option maxRecDepth 100000 in
theorem c_bestWeight_0 (l : Launch) (dC : Nat → ClassId) (dI : Nat → Nat → Nat) (tt : Nat → Nat) (h0 : Nat) (s_ids : Nat) (s_attributes : Nat) (s_permanent : Nat) (s_glyphs : Nat) (s_glyphCount : Int32) (s_dots : Nat) (s_used : Int32) (s_wishes : Nat) (s_pins : Nat) (s_id : Int32) (s_code : Int32) (s_chosen : Nat) (s_chosenKnown : Int32) (s_left : Nat) (s_coming : Nat) (x : Int32) (sz : Nat)  : Met l y_FontShelf_bestWeight w_FontShelf_bestWeight rm_c_bestWeight_0 (va_Pc [.ref h0, .int x] (fun U => U.heap.size = sz ∧ va_P (dC, dI) vcl [(h0, .inr (3, [.ref s_ids, .ref s_attributes, .ref s_permanent, .int 0, .ref s_glyphs, .int s_glyphCount, .ref s_dots, .int s_used, .ref s_wishes, .ref s_pins, .int s_id, .int s_code, .ref s_chosen, .int s_chosenKnown, .ref s_left, .ref s_coming]))] U.heap ∧ va_K (dC, dI) vcl [] U ∧ va_D (fun _ => True) [(h0, .inr (3, [.ref s_ids, .ref s_attributes, .ref s_permanent, .int 0, .ref s_glyphs, .int s_glyphCount, .ref s_dots, .int s_used, .ref s_wishes, .ref s_pins, .int s_id, .int s_code, .ref s_chosen, .int s_chosenKnown, .ref s_left, .ref s_coming]))] ∧ SF tt (va_A [(h0, .inr (3, [.ref s_ids, .ref s_attributes, .ref s_permanent, .int 0, .ref s_glyphs, .int s_glyphCount, .ref s_dots, .int s_used, .ref s_wishes, .ref s_pins, .int s_id, .int s_code, .ref s_chosen, .int s_chosenKnown, .ref s_left, .ref s_coming]))] sz) U U.heap)) (q_c_bestWeight_0 dC dI h0 s_ids s_attributes s_permanent s_glyphs s_glyphCount s_dots s_used s_wishes s_pins s_id s_code s_chosen s_chosenKnown s_left s_coming x (va_A [(h0, .inr (3, [.ref s_ids, .ref s_attributes, .ref s_permanent, .int 0, .ref s_glyphs, .int s_glyphCount, .ref s_dots, .int s_used, .ref s_wishes, .ref s_pins, .int s_id, .int s_code, .ref s_chosen, .int s_chosenKnown, .ref s_left, .ref s_coming]))] sz)) 0 0 (va_A [(h0, .inr (3, [.ref s_ids, .ref s_attributes, .ref s_permanent, .int 0, .ref s_glyphs, .int s_glyphCount, .ref s_dots, .int s_used, .ref s_wishes, .ref s_pins, .int s_id, .int s_code, .ref s_chosen, .int s_chosenKnown, .ref s_left, .ref s_coming]))] sz) := by
  refine Met.ofW (cc := b_FontShelf_bestWeight) (maxL := 4) (ret := (some .int)) (by decide) rfl ?_
  intro p e s m args below meth c s₁ B hml hv
  obtain ⟨rfl, hsz, hP, hK, hD0, hF⟩ := hv
  have hx := B.exec
  have hb := B.bytes
  have hr := B.returns
  have hwd : ∀ w ∈ gT, w.before _ s = true := fun w h => atoms_spec (ws := w_FontShelf_bestWeight) B.pre w (List.mem_cons_of_mem _ h)
  have hown : s.vm.findClass R_FontShelf = some m.cls := findClass_of_methodNamed B.named
  have hlocks := B.notSynchronized
  subst hsz
  have hD := hD0.self (sz := s.heap.size)
  generalize hAe : va_A [(h0, .inr (3, [.ref s_ids, .ref s_attributes, .ref s_permanent, .int 0, .ref s_glyphs, .int s_glyphCount, .ref s_dots, .int s_used, .ref s_wishes, .ref s_pins, .int s_id, .int s_code, .ref s_chosen, .int s_chosenKnown, .ref s_left, .ref s_coming]))] s.heap.size = A at hD hF ⊢
  have hA : ∀ q : Nat, s.heap.size ≤ q → A q := fun q h => by rw [← hAe]; exact Or.inr h
  have hS : va_S A s.heap s.heap [] := va_S.rf
  have hP : va_P (dC, dI) vcl [(h0, .inr (3, [.ref s_ids, .ref s_attributes, .ref s_permanent, .int 0, .ref s_glyphs, .int s_glyphCount, .ref s_dots, .int s_used, .ref s_wishes, .ref s_pins, .int s_id, .int s_code, .ref s_chosen, .int s_chosenKnown, .ref s_left, .ref s_coming]))] s.heap := hP
  have hl := lv_entry ([.ref h0, .int x]) (n := 4) (Nat.le_of_ble_eq_true rfl)
  rw [lg_entry_eq]
  generalize (lg_sl ([.ref h0, .int x]) ++ List.replicate (4 - (lg_sl ([.ref h0, .int x])).length) Slot.unset).toArray = ls at hl ⊢
  have hl : lv_has ls 4 [(0, .ref h0), (1, .int x)] := hl
  have cut10 : ∀ (st : Int32), ∀ (H : Heap) (locs : List Loc) (ls : Array Slot), va_K (dC, dI) vcl [] s → va_P (dC, dI) vcl [(h0, .inr (3, [.ref s_ids, .ref s_attributes, .ref s_permanent, .int 0, .ref s_glyphs, .int s_glyphCount, .ref s_dots, .int s_used, .ref s_wishes, .ref s_pins, .int s_id, .int s_code, .ref s_chosen, .int s_chosenKnown, .ref s_left, .ref s_coming]))] H → va_D A [(h0, .inr (3, [.ref s_ids, .ref s_attributes, .ref s_permanent, .int 0, .ref s_glyphs, .int s_glyphCount, .ref s_dots, .int s_used, .ref s_wishes, .ref s_pins, .int s_id, .int s_code, .ref s_chosen, .int s_chosenKnown, .ref s_left, .ref s_coming]))] → va_S A s.heap H locs → lv_has ls 4 [(0, .ref h0), (1, .int x), (2, .int st)] → W p l e (headSpec w_FontShelf_bestWeight rm_c_bestWeight_0).room s m (List.toArray [.ref h0, .int x]) below meth c H locs 0 0 (MQ below (q_c_bestWeight_0 dC dI h0 s_ids s_attributes s_permanent s_glyphs s_glyphCount s_dots s_used s_wishes s_pins s_id s_code s_chosen s_chosenKnown s_left s_coming x A) (List.toArray [.ref h0, .int x]) s 0 0 A) (F0 m 10 ls []) := by
    intro st  H locs ls hK hP hD hS hl
    refine lv_iconst (v := 1) hx hb d_FontShelf_bestWeight_10 (by decide) ?_
    refine lv_istore_n (lv' := [(3, .int 1), (0, .ref h0), (1, .int x), (2, .int st)]) hx hb d_FontShelf_bestWeight_11 rfl hl (by decide) rfl ?_
    clear hl
    intro ls hl
    refine lv_iload_n hx hb d_FontShelf_bestWeight_12 rfl (lv_at hl 0 rfl) ?_
    refine va_gets hx hb (SF_p3 hF).1 hS hown (hwd _ wd_2_73) (fun _ h9 => h9) d_FontShelf_bestWeight_13 ?_
    refine lv_iconst (v := 5) hx hb d_FontShelf_bestWeight_16 (by decide) ?_
    refine va_ti (v := .int 7) hx hb (SF_p3 hF).2 hS (show ¬ ((5 : Int32) < 0 ∨ 7 ≤ (5 : Int32).toNatClampNeg) by decide) rfl d_FontShelf_bestWeight_17 ?_
    refine va_gets hx hb (SF_p4 hF).1 hS hown (hwd _ wd_2_88) (fun _ h9 => h9) d_FontShelf_bestWeight_18 ?_
    refine lv_iconst (v := 5) hx hb d_FontShelf_bestWeight_21 (by decide) ?_
    refine va_ti (v := .int (-7)) hx hb (SF_p4 hF).2 hS (show ¬ ((5 : Int32) < 0 ∨ 7 ≤ (5 : Int32).toNatClampNeg) by decide) rfl d_FontShelf_bestWeight_22 ?_
    refine lv_isub hx hb d_FontShelf_bestWeight_23 ?_
    refine lv_topi (fun y_1 ey_1 => ?_)
    obtain rfl : y_1 = (14 : Int32) := ey_1.trans (by decide)
    refine lv_icmp_gt (tgt := 52) hx hb d_FontShelf_bestWeight_24 (by decide) (fun c24 => absurd c24 (by decide)) (fun _ => ?_)
    refine lv_aload_n hx hb d_FontShelf_bestWeight_27 rfl (lv_at hl 1 rfl) ?_
    refine lv_iconst (v := 5) hx hb d_FontShelf_bestWeight_28 (by decide) ?_
    refine lv_iload_n hx hb d_FontShelf_bestWeight_29 rfl (lv_at hl 2 rfl) ?_
    refine lv_iload_n hx hb d_FontShelf_bestWeight_30 rfl (lv_at hl 3 rfl) ?_
    refine lv_iload_n hx hb d_FontShelf_bestWeight_31 rfl (lv_at hl 0 rfl) ?_
    refine lv_imul hx hb d_FontShelf_bestWeight_32 ?_
    refine lv_iadd hx hb d_FontShelf_bestWeight_33 ?_
    have hPc := hP.sub (ws' := [(h0, .inr (3, [.ref s_ids, .ref s_attributes, .ref s_permanent, .int 0, .ref s_glyphs, .int s_glyphCount, .ref s_dots, .int s_used, .ref s_wishes, .ref s_pins, .int s_id, .int s_code, .ref s_chosen, .int s_chosenKnown, .ref s_left, .ref s_coming]))]) [0] rfl
    have hDc := hD.sub (ws' := [(h0, .inr (3, [.ref s_ids, .ref s_attributes, .ref s_permanent, .int 0, .ref s_glyphs, .int s_glyphCount, .ref s_dots, .int s_used, .ref s_wishes, .ref s_pins, .int s_id, .int s_code, .ref s_chosen, .int s_chosenKnown, .ref s_left, .ref s_coming]))]) [0] (by decide) rfl
    have hKc := hK.sub (tys' := []) [] rfl
    have hFc := va_free (wc := [(h0, .inr (3, [.ref s_ids, .ref s_attributes, .ref s_permanent, .int 0, .ref s_glyphs, .int s_glyphCount, .ref s_dots, .int s_used, .ref s_wishes, .ref s_pins, .int s_id, .int s_code, .ref s_chosen, .int s_chosenKnown, .ref s_left, .ref s_coming]))]) hD hS hA [0] rfl
    refine va_calli (va_runV (As := [.int 5, .int (x + (st * 1))]) (rest := []) ⟨hx, hb, hml, hown, hwd⟩ (c_anyLeft_0 l dC dI tt h0 s_ids s_attributes s_permanent s_glyphs s_glyphCount s_dots s_used s_wishes s_pins s_id s_code s_chosen s_chosenKnown s_left s_coming 5 (x + (st * 1)) H.size ) (cwV 2 hwd (gV gd_FontShelf_anyLeft wd_2_90 wd_2_92 ws_16 wd_1_5) rfl rfl rfl (by decide +kernel) ⟨Nat.le_of_ble_eq_true rfl, Nat.le_of_ble_eq_true rfl⟩) ⟨fun a U g mk q => by obtain ⟨q0, q1, qP, qK, qD, qF⟩ := q; exact ⟨q0, q1, qP, va_K.moved (u := U) (U := U.calling g mk a) (Vm.Alike.refl U.vm) qK, qD, SF.same (u := U) (U := U.calling g mk a) rfl qF⟩, va_recv hKc hPc (ci := 3) (q0 := 0) rfl rfl, fun U hU hW => ⟨rfl, by rw [hU], by rw [hU]; exact hPc, va_K.moved hW.alike hKc, hDc.weaken (fun _ _ _ _ => trivial), by rw [hU]; exact SF.narrow (SF.moved hW (SF.kept hF (fun a h1 h2 => hS.2.1 a h1 h2))) hFc⟩⟩ rfl rfl hl.1 rfl (lv_room (Nat.le_of_ble_eq_true rfl)) d_FontShelf_bestWeight_34 ⟨Nat.le_of_ble_eq_true rfl, Nat.le_of_ble_eq_true rfl⟩) hS (fun q _ h => hFc q h) hFc ?_
    clear hPc hDc hKc hS
    intro r_2 u_3 t H1 locs ht hvm hw hB hz1 hk1 hS
    obtain ⟨hP1, hK1, hD1⟩ := hB
    rw [ht] at hP1
    have hK1 := va_K.moved hvm.symm hK1
    try dsimp only at hw
    have hJ := va_join (wr := []) (w1 := [(h0, .inr (3, [.ref s_ids, .ref s_attributes, .ref s_permanent, .int 0, .ref s_glyphs, .int s_glyphCount, .ref s_dots, .int s_used, .ref s_wishes, .ref s_pins, .int s_id, .int s_code, .ref s_chosen, .int s_chosenKnown, .ref s_left, .ref s_coming]))]) hP hD [0] [] rfl rfl (by decide) (by decide) hk1 hFc hP1 hD1
    clear hP hD hk1 hFc hP1 hD1 hz1
    obtain ⟨hP, hD⟩ := hJ
    clear hK1 ht hvm
    generalize H1 = H at hP hS ⊢
    replace hP : va_P (dC, dI) vcl [(h0, .inr (3, [.ref s_ids, .ref s_attributes, .ref s_permanent, .int 0, .ref s_glyphs, .int s_glyphCount, .ref s_dots, .int s_used, .ref s_wishes, .ref s_pins, .int s_id, .int s_code, .ref s_chosen, .int s_chosenKnown, .ref s_left, .ref s_coming]))] H := hP
    replace hD : va_D A [(h0, .inr (3, [.ref s_ids, .ref s_attributes, .ref s_permanent, .int 0, .ref s_glyphs, .int s_glyphCount, .ref s_dots, .int s_used, .ref s_wishes, .ref s_pins, .int s_id, .int s_code, .ref s_chosen, .int s_chosenKnown, .ref s_left, .ref s_coming]))] := hD
    obtain rfl := hw
    refine lv_if_eq (tgt := 46) hx hb d_FontShelf_bestWeight_37 (by decide) (fun _ => ?_) (fun c37 => absurd (by decide) c37)
    refine lv_iinc (v := 2) (lv' := [(3, .int 2), (0, .ref h0), (1, .int x), (2, .int st)]) hx hb d_FontShelf_bestWeight_46 hl (k := 0) rfl (by decide) (by decide) rfl ?_
    clear hl
    intro ls hl
    refine lv_goto (tgt := 12) hx hb d_FontShelf_bestWeight_49 (by decide) ?_
    refine lv_iload_n hx hb d_FontShelf_bestWeight_12 rfl (lv_at hl 0 rfl) ?_
    refine va_gets hx hb (SF_p3 hF).1 hS hown (hwd _ wd_2_73) (fun _ h9 => h9) d_FontShelf_bestWeight_13 ?_
    refine lv_iconst (v := 5) hx hb d_FontShelf_bestWeight_16 (by decide) ?_
    refine va_ti (v := .int 7) hx hb (SF_p3 hF).2 hS (show ¬ ((5 : Int32) < 0 ∨ 7 ≤ (5 : Int32).toNatClampNeg) by decide) rfl d_FontShelf_bestWeight_17 ?_
    refine va_gets hx hb (SF_p4 hF).1 hS hown (hwd _ wd_2_88) (fun _ h9 => h9) d_FontShelf_bestWeight_18 ?_
    refine lv_iconst (v := 5) hx hb d_FontShelf_bestWeight_21 (by decide) ?_
    refine va_ti (v := .int (-7)) hx hb (SF_p4 hF).2 hS (show ¬ ((5 : Int32) < 0 ∨ 7 ≤ (5 : Int32).toNatClampNeg) by decide) rfl d_FontShelf_bestWeight_22 ?_
    refine lv_isub hx hb d_FontShelf_bestWeight_23 ?_
    refine lv_topi (fun y_4 ey_4 => ?_)
    obtain rfl : y_4 = (14 : Int32) := ey_4.trans (by decide)
    refine lv_icmp_gt (tgt := 52) hx hb d_FontShelf_bestWeight_24 (by decide) (fun c24 => absurd c24 (by decide)) (fun _ => ?_)
    refine lv_aload_n hx hb d_FontShelf_bestWeight_27 rfl (lv_at hl 1 rfl) ?_
    refine lv_iconst (v := 5) hx hb d_FontShelf_bestWeight_28 (by decide) ?_
    refine lv_iload_n hx hb d_FontShelf_bestWeight_29 rfl (lv_at hl 2 rfl) ?_
    refine lv_iload_n hx hb d_FontShelf_bestWeight_30 rfl (lv_at hl 3 rfl) ?_
    refine lv_iload_n hx hb d_FontShelf_bestWeight_31 rfl (lv_at hl 0 rfl) ?_
    refine lv_imul hx hb d_FontShelf_bestWeight_32 ?_
    refine lv_iadd hx hb d_FontShelf_bestWeight_33 ?_
    have hPc := hP.sub (ws' := [(h0, .inr (3, [.ref s_ids, .ref s_attributes, .ref s_permanent, .int 0, .ref s_glyphs, .int s_glyphCount, .ref s_dots, .int s_used, .ref s_wishes, .ref s_pins, .int s_id, .int s_code, .ref s_chosen, .int s_chosenKnown, .ref s_left, .ref s_coming]))]) [0] rfl
    have hDc := hD.sub (ws' := [(h0, .inr (3, [.ref s_ids, .ref s_attributes, .ref s_permanent, .int 0, .ref s_glyphs, .int s_glyphCount, .ref s_dots, .int s_used, .ref s_wishes, .ref s_pins, .int s_id, .int s_code, .ref s_chosen, .int s_chosenKnown, .ref s_left, .ref s_coming]))]) [0] (by decide) rfl
    have hKc := hK.sub (tys' := []) [] rfl
    have hFc := va_free (wc := [(h0, .inr (3, [.ref s_ids, .ref s_attributes, .ref s_permanent, .int 0, .ref s_glyphs, .int s_glyphCount, .ref s_dots, .int s_used, .ref s_wishes, .ref s_pins, .int s_id, .int s_code, .ref s_chosen, .int s_chosenKnown, .ref s_left, .ref s_coming]))]) hD hS hA [0] rfl
    refine va_calli (va_runV (As := [.int 5, .int (x + (st * 2))]) (rest := []) ⟨hx, hb, hml, hown, hwd⟩ (c_anyLeft_0 l dC dI tt h0 s_ids s_attributes s_permanent s_glyphs s_glyphCount s_dots s_used s_wishes s_pins s_id s_code s_chosen s_chosenKnown s_left s_coming 5 (x + (st * 2)) H.size ) (cwV 2 hwd (gV gd_FontShelf_anyLeft wd_2_90 wd_2_92 ws_16 wd_1_5) rfl rfl rfl (by decide +kernel) ⟨Nat.le_of_ble_eq_true rfl, Nat.le_of_ble_eq_true rfl⟩) ⟨fun a U g mk q => by obtain ⟨q0, q1, qP, qK, qD, qF⟩ := q; exact ⟨q0, q1, qP, va_K.moved (u := U) (U := U.calling g mk a) (Vm.Alike.refl U.vm) qK, qD, SF.same (u := U) (U := U.calling g mk a) rfl qF⟩, va_recv hKc hPc (ci := 3) (q0 := 0) rfl rfl, fun U hU hW => ⟨rfl, by rw [hU], by rw [hU]; exact hPc, va_K.moved hW.alike hKc, hDc.weaken (fun _ _ _ _ => trivial), by rw [hU]; exact SF.narrow (SF.moved hW (SF.kept hF (fun a h1 h2 => hS.2.1 a h1 h2))) hFc⟩⟩ rfl rfl hl.1 rfl (lv_room (Nat.le_of_ble_eq_true rfl)) d_FontShelf_bestWeight_34 ⟨Nat.le_of_ble_eq_true rfl, Nat.le_of_ble_eq_true rfl⟩) hS (fun q _ h => hFc q h) hFc ?_
    clear hPc hDc hKc hS
    intro r_5 u_6 t H1 locs ht hvm hw hB hz1 hk1 hS
    obtain ⟨hP1, hK1, hD1⟩ := hB
    rw [ht] at hP1
    have hK1 := va_K.moved hvm.symm hK1
    try dsimp only at hw
    have hJ := va_join (wr := []) (w1 := [(h0, .inr (3, [.ref s_ids, .ref s_attributes, .ref s_permanent, .int 0, .ref s_glyphs, .int s_glyphCount, .ref s_dots, .int s_used, .ref s_wishes, .ref s_pins, .int s_id, .int s_code, .ref s_chosen, .int s_chosenKnown, .ref s_left, .ref s_coming]))]) hP hD [0] [] rfl rfl (by decide) (by decide) hk1 hFc hP1 hD1
    clear hP hD hk1 hFc hP1 hD1 hz1
    obtain ⟨hP, hD⟩ := hJ
    clear hK1 ht hvm
    generalize H1 = H at hP hS ⊢
    replace hP : va_P (dC, dI) vcl [(h0, .inr (3, [.ref s_ids, .ref s_attributes, .ref s_permanent, .int 0, .ref s_glyphs, .int s_glyphCount, .ref s_dots, .int s_used, .ref s_wishes, .ref s_pins, .int s_id, .int s_code, .ref s_chosen, .int s_chosenKnown, .ref s_left, .ref s_coming]))] H := hP
    replace hD : va_D A [(h0, .inr (3, [.ref s_ids, .ref s_attributes, .ref s_permanent, .int 0, .ref s_glyphs, .int s_glyphCount, .ref s_dots, .int s_used, .ref s_wishes, .ref s_pins, .int s_id, .int s_code, .ref s_chosen, .int s_chosenKnown, .ref s_left, .ref s_coming]))] := hD
    obtain rfl := hw
    refine lv_if_eq (tgt := 46) hx hb d_FontShelf_bestWeight_37 (by decide) (fun _ => ?_) (fun c37 => absurd (by decide) c37)
    refine lv_iinc (v := 3) (lv' := [(3, .int 3), (0, .ref h0), (1, .int x), (2, .int st)]) hx hb d_FontShelf_bestWeight_46 hl (k := 0) rfl (by decide) (by decide) rfl ?_
    clear hl
    intro ls hl
    refine lv_goto (tgt := 12) hx hb d_FontShelf_bestWeight_49 (by decide) ?_
    refine lv_iload_n hx hb d_FontShelf_bestWeight_12 rfl (lv_at hl 0 rfl) ?_
    refine va_gets hx hb (SF_p3 hF).1 hS hown (hwd _ wd_2_73) (fun _ h9 => h9) d_FontShelf_bestWeight_13 ?_
    refine lv_iconst (v := 5) hx hb d_FontShelf_bestWeight_16 (by decide) ?_
    refine va_ti (v := .int 7) hx hb (SF_p3 hF).2 hS (show ¬ ((5 : Int32) < 0 ∨ 7 ≤ (5 : Int32).toNatClampNeg) by decide) rfl d_FontShelf_bestWeight_17 ?_
    refine va_gets hx hb (SF_p4 hF).1 hS hown (hwd _ wd_2_88) (fun _ h9 => h9) d_FontShelf_bestWeight_18 ?_
    refine lv_iconst (v := 5) hx hb d_FontShelf_bestWeight_21 (by decide) ?_
    refine va_ti (v := .int (-7)) hx hb (SF_p4 hF).2 hS (show ¬ ((5 : Int32) < 0 ∨ 7 ≤ (5 : Int32).toNatClampNeg) by decide) rfl d_FontShelf_bestWeight_22 ?_
    refine lv_isub hx hb d_FontShelf_bestWeight_23 ?_
    refine lv_topi (fun y_7 ey_7 => ?_)
    obtain rfl : y_7 = (14 : Int32) := ey_7.trans (by decide)
    refine lv_icmp_gt (tgt := 52) hx hb d_FontShelf_bestWeight_24 (by decide) (fun c24 => absurd c24 (by decide)) (fun _ => ?_)
    refine lv_aload_n hx hb d_FontShelf_bestWeight_27 rfl (lv_at hl 1 rfl) ?_
    refine lv_iconst (v := 5) hx hb d_FontShelf_bestWeight_28 (by decide) ?_
    refine lv_iload_n hx hb d_FontShelf_bestWeight_29 rfl (lv_at hl 2 rfl) ?_
    refine lv_iload_n hx hb d_FontShelf_bestWeight_30 rfl (lv_at hl 3 rfl) ?_
    refine lv_iload_n hx hb d_FontShelf_bestWeight_31 rfl (lv_at hl 0 rfl) ?_
    refine lv_imul hx hb d_FontShelf_bestWeight_32 ?_
    refine lv_iadd hx hb d_FontShelf_bestWeight_33 ?_
    have hPc := hP.sub (ws' := [(h0, .inr (3, [.ref s_ids, .ref s_attributes, .ref s_permanent, .int 0, .ref s_glyphs, .int s_glyphCount, .ref s_dots, .int s_used, .ref s_wishes, .ref s_pins, .int s_id, .int s_code, .ref s_chosen, .int s_chosenKnown, .ref s_left, .ref s_coming]))]) [0] rfl
    have hDc := hD.sub (ws' := [(h0, .inr (3, [.ref s_ids, .ref s_attributes, .ref s_permanent, .int 0, .ref s_glyphs, .int s_glyphCount, .ref s_dots, .int s_used, .ref s_wishes, .ref s_pins, .int s_id, .int s_code, .ref s_chosen, .int s_chosenKnown, .ref s_left, .ref s_coming]))]) [0] (by decide) rfl
    have hKc := hK.sub (tys' := []) [] rfl
    have hFc := va_free (wc := [(h0, .inr (3, [.ref s_ids, .ref s_attributes, .ref s_permanent, .int 0, .ref s_glyphs, .int s_glyphCount, .ref s_dots, .int s_used, .ref s_wishes, .ref s_pins, .int s_id, .int s_code, .ref s_chosen, .int s_chosenKnown, .ref s_left, .ref s_coming]))]) hD hS hA [0] rfl
    refine va_calli (va_runV (As := [.int 5, .int (x + (st * 3))]) (rest := []) ⟨hx, hb, hml, hown, hwd⟩ (c_anyLeft_0 l dC dI tt h0 s_ids s_attributes s_permanent s_glyphs s_glyphCount s_dots s_used s_wishes s_pins s_id s_code s_chosen s_chosenKnown s_left s_coming 5 (x + (st * 3)) H.size ) (cwV 2 hwd (gV gd_FontShelf_anyLeft wd_2_90 wd_2_92 ws_16 wd_1_5) rfl rfl rfl (by decide +kernel) ⟨Nat.le_of_ble_eq_true rfl, Nat.le_of_ble_eq_true rfl⟩) ⟨fun a U g mk q => by obtain ⟨q0, q1, qP, qK, qD, qF⟩ := q; exact ⟨q0, q1, qP, va_K.moved (u := U) (U := U.calling g mk a) (Vm.Alike.refl U.vm) qK, qD, SF.same (u := U) (U := U.calling g mk a) rfl qF⟩, va_recv hKc hPc (ci := 3) (q0 := 0) rfl rfl, fun U hU hW => ⟨rfl, by rw [hU], by rw [hU]; exact hPc, va_K.moved hW.alike hKc, hDc.weaken (fun _ _ _ _ => trivial), by rw [hU]; exact SF.narrow (SF.moved hW (SF.kept hF (fun a h1 h2 => hS.2.1 a h1 h2))) hFc⟩⟩ rfl rfl hl.1 rfl (lv_room (Nat.le_of_ble_eq_true rfl)) d_FontShelf_bestWeight_34 ⟨Nat.le_of_ble_eq_true rfl, Nat.le_of_ble_eq_true rfl⟩) hS (fun q _ h => hFc q h) hFc ?_
    clear hPc hDc hKc hS
    intro r_8 u_9 t H1 locs ht hvm hw hB hz1 hk1 hS
    obtain ⟨hP1, hK1, hD1⟩ := hB
    rw [ht] at hP1
    have hK1 := va_K.moved hvm.symm hK1
    try dsimp only at hw
    have hJ := va_join (wr := []) (w1 := [(h0, .inr (3, [.ref s_ids, .ref s_attributes, .ref s_permanent, .int 0, .ref s_glyphs, .int s_glyphCount, .ref s_dots, .int s_used, .ref s_wishes, .ref s_pins, .int s_id, .int s_code, .ref s_chosen, .int s_chosenKnown, .ref s_left, .ref s_coming]))]) hP hD [0] [] rfl rfl (by decide) (by decide) hk1 hFc hP1 hD1
    clear hP hD hk1 hFc hP1 hD1 hz1
    obtain ⟨hP, hD⟩ := hJ
    clear hK1 ht hvm
    generalize H1 = H at hP hS ⊢
    replace hP : va_P (dC, dI) vcl [(h0, .inr (3, [.ref s_ids, .ref s_attributes, .ref s_permanent, .int 0, .ref s_glyphs, .int s_glyphCount, .ref s_dots, .int s_used, .ref s_wishes, .ref s_pins, .int s_id, .int s_code, .ref s_chosen, .int s_chosenKnown, .ref s_left, .ref s_coming]))] H := hP
    replace hD : va_D A [(h0, .inr (3, [.ref s_ids, .ref s_attributes, .ref s_permanent, .int 0, .ref s_glyphs, .int s_glyphCount, .ref s_dots, .int s_used, .ref s_wishes, .ref s_pins, .int s_id, .int s_code, .ref s_chosen, .int s_chosenKnown, .ref s_left, .ref s_coming]))] := hD
    obtain rfl := hw
    refine lv_if_eq (tgt := 46) hx hb d_FontShelf_bestWeight_37 (by decide) (fun _ => ?_) (fun c37 => absurd (by decide) c37)
    refine lv_iinc (v := 4) (lv' := [(3, .int 4), (0, .ref h0), (1, .int x), (2, .int st)]) hx hb d_FontShelf_bestWeight_46 hl (k := 0) rfl (by decide) (by decide) rfl ?_
    clear hl
    intro ls hl
    refine lv_goto (tgt := 12) hx hb d_FontShelf_bestWeight_49 (by decide) ?_
    refine lv_iload_n hx hb d_FontShelf_bestWeight_12 rfl (lv_at hl 0 rfl) ?_
    refine va_gets hx hb (SF_p3 hF).1 hS hown (hwd _ wd_2_73) (fun _ h9 => h9) d_FontShelf_bestWeight_13 ?_
    refine lv_iconst (v := 5) hx hb d_FontShelf_bestWeight_16 (by decide) ?_
    refine va_ti (v := .int 7) hx hb (SF_p3 hF).2 hS (show ¬ ((5 : Int32) < 0 ∨ 7 ≤ (5 : Int32).toNatClampNeg) by decide) rfl d_FontShelf_bestWeight_17 ?_
    refine va_gets hx hb (SF_p4 hF).1 hS hown (hwd _ wd_2_88) (fun _ h9 => h9) d_FontShelf_bestWeight_18 ?_
    refine lv_iconst (v := 5) hx hb d_FontShelf_bestWeight_21 (by decide) ?_
    refine va_ti (v := .int (-7)) hx hb (SF_p4 hF).2 hS (show ¬ ((5 : Int32) < 0 ∨ 7 ≤ (5 : Int32).toNatClampNeg) by decide) rfl d_FontShelf_bestWeight_22 ?_
    refine lv_isub hx hb d_FontShelf_bestWeight_23 ?_
    refine lv_topi (fun y_10 ey_10 => ?_)
    obtain rfl : y_10 = (14 : Int32) := ey_10.trans (by decide)
    refine lv_icmp_gt (tgt := 52) hx hb d_FontShelf_bestWeight_24 (by decide) (fun c24 => absurd c24 (by decide)) (fun _ => ?_)
    refine lv_aload_n hx hb d_FontShelf_bestWeight_27 rfl (lv_at hl 1 rfl) ?_
    refine lv_iconst (v := 5) hx hb d_FontShelf_bestWeight_28 (by decide) ?_
    refine lv_iload_n hx hb d_FontShelf_bestWeight_29 rfl (lv_at hl 2 rfl) ?_
    refine lv_iload_n hx hb d_FontShelf_bestWeight_30 rfl (lv_at hl 3 rfl) ?_
    refine lv_iload_n hx hb d_FontShelf_bestWeight_31 rfl (lv_at hl 0 rfl) ?_
    refine lv_imul hx hb d_FontShelf_bestWeight_32 ?_
    refine lv_iadd hx hb d_FontShelf_bestWeight_33 ?_
    have hPc := hP.sub (ws' := [(h0, .inr (3, [.ref s_ids, .ref s_attributes, .ref s_permanent, .int 0, .ref s_glyphs, .int s_glyphCount, .ref s_dots, .int s_used, .ref s_wishes, .ref s_pins, .int s_id, .int s_code, .ref s_chosen, .int s_chosenKnown, .ref s_left, .ref s_coming]))]) [0] rfl
    have hDc := hD.sub (ws' := [(h0, .inr (3, [.ref s_ids, .ref s_attributes, .ref s_permanent, .int 0, .ref s_glyphs, .int s_glyphCount, .ref s_dots, .int s_used, .ref s_wishes, .ref s_pins, .int s_id, .int s_code, .ref s_chosen, .int s_chosenKnown, .ref s_left, .ref s_coming]))]) [0] (by decide) rfl
    have hKc := hK.sub (tys' := []) [] rfl
    have hFc := va_free (wc := [(h0, .inr (3, [.ref s_ids, .ref s_attributes, .ref s_permanent, .int 0, .ref s_glyphs, .int s_glyphCount, .ref s_dots, .int s_used, .ref s_wishes, .ref s_pins, .int s_id, .int s_code, .ref s_chosen, .int s_chosenKnown, .ref s_left, .ref s_coming]))]) hD hS hA [0] rfl
    refine va_calli (va_runV (As := [.int 5, .int (x + (st * 4))]) (rest := []) ⟨hx, hb, hml, hown, hwd⟩ (c_anyLeft_0 l dC dI tt h0 s_ids s_attributes s_permanent s_glyphs s_glyphCount s_dots s_used s_wishes s_pins s_id s_code s_chosen s_chosenKnown s_left s_coming 5 (x + (st * 4)) H.size ) (cwV 2 hwd (gV gd_FontShelf_anyLeft wd_2_90 wd_2_92 ws_16 wd_1_5) rfl rfl rfl (by decide +kernel) ⟨Nat.le_of_ble_eq_true rfl, Nat.le_of_ble_eq_true rfl⟩) ⟨fun a U g mk q => by obtain ⟨q0, q1, qP, qK, qD, qF⟩ := q; exact ⟨q0, q1, qP, va_K.moved (u := U) (U := U.calling g mk a) (Vm.Alike.refl U.vm) qK, qD, SF.same (u := U) (U := U.calling g mk a) rfl qF⟩, va_recv hKc hPc (ci := 3) (q0 := 0) rfl rfl, fun U hU hW => ⟨rfl, by rw [hU], by rw [hU]; exact hPc, va_K.moved hW.alike hKc, hDc.weaken (fun _ _ _ _ => trivial), by rw [hU]; exact SF.narrow (SF.moved hW (SF.kept hF (fun a h1 h2 => hS.2.1 a h1 h2))) hFc⟩⟩ rfl rfl hl.1 rfl (lv_room (Nat.le_of_ble_eq_true rfl)) d_FontShelf_bestWeight_34 ⟨Nat.le_of_ble_eq_true rfl, Nat.le_of_ble_eq_true rfl⟩) hS (fun q _ h => hFc q h) hFc ?_
    clear hPc hDc hKc hS
    intro r_11 u_12 t H1 locs ht hvm hw hB hz1 hk1 hS
    obtain ⟨hP1, hK1, hD1⟩ := hB
    rw [ht] at hP1
    have hK1 := va_K.moved hvm.symm hK1
    try dsimp only at hw
    have hJ := va_join (wr := []) (w1 := [(h0, .inr (3, [.ref s_ids, .ref s_attributes, .ref s_permanent, .int 0, .ref s_glyphs, .int s_glyphCount, .ref s_dots, .int s_used, .ref s_wishes, .ref s_pins, .int s_id, .int s_code, .ref s_chosen, .int s_chosenKnown, .ref s_left, .ref s_coming]))]) hP hD [0] [] rfl rfl (by decide) (by decide) hk1 hFc hP1 hD1
    clear hP hD hk1 hFc hP1 hD1 hz1
    obtain ⟨hP, hD⟩ := hJ
    clear hK1 ht hvm
    generalize H1 = H at hP hS ⊢
    replace hP : va_P (dC, dI) vcl [(h0, .inr (3, [.ref s_ids, .ref s_attributes, .ref s_permanent, .int 0, .ref s_glyphs, .int s_glyphCount, .ref s_dots, .int s_used, .ref s_wishes, .ref s_pins, .int s_id, .int s_code, .ref s_chosen, .int s_chosenKnown, .ref s_left, .ref s_coming]))] H := hP
    replace hD : va_D A [(h0, .inr (3, [.ref s_ids, .ref s_attributes, .ref s_permanent, .int 0, .ref s_glyphs, .int s_glyphCount, .ref s_dots, .int s_used, .ref s_wishes, .ref s_pins, .int s_id, .int s_code, .ref s_chosen, .int s_chosenKnown, .ref s_left, .ref s_coming]))] := hD
    obtain rfl := hw
    refine lv_if_eq (tgt := 46) hx hb d_FontShelf_bestWeight_37 (by decide) (fun _ => ?_) (fun c37 => absurd (by decide) c37)
    refine lv_iinc (v := 5) (lv' := [(3, .int 5), (0, .ref h0), (1, .int x), (2, .int st)]) hx hb d_FontShelf_bestWeight_46 hl (k := 0) rfl (by decide) (by decide) rfl ?_
    clear hl
    intro ls hl
    refine lv_goto (tgt := 12) hx hb d_FontShelf_bestWeight_49 (by decide) ?_
    refine lv_iload_n hx hb d_FontShelf_bestWeight_12 rfl (lv_at hl 0 rfl) ?_
    refine va_gets hx hb (SF_p3 hF).1 hS hown (hwd _ wd_2_73) (fun _ h9 => h9) d_FontShelf_bestWeight_13 ?_
    refine lv_iconst (v := 5) hx hb d_FontShelf_bestWeight_16 (by decide) ?_
    refine va_ti (v := .int 7) hx hb (SF_p3 hF).2 hS (show ¬ ((5 : Int32) < 0 ∨ 7 ≤ (5 : Int32).toNatClampNeg) by decide) rfl d_FontShelf_bestWeight_17 ?_
    refine va_gets hx hb (SF_p4 hF).1 hS hown (hwd _ wd_2_88) (fun _ h9 => h9) d_FontShelf_bestWeight_18 ?_
    refine lv_iconst (v := 5) hx hb d_FontShelf_bestWeight_21 (by decide) ?_
    refine va_ti (v := .int (-7)) hx hb (SF_p4 hF).2 hS (show ¬ ((5 : Int32) < 0 ∨ 7 ≤ (5 : Int32).toNatClampNeg) by decide) rfl d_FontShelf_bestWeight_22 ?_
    refine lv_isub hx hb d_FontShelf_bestWeight_23 ?_
    refine lv_topi (fun y_13 ey_13 => ?_)
    obtain rfl : y_13 = (14 : Int32) := ey_13.trans (by decide)
    refine lv_icmp_gt (tgt := 52) hx hb d_FontShelf_bestWeight_24 (by decide) (fun c24 => absurd c24 (by decide)) (fun _ => ?_)
    refine lv_aload_n hx hb d_FontShelf_bestWeight_27 rfl (lv_at hl 1 rfl) ?_
    refine lv_iconst (v := 5) hx hb d_FontShelf_bestWeight_28 (by decide) ?_
    refine lv_iload_n hx hb d_FontShelf_bestWeight_29 rfl (lv_at hl 2 rfl) ?_
    refine lv_iload_n hx hb d_FontShelf_bestWeight_30 rfl (lv_at hl 3 rfl) ?_
    refine lv_iload_n hx hb d_FontShelf_bestWeight_31 rfl (lv_at hl 0 rfl) ?_
    refine lv_imul hx hb d_FontShelf_bestWeight_32 ?_
    refine lv_iadd hx hb d_FontShelf_bestWeight_33 ?_
    have hPc := hP.sub (ws' := [(h0, .inr (3, [.ref s_ids, .ref s_attributes, .ref s_permanent, .int 0, .ref s_glyphs, .int s_glyphCount, .ref s_dots, .int s_used, .ref s_wishes, .ref s_pins, .int s_id, .int s_code, .ref s_chosen, .int s_chosenKnown, .ref s_left, .ref s_coming]))]) [0] rfl
    have hDc := hD.sub (ws' := [(h0, .inr (3, [.ref s_ids, .ref s_attributes, .ref s_permanent, .int 0, .ref s_glyphs, .int s_glyphCount, .ref s_dots, .int s_used, .ref s_wishes, .ref s_pins, .int s_id, .int s_code, .ref s_chosen, .int s_chosenKnown, .ref s_left, .ref s_coming]))]) [0] (by decide) rfl
    have hKc := hK.sub (tys' := []) [] rfl
    have hFc := va_free (wc := [(h0, .inr (3, [.ref s_ids, .ref s_attributes, .ref s_permanent, .int 0, .ref s_glyphs, .int s_glyphCount, .ref s_dots, .int s_used, .ref s_wishes, .ref s_pins, .int s_id, .int s_code, .ref s_chosen, .int s_chosenKnown, .ref s_left, .ref s_coming]))]) hD hS hA [0] rfl
    refine va_calli (va_runV (As := [.int 5, .int (x + (st * 5))]) (rest := []) ⟨hx, hb, hml, hown, hwd⟩ (c_anyLeft_0 l dC dI tt h0 s_ids s_attributes s_permanent s_glyphs s_glyphCount s_dots s_used s_wishes s_pins s_id s_code s_chosen s_chosenKnown s_left s_coming 5 (x + (st * 5)) H.size ) (cwV 2 hwd (gV gd_FontShelf_anyLeft wd_2_90 wd_2_92 ws_16 wd_1_5) rfl rfl rfl (by decide +kernel) ⟨Nat.le_of_ble_eq_true rfl, Nat.le_of_ble_eq_true rfl⟩) ⟨fun a U g mk q => by obtain ⟨q0, q1, qP, qK, qD, qF⟩ := q; exact ⟨q0, q1, qP, va_K.moved (u := U) (U := U.calling g mk a) (Vm.Alike.refl U.vm) qK, qD, SF.same (u := U) (U := U.calling g mk a) rfl qF⟩, va_recv hKc hPc (ci := 3) (q0 := 0) rfl rfl, fun U hU hW => ⟨rfl, by rw [hU], by rw [hU]; exact hPc, va_K.moved hW.alike hKc, hDc.weaken (fun _ _ _ _ => trivial), by rw [hU]; exact SF.narrow (SF.moved hW (SF.kept hF (fun a h1 h2 => hS.2.1 a h1 h2))) hFc⟩⟩ rfl rfl hl.1 rfl (lv_room (Nat.le_of_ble_eq_true rfl)) d_FontShelf_bestWeight_34 ⟨Nat.le_of_ble_eq_true rfl, Nat.le_of_ble_eq_true rfl⟩) hS (fun q _ h => hFc q h) hFc ?_
    clear hPc hDc hKc hS
    intro r_14 u_15 t H1 locs ht hvm hw hB hz1 hk1 hS
    obtain ⟨hP1, hK1, hD1⟩ := hB
    rw [ht] at hP1
    have hK1 := va_K.moved hvm.symm hK1
    try dsimp only at hw
    have hJ := va_join (wr := []) (w1 := [(h0, .inr (3, [.ref s_ids, .ref s_attributes, .ref s_permanent, .int 0, .ref s_glyphs, .int s_glyphCount, .ref s_dots, .int s_used, .ref s_wishes, .ref s_pins, .int s_id, .int s_code, .ref s_chosen, .int s_chosenKnown, .ref s_left, .ref s_coming]))]) hP hD [0] [] rfl rfl (by decide) (by decide) hk1 hFc hP1 hD1
    clear hP hD hk1 hFc hP1 hD1 hz1
    obtain ⟨hP, hD⟩ := hJ
    clear hK1 ht hvm
    generalize H1 = H at hP hS ⊢
    replace hP : va_P (dC, dI) vcl [(h0, .inr (3, [.ref s_ids, .ref s_attributes, .ref s_permanent, .int 0, .ref s_glyphs, .int s_glyphCount, .ref s_dots, .int s_used, .ref s_wishes, .ref s_pins, .int s_id, .int s_code, .ref s_chosen, .int s_chosenKnown, .ref s_left, .ref s_coming]))] H := hP
    replace hD : va_D A [(h0, .inr (3, [.ref s_ids, .ref s_attributes, .ref s_permanent, .int 0, .ref s_glyphs, .int s_glyphCount, .ref s_dots, .int s_used, .ref s_wishes, .ref s_pins, .int s_id, .int s_code, .ref s_chosen, .int s_chosenKnown, .ref s_left, .ref s_coming]))] := hD
    obtain rfl := hw
    refine lv_if_eq (tgt := 46) hx hb d_FontShelf_bestWeight_37 (by decide) (fun _ => ?_) (fun c37 => absurd (by decide) c37)
    refine lv_iinc (v := 6) (lv' := [(3, .int 6), (0, .ref h0), (1, .int x), (2, .int st)]) hx hb d_FontShelf_bestWeight_46 hl (k := 0) rfl (by decide) (by decide) rfl ?_
    clear hl
    intro ls hl
    refine lv_goto (tgt := 12) hx hb d_FontShelf_bestWeight_49 (by decide) ?_
    refine lv_iload_n hx hb d_FontShelf_bestWeight_12 rfl (lv_at hl 0 rfl) ?_
    refine va_gets hx hb (SF_p3 hF).1 hS hown (hwd _ wd_2_73) (fun _ h9 => h9) d_FontShelf_bestWeight_13 ?_
    refine lv_iconst (v := 5) hx hb d_FontShelf_bestWeight_16 (by decide) ?_
    refine va_ti (v := .int 7) hx hb (SF_p3 hF).2 hS (show ¬ ((5 : Int32) < 0 ∨ 7 ≤ (5 : Int32).toNatClampNeg) by decide) rfl d_FontShelf_bestWeight_17 ?_
    refine va_gets hx hb (SF_p4 hF).1 hS hown (hwd _ wd_2_88) (fun _ h9 => h9) d_FontShelf_bestWeight_18 ?_
    refine lv_iconst (v := 5) hx hb d_FontShelf_bestWeight_21 (by decide) ?_
    refine va_ti (v := .int (-7)) hx hb (SF_p4 hF).2 hS (show ¬ ((5 : Int32) < 0 ∨ 7 ≤ (5 : Int32).toNatClampNeg) by decide) rfl d_FontShelf_bestWeight_22 ?_
    refine lv_isub hx hb d_FontShelf_bestWeight_23 ?_
    refine lv_topi (fun y_16 ey_16 => ?_)
    obtain rfl : y_16 = (14 : Int32) := ey_16.trans (by decide)
    refine lv_icmp_gt (tgt := 52) hx hb d_FontShelf_bestWeight_24 (by decide) (fun c24 => absurd c24 (by decide)) (fun _ => ?_)
    refine lv_aload_n hx hb d_FontShelf_bestWeight_27 rfl (lv_at hl 1 rfl) ?_
    refine lv_iconst (v := 5) hx hb d_FontShelf_bestWeight_28 (by decide) ?_
    refine lv_iload_n hx hb d_FontShelf_bestWeight_29 rfl (lv_at hl 2 rfl) ?_
    refine lv_iload_n hx hb d_FontShelf_bestWeight_30 rfl (lv_at hl 3 rfl) ?_
    refine lv_iload_n hx hb d_FontShelf_bestWeight_31 rfl (lv_at hl 0 rfl) ?_
    refine lv_imul hx hb d_FontShelf_bestWeight_32 ?_
    refine lv_iadd hx hb d_FontShelf_bestWeight_33 ?_
    have hPc := hP.sub (ws' := [(h0, .inr (3, [.ref s_ids, .ref s_attributes, .ref s_permanent, .int 0, .ref s_glyphs, .int s_glyphCount, .ref s_dots, .int s_used, .ref s_wishes, .ref s_pins, .int s_id, .int s_code, .ref s_chosen, .int s_chosenKnown, .ref s_left, .ref s_coming]))]) [0] rfl
    have hDc := hD.sub (ws' := [(h0, .inr (3, [.ref s_ids, .ref s_attributes, .ref s_permanent, .int 0, .ref s_glyphs, .int s_glyphCount, .ref s_dots, .int s_used, .ref s_wishes, .ref s_pins, .int s_id, .int s_code, .ref s_chosen, .int s_chosenKnown, .ref s_left, .ref s_coming]))]) [0] (by decide) rfl
    have hKc := hK.sub (tys' := []) [] rfl
    have hFc := va_free (wc := [(h0, .inr (3, [.ref s_ids, .ref s_attributes, .ref s_permanent, .int 0, .ref s_glyphs, .int s_glyphCount, .ref s_dots, .int s_used, .ref s_wishes, .ref s_pins, .int s_id, .int s_code, .ref s_chosen, .int s_chosenKnown, .ref s_left, .ref s_coming]))]) hD hS hA [0] rfl
    refine va_calli (va_runV (As := [.int 5, .int (x + (st * 6))]) (rest := []) ⟨hx, hb, hml, hown, hwd⟩ (c_anyLeft_0 l dC dI tt h0 s_ids s_attributes s_permanent s_glyphs s_glyphCount s_dots s_used s_wishes s_pins s_id s_code s_chosen s_chosenKnown s_left s_coming 5 (x + (st * 6)) H.size ) (cwV 2 hwd (gV gd_FontShelf_anyLeft wd_2_90 wd_2_92 ws_16 wd_1_5) rfl rfl rfl (by decide +kernel) ⟨Nat.le_of_ble_eq_true rfl, Nat.le_of_ble_eq_true rfl⟩) ⟨fun a U g mk q => by obtain ⟨q0, q1, qP, qK, qD, qF⟩ := q; exact ⟨q0, q1, qP, va_K.moved (u := U) (U := U.calling g mk a) (Vm.Alike.refl U.vm) qK, qD, SF.same (u := U) (U := U.calling g mk a) rfl qF⟩, va_recv hKc hPc (ci := 3) (q0 := 0) rfl rfl, fun U hU hW => ⟨rfl, by rw [hU], by rw [hU]; exact hPc, va_K.moved hW.alike hKc, hDc.weaken (fun _ _ _ _ => trivial), by rw [hU]; exact SF.narrow (SF.moved hW (SF.kept hF (fun a h1 h2 => hS.2.1 a h1 h2))) hFc⟩⟩ rfl rfl hl.1 rfl (lv_room (Nat.le_of_ble_eq_true rfl)) d_FontShelf_bestWeight_34 ⟨Nat.le_of_ble_eq_true rfl, Nat.le_of_ble_eq_true rfl⟩) hS (fun q _ h => hFc q h) hFc ?_
    clear hPc hDc hKc hS
    intro r_17 u_18 t H1 locs ht hvm hw hB hz1 hk1 hS
    obtain ⟨hP1, hK1, hD1⟩ := hB
    rw [ht] at hP1
    have hK1 := va_K.moved hvm.symm hK1
    try dsimp only at hw
    have hJ := va_join (wr := []) (w1 := [(h0, .inr (3, [.ref s_ids, .ref s_attributes, .ref s_permanent, .int 0, .ref s_glyphs, .int s_glyphCount, .ref s_dots, .int s_used, .ref s_wishes, .ref s_pins, .int s_id, .int s_code, .ref s_chosen, .int s_chosenKnown, .ref s_left, .ref s_coming]))]) hP hD [0] [] rfl rfl (by decide) (by decide) hk1 hFc hP1 hD1
    clear hP hD hk1 hFc hP1 hD1 hz1
    obtain ⟨hP, hD⟩ := hJ
    clear hK1 ht hvm
    generalize H1 = H at hP hS ⊢
    replace hP : va_P (dC, dI) vcl [(h0, .inr (3, [.ref s_ids, .ref s_attributes, .ref s_permanent, .int 0, .ref s_glyphs, .int s_glyphCount, .ref s_dots, .int s_used, .ref s_wishes, .ref s_pins, .int s_id, .int s_code, .ref s_chosen, .int s_chosenKnown, .ref s_left, .ref s_coming]))] H := hP
    replace hD : va_D A [(h0, .inr (3, [.ref s_ids, .ref s_attributes, .ref s_permanent, .int 0, .ref s_glyphs, .int s_glyphCount, .ref s_dots, .int s_used, .ref s_wishes, .ref s_pins, .int s_id, .int s_code, .ref s_chosen, .int s_chosenKnown, .ref s_left, .ref s_coming]))] := hD
    obtain rfl := hw
    refine lv_if_eq (tgt := 46) hx hb d_FontShelf_bestWeight_37 (by decide) (fun _ => ?_) (fun c37 => absurd (by decide) c37)
    refine lv_iinc (v := 7) (lv' := [(3, .int 7), (0, .ref h0), (1, .int x), (2, .int st)]) hx hb d_FontShelf_bestWeight_46 hl (k := 0) rfl (by decide) (by decide) rfl ?_
    clear hl
    intro ls hl
    refine lv_goto (tgt := 12) hx hb d_FontShelf_bestWeight_49 (by decide) ?_
    refine lv_iload_n hx hb d_FontShelf_bestWeight_12 rfl (lv_at hl 0 rfl) ?_
    refine va_gets hx hb (SF_p3 hF).1 hS hown (hwd _ wd_2_73) (fun _ h9 => h9) d_FontShelf_bestWeight_13 ?_
    refine lv_iconst (v := 5) hx hb d_FontShelf_bestWeight_16 (by decide) ?_
    refine va_ti (v := .int 7) hx hb (SF_p3 hF).2 hS (show ¬ ((5 : Int32) < 0 ∨ 7 ≤ (5 : Int32).toNatClampNeg) by decide) rfl d_FontShelf_bestWeight_17 ?_
    refine va_gets hx hb (SF_p4 hF).1 hS hown (hwd _ wd_2_88) (fun _ h9 => h9) d_FontShelf_bestWeight_18 ?_
    refine lv_iconst (v := 5) hx hb d_FontShelf_bestWeight_21 (by decide) ?_
    refine va_ti (v := .int (-7)) hx hb (SF_p4 hF).2 hS (show ¬ ((5 : Int32) < 0 ∨ 7 ≤ (5 : Int32).toNatClampNeg) by decide) rfl d_FontShelf_bestWeight_22 ?_
    refine lv_isub hx hb d_FontShelf_bestWeight_23 ?_
    refine lv_topi (fun y_19 ey_19 => ?_)
    obtain rfl : y_19 = (14 : Int32) := ey_19.trans (by decide)
    refine lv_icmp_gt (tgt := 52) hx hb d_FontShelf_bestWeight_24 (by decide) (fun c24 => absurd c24 (by decide)) (fun _ => ?_)
    refine lv_aload_n hx hb d_FontShelf_bestWeight_27 rfl (lv_at hl 1 rfl) ?_
    refine lv_iconst (v := 5) hx hb d_FontShelf_bestWeight_28 (by decide) ?_
    refine lv_iload_n hx hb d_FontShelf_bestWeight_29 rfl (lv_at hl 2 rfl) ?_
    refine lv_iload_n hx hb d_FontShelf_bestWeight_30 rfl (lv_at hl 3 rfl) ?_
    refine lv_iload_n hx hb d_FontShelf_bestWeight_31 rfl (lv_at hl 0 rfl) ?_
    refine lv_imul hx hb d_FontShelf_bestWeight_32 ?_
    refine lv_iadd hx hb d_FontShelf_bestWeight_33 ?_
    have hPc := hP.sub (ws' := [(h0, .inr (3, [.ref s_ids, .ref s_attributes, .ref s_permanent, .int 0, .ref s_glyphs, .int s_glyphCount, .ref s_dots, .int s_used, .ref s_wishes, .ref s_pins, .int s_id, .int s_code, .ref s_chosen, .int s_chosenKnown, .ref s_left, .ref s_coming]))]) [0] rfl
    have hDc := hD.sub (ws' := [(h0, .inr (3, [.ref s_ids, .ref s_attributes, .ref s_permanent, .int 0, .ref s_glyphs, .int s_glyphCount, .ref s_dots, .int s_used, .ref s_wishes, .ref s_pins, .int s_id, .int s_code, .ref s_chosen, .int s_chosenKnown, .ref s_left, .ref s_coming]))]) [0] (by decide) rfl
    have hKc := hK.sub (tys' := []) [] rfl
    have hFc := va_free (wc := [(h0, .inr (3, [.ref s_ids, .ref s_attributes, .ref s_permanent, .int 0, .ref s_glyphs, .int s_glyphCount, .ref s_dots, .int s_used, .ref s_wishes, .ref s_pins, .int s_id, .int s_code, .ref s_chosen, .int s_chosenKnown, .ref s_left, .ref s_coming]))]) hD hS hA [0] rfl
    refine va_calli (va_runV (As := [.int 5, .int (x + (st * 7))]) (rest := []) ⟨hx, hb, hml, hown, hwd⟩ (c_anyLeft_0 l dC dI tt h0 s_ids s_attributes s_permanent s_glyphs s_glyphCount s_dots s_used s_wishes s_pins s_id s_code s_chosen s_chosenKnown s_left s_coming 5 (x + (st * 7)) H.size ) (cwV 2 hwd (gV gd_FontShelf_anyLeft wd_2_90 wd_2_92 ws_16 wd_1_5) rfl rfl rfl (by decide +kernel) ⟨Nat.le_of_ble_eq_true rfl, Nat.le_of_ble_eq_true rfl⟩) ⟨fun a U g mk q => by obtain ⟨q0, q1, qP, qK, qD, qF⟩ := q; exact ⟨q0, q1, qP, va_K.moved (u := U) (U := U.calling g mk a) (Vm.Alike.refl U.vm) qK, qD, SF.same (u := U) (U := U.calling g mk a) rfl qF⟩, va_recv hKc hPc (ci := 3) (q0 := 0) rfl rfl, fun U hU hW => ⟨rfl, by rw [hU], by rw [hU]; exact hPc, va_K.moved hW.alike hKc, hDc.weaken (fun _ _ _ _ => trivial), by rw [hU]; exact SF.narrow (SF.moved hW (SF.kept hF (fun a h1 h2 => hS.2.1 a h1 h2))) hFc⟩⟩ rfl rfl hl.1 rfl (lv_room (Nat.le_of_ble_eq_true rfl)) d_FontShelf_bestWeight_34 ⟨Nat.le_of_ble_eq_true rfl, Nat.le_of_ble_eq_true rfl⟩) hS (fun q _ h => hFc q h) hFc ?_
    clear hPc hDc hKc hS
    intro r_20 u_21 t H1 locs ht hvm hw hB hz1 hk1 hS
    obtain ⟨hP1, hK1, hD1⟩ := hB
    rw [ht] at hP1
    have hK1 := va_K.moved hvm.symm hK1
    try dsimp only at hw
    have hJ := va_join (wr := []) (w1 := [(h0, .inr (3, [.ref s_ids, .ref s_attributes, .ref s_permanent, .int 0, .ref s_glyphs, .int s_glyphCount, .ref s_dots, .int s_used, .ref s_wishes, .ref s_pins, .int s_id, .int s_code, .ref s_chosen, .int s_chosenKnown, .ref s_left, .ref s_coming]))]) hP hD [0] [] rfl rfl (by decide) (by decide) hk1 hFc hP1 hD1
    clear hP hD hk1 hFc hP1 hD1 hz1
    obtain ⟨hP, hD⟩ := hJ
    clear hK1 ht hvm
    generalize H1 = H at hP hS ⊢
    replace hP : va_P (dC, dI) vcl [(h0, .inr (3, [.ref s_ids, .ref s_attributes, .ref s_permanent, .int 0, .ref s_glyphs, .int s_glyphCount, .ref s_dots, .int s_used, .ref s_wishes, .ref s_pins, .int s_id, .int s_code, .ref s_chosen, .int s_chosenKnown, .ref s_left, .ref s_coming]))] H := hP
    replace hD : va_D A [(h0, .inr (3, [.ref s_ids, .ref s_attributes, .ref s_permanent, .int 0, .ref s_glyphs, .int s_glyphCount, .ref s_dots, .int s_used, .ref s_wishes, .ref s_pins, .int s_id, .int s_code, .ref s_chosen, .int s_chosenKnown, .ref s_left, .ref s_coming]))] := hD
    obtain rfl := hw
    refine lv_if_eq (tgt := 46) hx hb d_FontShelf_bestWeight_37 (by decide) (fun _ => ?_) (fun c37 => absurd (by decide) c37)
    refine lv_iinc (v := 8) (lv' := [(3, .int 8), (0, .ref h0), (1, .int x), (2, .int st)]) hx hb d_FontShelf_bestWeight_46 hl (k := 0) rfl (by decide) (by decide) rfl ?_
    clear hl
    intro ls hl
    refine lv_goto (tgt := 12) hx hb d_FontShelf_bestWeight_49 (by decide) ?_
    refine lv_iload_n hx hb d_FontShelf_bestWeight_12 rfl (lv_at hl 0 rfl) ?_
    refine va_gets hx hb (SF_p3 hF).1 hS hown (hwd _ wd_2_73) (fun _ h9 => h9) d_FontShelf_bestWeight_13 ?_
    refine lv_iconst (v := 5) hx hb d_FontShelf_bestWeight_16 (by decide) ?_
    refine va_ti (v := .int 7) hx hb (SF_p3 hF).2 hS (show ¬ ((5 : Int32) < 0 ∨ 7 ≤ (5 : Int32).toNatClampNeg) by decide) rfl d_FontShelf_bestWeight_17 ?_
    refine va_gets hx hb (SF_p4 hF).1 hS hown (hwd _ wd_2_88) (fun _ h9 => h9) d_FontShelf_bestWeight_18 ?_
    refine lv_iconst (v := 5) hx hb d_FontShelf_bestWeight_21 (by decide) ?_
    refine va_ti (v := .int (-7)) hx hb (SF_p4 hF).2 hS (show ¬ ((5 : Int32) < 0 ∨ 7 ≤ (5 : Int32).toNatClampNeg) by decide) rfl d_FontShelf_bestWeight_22 ?_
    refine lv_isub hx hb d_FontShelf_bestWeight_23 ?_
    refine lv_topi (fun y_22 ey_22 => ?_)
    obtain rfl : y_22 = (14 : Int32) := ey_22.trans (by decide)
    refine lv_icmp_gt (tgt := 52) hx hb d_FontShelf_bestWeight_24 (by decide) (fun c24 => absurd c24 (by decide)) (fun _ => ?_)
    refine lv_aload_n hx hb d_FontShelf_bestWeight_27 rfl (lv_at hl 1 rfl) ?_
    refine lv_iconst (v := 5) hx hb d_FontShelf_bestWeight_28 (by decide) ?_
    refine lv_iload_n hx hb d_FontShelf_bestWeight_29 rfl (lv_at hl 2 rfl) ?_
    refine lv_iload_n hx hb d_FontShelf_bestWeight_30 rfl (lv_at hl 3 rfl) ?_
    refine lv_iload_n hx hb d_FontShelf_bestWeight_31 rfl (lv_at hl 0 rfl) ?_
    refine lv_imul hx hb d_FontShelf_bestWeight_32 ?_
    refine lv_iadd hx hb d_FontShelf_bestWeight_33 ?_
    have hPc := hP.sub (ws' := [(h0, .inr (3, [.ref s_ids, .ref s_attributes, .ref s_permanent, .int 0, .ref s_glyphs, .int s_glyphCount, .ref s_dots, .int s_used, .ref s_wishes, .ref s_pins, .int s_id, .int s_code, .ref s_chosen, .int s_chosenKnown, .ref s_left, .ref s_coming]))]) [0] rfl
    have hDc := hD.sub (ws' := [(h0, .inr (3, [.ref s_ids, .ref s_attributes, .ref s_permanent, .int 0, .ref s_glyphs, .int s_glyphCount, .ref s_dots, .int s_used, .ref s_wishes, .ref s_pins, .int s_id, .int s_code, .ref s_chosen, .int s_chosenKnown, .ref s_left, .ref s_coming]))]) [0] (by decide) rfl
    have hKc := hK.sub (tys' := []) [] rfl
    have hFc := va_free (wc := [(h0, .inr (3, [.ref s_ids, .ref s_attributes, .ref s_permanent, .int 0, .ref s_glyphs, .int s_glyphCount, .ref s_dots, .int s_used, .ref s_wishes, .ref s_pins, .int s_id, .int s_code, .ref s_chosen, .int s_chosenKnown, .ref s_left, .ref s_coming]))]) hD hS hA [0] rfl
    refine va_calli (va_runV (As := [.int 5, .int (x + (st * 8))]) (rest := []) ⟨hx, hb, hml, hown, hwd⟩ (c_anyLeft_0 l dC dI tt h0 s_ids s_attributes s_permanent s_glyphs s_glyphCount s_dots s_used s_wishes s_pins s_id s_code s_chosen s_chosenKnown s_left s_coming 5 (x + (st * 8)) H.size ) (cwV 2 hwd (gV gd_FontShelf_anyLeft wd_2_90 wd_2_92 ws_16 wd_1_5) rfl rfl rfl (by decide +kernel) ⟨Nat.le_of_ble_eq_true rfl, Nat.le_of_ble_eq_true rfl⟩) ⟨fun a U g mk q => by obtain ⟨q0, q1, qP, qK, qD, qF⟩ := q; exact ⟨q0, q1, qP, va_K.moved (u := U) (U := U.calling g mk a) (Vm.Alike.refl U.vm) qK, qD, SF.same (u := U) (U := U.calling g mk a) rfl qF⟩, va_recv hKc hPc (ci := 3) (q0 := 0) rfl rfl, fun U hU hW => ⟨rfl, by rw [hU], by rw [hU]; exact hPc, va_K.moved hW.alike hKc, hDc.weaken (fun _ _ _ _ => trivial), by rw [hU]; exact SF.narrow (SF.moved hW (SF.kept hF (fun a h1 h2 => hS.2.1 a h1 h2))) hFc⟩⟩ rfl rfl hl.1 rfl (lv_room (Nat.le_of_ble_eq_true rfl)) d_FontShelf_bestWeight_34 ⟨Nat.le_of_ble_eq_true rfl, Nat.le_of_ble_eq_true rfl⟩) hS (fun q _ h => hFc q h) hFc ?_
    clear hPc hDc hKc hS
    intro r_23 u_24 t H1 locs ht hvm hw hB hz1 hk1 hS
    obtain ⟨hP1, hK1, hD1⟩ := hB
    rw [ht] at hP1
    have hK1 := va_K.moved hvm.symm hK1
    try dsimp only at hw
    have hJ := va_join (wr := []) (w1 := [(h0, .inr (3, [.ref s_ids, .ref s_attributes, .ref s_permanent, .int 0, .ref s_glyphs, .int s_glyphCount, .ref s_dots, .int s_used, .ref s_wishes, .ref s_pins, .int s_id, .int s_code, .ref s_chosen, .int s_chosenKnown, .ref s_left, .ref s_coming]))]) hP hD [0] [] rfl rfl (by decide) (by decide) hk1 hFc hP1 hD1
    clear hP hD hk1 hFc hP1 hD1 hz1
    obtain ⟨hP, hD⟩ := hJ
    clear hK1 ht hvm
    generalize H1 = H at hP hS ⊢
    replace hP : va_P (dC, dI) vcl [(h0, .inr (3, [.ref s_ids, .ref s_attributes, .ref s_permanent, .int 0, .ref s_glyphs, .int s_glyphCount, .ref s_dots, .int s_used, .ref s_wishes, .ref s_pins, .int s_id, .int s_code, .ref s_chosen, .int s_chosenKnown, .ref s_left, .ref s_coming]))] H := hP
    replace hD : va_D A [(h0, .inr (3, [.ref s_ids, .ref s_attributes, .ref s_permanent, .int 0, .ref s_glyphs, .int s_glyphCount, .ref s_dots, .int s_used, .ref s_wishes, .ref s_pins, .int s_id, .int s_code, .ref s_chosen, .int s_chosenKnown, .ref s_left, .ref s_coming]))] := hD
    obtain rfl := hw
    refine lv_if_eq (tgt := 46) hx hb d_FontShelf_bestWeight_37 (by decide) (fun _ => ?_) (fun c37 => absurd (by decide) c37)
    refine lv_iinc (v := 9) (lv' := [(3, .int 9), (0, .ref h0), (1, .int x), (2, .int st)]) hx hb d_FontShelf_bestWeight_46 hl (k := 0) rfl (by decide) (by decide) rfl ?_
    clear hl
    intro ls hl
    refine lv_goto (tgt := 12) hx hb d_FontShelf_bestWeight_49 (by decide) ?_
    refine lv_iload_n hx hb d_FontShelf_bestWeight_12 rfl (lv_at hl 0 rfl) ?_
    refine va_gets hx hb (SF_p3 hF).1 hS hown (hwd _ wd_2_73) (fun _ h9 => h9) d_FontShelf_bestWeight_13 ?_
    refine lv_iconst (v := 5) hx hb d_FontShelf_bestWeight_16 (by decide) ?_
    refine va_ti (v := .int 7) hx hb (SF_p3 hF).2 hS (show ¬ ((5 : Int32) < 0 ∨ 7 ≤ (5 : Int32).toNatClampNeg) by decide) rfl d_FontShelf_bestWeight_17 ?_
    refine va_gets hx hb (SF_p4 hF).1 hS hown (hwd _ wd_2_88) (fun _ h9 => h9) d_FontShelf_bestWeight_18 ?_
    refine lv_iconst (v := 5) hx hb d_FontShelf_bestWeight_21 (by decide) ?_
    refine va_ti (v := .int (-7)) hx hb (SF_p4 hF).2 hS (show ¬ ((5 : Int32) < 0 ∨ 7 ≤ (5 : Int32).toNatClampNeg) by decide) rfl d_FontShelf_bestWeight_22 ?_
    refine lv_isub hx hb d_FontShelf_bestWeight_23 ?_
    refine lv_topi (fun y_25 ey_25 => ?_)
    obtain rfl : y_25 = (14 : Int32) := ey_25.trans (by decide)
    refine lv_icmp_gt (tgt := 52) hx hb d_FontShelf_bestWeight_24 (by decide) (fun c24 => absurd c24 (by decide)) (fun _ => ?_)
    refine lv_aload_n hx hb d_FontShelf_bestWeight_27 rfl (lv_at hl 1 rfl) ?_
    refine lv_iconst (v := 5) hx hb d_FontShelf_bestWeight_28 (by decide) ?_
    refine lv_iload_n hx hb d_FontShelf_bestWeight_29 rfl (lv_at hl 2 rfl) ?_
    refine lv_iload_n hx hb d_FontShelf_bestWeight_30 rfl (lv_at hl 3 rfl) ?_
    refine lv_iload_n hx hb d_FontShelf_bestWeight_31 rfl (lv_at hl 0 rfl) ?_
    refine lv_imul hx hb d_FontShelf_bestWeight_32 ?_
    refine lv_iadd hx hb d_FontShelf_bestWeight_33 ?_
    have hPc := hP.sub (ws' := [(h0, .inr (3, [.ref s_ids, .ref s_attributes, .ref s_permanent, .int 0, .ref s_glyphs, .int s_glyphCount, .ref s_dots, .int s_used, .ref s_wishes, .ref s_pins, .int s_id, .int s_code, .ref s_chosen, .int s_chosenKnown, .ref s_left, .ref s_coming]))]) [0] rfl
    have hDc := hD.sub (ws' := [(h0, .inr (3, [.ref s_ids, .ref s_attributes, .ref s_permanent, .int 0, .ref s_glyphs, .int s_glyphCount, .ref s_dots, .int s_used, .ref s_wishes, .ref s_pins, .int s_id, .int s_code, .ref s_chosen, .int s_chosenKnown, .ref s_left, .ref s_coming]))]) [0] (by decide) rfl
    have hKc := hK.sub (tys' := []) [] rfl
    have hFc := va_free (wc := [(h0, .inr (3, [.ref s_ids, .ref s_attributes, .ref s_permanent, .int 0, .ref s_glyphs, .int s_glyphCount, .ref s_dots, .int s_used, .ref s_wishes, .ref s_pins, .int s_id, .int s_code, .ref s_chosen, .int s_chosenKnown, .ref s_left, .ref s_coming]))]) hD hS hA [0] rfl
    refine va_calli (va_runV (As := [.int 5, .int (x + (st * 9))]) (rest := []) ⟨hx, hb, hml, hown, hwd⟩ (c_anyLeft_0 l dC dI tt h0 s_ids s_attributes s_permanent s_glyphs s_glyphCount s_dots s_used s_wishes s_pins s_id s_code s_chosen s_chosenKnown s_left s_coming 5 (x + (st * 9)) H.size ) (cwV 2 hwd (gV gd_FontShelf_anyLeft wd_2_90 wd_2_92 ws_16 wd_1_5) rfl rfl rfl (by decide +kernel) ⟨Nat.le_of_ble_eq_true rfl, Nat.le_of_ble_eq_true rfl⟩) ⟨fun a U g mk q => by obtain ⟨q0, q1, qP, qK, qD, qF⟩ := q; exact ⟨q0, q1, qP, va_K.moved (u := U) (U := U.calling g mk a) (Vm.Alike.refl U.vm) qK, qD, SF.same (u := U) (U := U.calling g mk a) rfl qF⟩, va_recv hKc hPc (ci := 3) (q0 := 0) rfl rfl, fun U hU hW => ⟨rfl, by rw [hU], by rw [hU]; exact hPc, va_K.moved hW.alike hKc, hDc.weaken (fun _ _ _ _ => trivial), by rw [hU]; exact SF.narrow (SF.moved hW (SF.kept hF (fun a h1 h2 => hS.2.1 a h1 h2))) hFc⟩⟩ rfl rfl hl.1 rfl (lv_room (Nat.le_of_ble_eq_true rfl)) d_FontShelf_bestWeight_34 ⟨Nat.le_of_ble_eq_true rfl, Nat.le_of_ble_eq_true rfl⟩) hS (fun q _ h => hFc q h) hFc ?_
    clear hPc hDc hKc hS
    intro r_26 u_27 t H1 locs ht hvm hw hB hz1 hk1 hS
    obtain ⟨hP1, hK1, hD1⟩ := hB
    rw [ht] at hP1
    have hK1 := va_K.moved hvm.symm hK1
    try dsimp only at hw
    have hJ := va_join (wr := []) (w1 := [(h0, .inr (3, [.ref s_ids, .ref s_attributes, .ref s_permanent, .int 0, .ref s_glyphs, .int s_glyphCount, .ref s_dots, .int s_used, .ref s_wishes, .ref s_pins, .int s_id, .int s_code, .ref s_chosen, .int s_chosenKnown, .ref s_left, .ref s_coming]))]) hP hD [0] [] rfl rfl (by decide) (by decide) hk1 hFc hP1 hD1
    clear hP hD hk1 hFc hP1 hD1 hz1
    obtain ⟨hP, hD⟩ := hJ
    clear hK1 ht hvm
    generalize H1 = H at hP hS ⊢
    replace hP : va_P (dC, dI) vcl [(h0, .inr (3, [.ref s_ids, .ref s_attributes, .ref s_permanent, .int 0, .ref s_glyphs, .int s_glyphCount, .ref s_dots, .int s_used, .ref s_wishes, .ref s_pins, .int s_id, .int s_code, .ref s_chosen, .int s_chosenKnown, .ref s_left, .ref s_coming]))] H := hP
    replace hD : va_D A [(h0, .inr (3, [.ref s_ids, .ref s_attributes, .ref s_permanent, .int 0, .ref s_glyphs, .int s_glyphCount, .ref s_dots, .int s_used, .ref s_wishes, .ref s_pins, .int s_id, .int s_code, .ref s_chosen, .int s_chosenKnown, .ref s_left, .ref s_coming]))] := hD
    obtain rfl := hw
    refine lv_if_eq (tgt := 46) hx hb d_FontShelf_bestWeight_37 (by decide) (fun _ => ?_) (fun c37 => absurd (by decide) c37)
    refine lv_iinc (v := 10) (lv' := [(3, .int 10), (0, .ref h0), (1, .int x), (2, .int st)]) hx hb d_FontShelf_bestWeight_46 hl (k := 0) rfl (by decide) (by decide) rfl ?_
    clear hl
    intro ls hl
    refine lv_goto (tgt := 12) hx hb d_FontShelf_bestWeight_49 (by decide) ?_
    refine lv_iload_n hx hb d_FontShelf_bestWeight_12 rfl (lv_at hl 0 rfl) ?_
    refine va_gets hx hb (SF_p3 hF).1 hS hown (hwd _ wd_2_73) (fun _ h9 => h9) d_FontShelf_bestWeight_13 ?_
    refine lv_iconst (v := 5) hx hb d_FontShelf_bestWeight_16 (by decide) ?_
    refine va_ti (v := .int 7) hx hb (SF_p3 hF).2 hS (show ¬ ((5 : Int32) < 0 ∨ 7 ≤ (5 : Int32).toNatClampNeg) by decide) rfl d_FontShelf_bestWeight_17 ?_
    refine va_gets hx hb (SF_p4 hF).1 hS hown (hwd _ wd_2_88) (fun _ h9 => h9) d_FontShelf_bestWeight_18 ?_
    refine lv_iconst (v := 5) hx hb d_FontShelf_bestWeight_21 (by decide) ?_
    refine va_ti (v := .int (-7)) hx hb (SF_p4 hF).2 hS (show ¬ ((5 : Int32) < 0 ∨ 7 ≤ (5 : Int32).toNatClampNeg) by decide) rfl d_FontShelf_bestWeight_22 ?_
    refine lv_isub hx hb d_FontShelf_bestWeight_23 ?_
    refine lv_topi (fun y_28 ey_28 => ?_)
    obtain rfl : y_28 = (14 : Int32) := ey_28.trans (by decide)
    refine lv_icmp_gt (tgt := 52) hx hb d_FontShelf_bestWeight_24 (by decide) (fun c24 => absurd c24 (by decide)) (fun _ => ?_)
    refine lv_aload_n hx hb d_FontShelf_bestWeight_27 rfl (lv_at hl 1 rfl) ?_
    refine lv_iconst (v := 5) hx hb d_FontShelf_bestWeight_28 (by decide) ?_
    refine lv_iload_n hx hb d_FontShelf_bestWeight_29 rfl (lv_at hl 2 rfl) ?_
    refine lv_iload_n hx hb d_FontShelf_bestWeight_30 rfl (lv_at hl 3 rfl) ?_
    refine lv_iload_n hx hb d_FontShelf_bestWeight_31 rfl (lv_at hl 0 rfl) ?_
    refine lv_imul hx hb d_FontShelf_bestWeight_32 ?_
    refine lv_iadd hx hb d_FontShelf_bestWeight_33 ?_
    have hPc := hP.sub (ws' := [(h0, .inr (3, [.ref s_ids, .ref s_attributes, .ref s_permanent, .int 0, .ref s_glyphs, .int s_glyphCount, .ref s_dots, .int s_used, .ref s_wishes, .ref s_pins, .int s_id, .int s_code, .ref s_chosen, .int s_chosenKnown, .ref s_left, .ref s_coming]))]) [0] rfl
    have hDc := hD.sub (ws' := [(h0, .inr (3, [.ref s_ids, .ref s_attributes, .ref s_permanent, .int 0, .ref s_glyphs, .int s_glyphCount, .ref s_dots, .int s_used, .ref s_wishes, .ref s_pins, .int s_id, .int s_code, .ref s_chosen, .int s_chosenKnown, .ref s_left, .ref s_coming]))]) [0] (by decide) rfl
    have hKc := hK.sub (tys' := []) [] rfl
    have hFc := va_free (wc := [(h0, .inr (3, [.ref s_ids, .ref s_attributes, .ref s_permanent, .int 0, .ref s_glyphs, .int s_glyphCount, .ref s_dots, .int s_used, .ref s_wishes, .ref s_pins, .int s_id, .int s_code, .ref s_chosen, .int s_chosenKnown, .ref s_left, .ref s_coming]))]) hD hS hA [0] rfl
    refine va_calli (va_runV (As := [.int 5, .int (x + (st * 10))]) (rest := []) ⟨hx, hb, hml, hown, hwd⟩ (c_anyLeft_0 l dC dI tt h0 s_ids s_attributes s_permanent s_glyphs s_glyphCount s_dots s_used s_wishes s_pins s_id s_code s_chosen s_chosenKnown s_left s_coming 5 (x + (st * 10)) H.size ) (cwV 2 hwd (gV gd_FontShelf_anyLeft wd_2_90 wd_2_92 ws_16 wd_1_5) rfl rfl rfl (by decide +kernel) ⟨Nat.le_of_ble_eq_true rfl, Nat.le_of_ble_eq_true rfl⟩) ⟨fun a U g mk q => by obtain ⟨q0, q1, qP, qK, qD, qF⟩ := q; exact ⟨q0, q1, qP, va_K.moved (u := U) (U := U.calling g mk a) (Vm.Alike.refl U.vm) qK, qD, SF.same (u := U) (U := U.calling g mk a) rfl qF⟩, va_recv hKc hPc (ci := 3) (q0 := 0) rfl rfl, fun U hU hW => ⟨rfl, by rw [hU], by rw [hU]; exact hPc, va_K.moved hW.alike hKc, hDc.weaken (fun _ _ _ _ => trivial), by rw [hU]; exact SF.narrow (SF.moved hW (SF.kept hF (fun a h1 h2 => hS.2.1 a h1 h2))) hFc⟩⟩ rfl rfl hl.1 rfl (lv_room (Nat.le_of_ble_eq_true rfl)) d_FontShelf_bestWeight_34 ⟨Nat.le_of_ble_eq_true rfl, Nat.le_of_ble_eq_true rfl⟩) hS (fun q _ h => hFc q h) hFc ?_
    clear hPc hDc hKc hS
    intro r_29 u_30 t H1 locs ht hvm hw hB hz1 hk1 hS
    obtain ⟨hP1, hK1, hD1⟩ := hB
    rw [ht] at hP1
    have hK1 := va_K.moved hvm.symm hK1
    try dsimp only at hw
    have hJ := va_join (wr := []) (w1 := [(h0, .inr (3, [.ref s_ids, .ref s_attributes, .ref s_permanent, .int 0, .ref s_glyphs, .int s_glyphCount, .ref s_dots, .int s_used, .ref s_wishes, .ref s_pins, .int s_id, .int s_code, .ref s_chosen, .int s_chosenKnown, .ref s_left, .ref s_coming]))]) hP hD [0] [] rfl rfl (by decide) (by decide) hk1 hFc hP1 hD1
    clear hP hD hk1 hFc hP1 hD1 hz1
    obtain ⟨hP, hD⟩ := hJ
    clear hK1 ht hvm
    generalize H1 = H at hP hS ⊢
    replace hP : va_P (dC, dI) vcl [(h0, .inr (3, [.ref s_ids, .ref s_attributes, .ref s_permanent, .int 0, .ref s_glyphs, .int s_glyphCount, .ref s_dots, .int s_used, .ref s_wishes, .ref s_pins, .int s_id, .int s_code, .ref s_chosen, .int s_chosenKnown, .ref s_left, .ref s_coming]))] H := hP
    replace hD : va_D A [(h0, .inr (3, [.ref s_ids, .ref s_attributes, .ref s_permanent, .int 0, .ref s_glyphs, .int s_glyphCount, .ref s_dots, .int s_used, .ref s_wishes, .ref s_pins, .int s_id, .int s_code, .ref s_chosen, .int s_chosenKnown, .ref s_left, .ref s_coming]))] := hD
    obtain rfl := hw
    refine lv_if_eq (tgt := 46) hx hb d_FontShelf_bestWeight_37 (by decide) (fun _ => ?_) (fun c37 => absurd (by decide) c37)
    refine lv_iinc (v := 11) (lv' := [(3, .int 11), (0, .ref h0), (1, .int x), (2, .int st)]) hx hb d_FontShelf_bestWeight_46 hl (k := 0) rfl (by decide) (by decide) rfl ?_
    clear hl
    intro ls hl
    refine lv_goto (tgt := 12) hx hb d_FontShelf_bestWeight_49 (by decide) ?_
    refine lv_iload_n hx hb d_FontShelf_bestWeight_12 rfl (lv_at hl 0 rfl) ?_
    refine va_gets hx hb (SF_p3 hF).1 hS hown (hwd _ wd_2_73) (fun _ h9 => h9) d_FontShelf_bestWeight_13 ?_
    refine lv_iconst (v := 5) hx hb d_FontShelf_bestWeight_16 (by decide) ?_
    refine va_ti (v := .int 7) hx hb (SF_p3 hF).2 hS (show ¬ ((5 : Int32) < 0 ∨ 7 ≤ (5 : Int32).toNatClampNeg) by decide) rfl d_FontShelf_bestWeight_17 ?_
    refine va_gets hx hb (SF_p4 hF).1 hS hown (hwd _ wd_2_88) (fun _ h9 => h9) d_FontShelf_bestWeight_18 ?_
    refine lv_iconst (v := 5) hx hb d_FontShelf_bestWeight_21 (by decide) ?_
    refine va_ti (v := .int (-7)) hx hb (SF_p4 hF).2 hS (show ¬ ((5 : Int32) < 0 ∨ 7 ≤ (5 : Int32).toNatClampNeg) by decide) rfl d_FontShelf_bestWeight_22 ?_
    refine lv_isub hx hb d_FontShelf_bestWeight_23 ?_
    refine lv_topi (fun y_31 ey_31 => ?_)
    obtain rfl : y_31 = (14 : Int32) := ey_31.trans (by decide)
    refine lv_icmp_gt (tgt := 52) hx hb d_FontShelf_bestWeight_24 (by decide) (fun c24 => absurd c24 (by decide)) (fun _ => ?_)
    refine lv_aload_n hx hb d_FontShelf_bestWeight_27 rfl (lv_at hl 1 rfl) ?_
    refine lv_iconst (v := 5) hx hb d_FontShelf_bestWeight_28 (by decide) ?_
    refine lv_iload_n hx hb d_FontShelf_bestWeight_29 rfl (lv_at hl 2 rfl) ?_
    refine lv_iload_n hx hb d_FontShelf_bestWeight_30 rfl (lv_at hl 3 rfl) ?_
    refine lv_iload_n hx hb d_FontShelf_bestWeight_31 rfl (lv_at hl 0 rfl) ?_
    refine lv_imul hx hb d_FontShelf_bestWeight_32 ?_
    refine lv_iadd hx hb d_FontShelf_bestWeight_33 ?_
    have hPc := hP.sub (ws' := [(h0, .inr (3, [.ref s_ids, .ref s_attributes, .ref s_permanent, .int 0, .ref s_glyphs, .int s_glyphCount, .ref s_dots, .int s_used, .ref s_wishes, .ref s_pins, .int s_id, .int s_code, .ref s_chosen, .int s_chosenKnown, .ref s_left, .ref s_coming]))]) [0] rfl
    have hDc := hD.sub (ws' := [(h0, .inr (3, [.ref s_ids, .ref s_attributes, .ref s_permanent, .int 0, .ref s_glyphs, .int s_glyphCount, .ref s_dots, .int s_used, .ref s_wishes, .ref s_pins, .int s_id, .int s_code, .ref s_chosen, .int s_chosenKnown, .ref s_left, .ref s_coming]))]) [0] (by decide) rfl
    have hKc := hK.sub (tys' := []) [] rfl
    have hFc := va_free (wc := [(h0, .inr (3, [.ref s_ids, .ref s_attributes, .ref s_permanent, .int 0, .ref s_glyphs, .int s_glyphCount, .ref s_dots, .int s_used, .ref s_wishes, .ref s_pins, .int s_id, .int s_code, .ref s_chosen, .int s_chosenKnown, .ref s_left, .ref s_coming]))]) hD hS hA [0] rfl
    refine va_calli (va_runV (As := [.int 5, .int (x + (st * 11))]) (rest := []) ⟨hx, hb, hml, hown, hwd⟩ (c_anyLeft_0 l dC dI tt h0 s_ids s_attributes s_permanent s_glyphs s_glyphCount s_dots s_used s_wishes s_pins s_id s_code s_chosen s_chosenKnown s_left s_coming 5 (x + (st * 11)) H.size ) (cwV 2 hwd (gV gd_FontShelf_anyLeft wd_2_90 wd_2_92 ws_16 wd_1_5) rfl rfl rfl (by decide +kernel) ⟨Nat.le_of_ble_eq_true rfl, Nat.le_of_ble_eq_true rfl⟩) ⟨fun a U g mk q => by obtain ⟨q0, q1, qP, qK, qD, qF⟩ := q; exact ⟨q0, q1, qP, va_K.moved (u := U) (U := U.calling g mk a) (Vm.Alike.refl U.vm) qK, qD, SF.same (u := U) (U := U.calling g mk a) rfl qF⟩, va_recv hKc hPc (ci := 3) (q0 := 0) rfl rfl, fun U hU hW => ⟨rfl, by rw [hU], by rw [hU]; exact hPc, va_K.moved hW.alike hKc, hDc.weaken (fun _ _ _ _ => trivial), by rw [hU]; exact SF.narrow (SF.moved hW (SF.kept hF (fun a h1 h2 => hS.2.1 a h1 h2))) hFc⟩⟩ rfl rfl hl.1 rfl (lv_room (Nat.le_of_ble_eq_true rfl)) d_FontShelf_bestWeight_34 ⟨Nat.le_of_ble_eq_true rfl, Nat.le_of_ble_eq_true rfl⟩) hS (fun q _ h => hFc q h) hFc ?_
    clear hPc hDc hKc hS
    intro r_32 u_33 t H1 locs ht hvm hw hB hz1 hk1 hS
    obtain ⟨hP1, hK1, hD1⟩ := hB
    rw [ht] at hP1
    have hK1 := va_K.moved hvm.symm hK1
    try dsimp only at hw
    have hJ := va_join (wr := []) (w1 := [(h0, .inr (3, [.ref s_ids, .ref s_attributes, .ref s_permanent, .int 0, .ref s_glyphs, .int s_glyphCount, .ref s_dots, .int s_used, .ref s_wishes, .ref s_pins, .int s_id, .int s_code, .ref s_chosen, .int s_chosenKnown, .ref s_left, .ref s_coming]))]) hP hD [0] [] rfl rfl (by decide) (by decide) hk1 hFc hP1 hD1
    clear hP hD hk1 hFc hP1 hD1 hz1
    obtain ⟨hP, hD⟩ := hJ
    clear hK1 ht hvm
    generalize H1 = H at hP hS ⊢
    replace hP : va_P (dC, dI) vcl [(h0, .inr (3, [.ref s_ids, .ref s_attributes, .ref s_permanent, .int 0, .ref s_glyphs, .int s_glyphCount, .ref s_dots, .int s_used, .ref s_wishes, .ref s_pins, .int s_id, .int s_code, .ref s_chosen, .int s_chosenKnown, .ref s_left, .ref s_coming]))] H := hP
    replace hD : va_D A [(h0, .inr (3, [.ref s_ids, .ref s_attributes, .ref s_permanent, .int 0, .ref s_glyphs, .int s_glyphCount, .ref s_dots, .int s_used, .ref s_wishes, .ref s_pins, .int s_id, .int s_code, .ref s_chosen, .int s_chosenKnown, .ref s_left, .ref s_coming]))] := hD
    obtain rfl := hw
    refine lv_if_eq (tgt := 46) hx hb d_FontShelf_bestWeight_37 (by decide) (fun _ => ?_) (fun c37 => absurd (by decide) c37)
    refine lv_iinc (v := 12) (lv' := [(3, .int 12), (0, .ref h0), (1, .int x), (2, .int st)]) hx hb d_FontShelf_bestWeight_46 hl (k := 0) rfl (by decide) (by decide) rfl ?_
    clear hl
    intro ls hl
    refine lv_goto (tgt := 12) hx hb d_FontShelf_bestWeight_49 (by decide) ?_
    refine lv_iload_n hx hb d_FontShelf_bestWeight_12 rfl (lv_at hl 0 rfl) ?_
    refine va_gets hx hb (SF_p3 hF).1 hS hown (hwd _ wd_2_73) (fun _ h9 => h9) d_FontShelf_bestWeight_13 ?_
    refine lv_iconst (v := 5) hx hb d_FontShelf_bestWeight_16 (by decide) ?_
    refine va_ti (v := .int 7) hx hb (SF_p3 hF).2 hS (show ¬ ((5 : Int32) < 0 ∨ 7 ≤ (5 : Int32).toNatClampNeg) by decide) rfl d_FontShelf_bestWeight_17 ?_
    refine va_gets hx hb (SF_p4 hF).1 hS hown (hwd _ wd_2_88) (fun _ h9 => h9) d_FontShelf_bestWeight_18 ?_
    refine lv_iconst (v := 5) hx hb d_FontShelf_bestWeight_21 (by decide) ?_
    refine va_ti (v := .int (-7)) hx hb (SF_p4 hF).2 hS (show ¬ ((5 : Int32) < 0 ∨ 7 ≤ (5 : Int32).toNatClampNeg) by decide) rfl d_FontShelf_bestWeight_22 ?_
    refine lv_isub hx hb d_FontShelf_bestWeight_23 ?_
    refine lv_topi (fun y_34 ey_34 => ?_)
    obtain rfl : y_34 = (14 : Int32) := ey_34.trans (by decide)
    refine lv_icmp_gt (tgt := 52) hx hb d_FontShelf_bestWeight_24 (by decide) (fun c24 => absurd c24 (by decide)) (fun _ => ?_)
    refine lv_aload_n hx hb d_FontShelf_bestWeight_27 rfl (lv_at hl 1 rfl) ?_
    refine lv_iconst (v := 5) hx hb d_FontShelf_bestWeight_28 (by decide) ?_
    refine lv_iload_n hx hb d_FontShelf_bestWeight_29 rfl (lv_at hl 2 rfl) ?_
    refine lv_iload_n hx hb d_FontShelf_bestWeight_30 rfl (lv_at hl 3 rfl) ?_
    refine lv_iload_n hx hb d_FontShelf_bestWeight_31 rfl (lv_at hl 0 rfl) ?_
    refine lv_imul hx hb d_FontShelf_bestWeight_32 ?_
    refine lv_iadd hx hb d_FontShelf_bestWeight_33 ?_
    have hPc := hP.sub (ws' := [(h0, .inr (3, [.ref s_ids, .ref s_attributes, .ref s_permanent, .int 0, .ref s_glyphs, .int s_glyphCount, .ref s_dots, .int s_used, .ref s_wishes, .ref s_pins, .int s_id, .int s_code, .ref s_chosen, .int s_chosenKnown, .ref s_left, .ref s_coming]))]) [0] rfl
    have hDc := hD.sub (ws' := [(h0, .inr (3, [.ref s_ids, .ref s_attributes, .ref s_permanent, .int 0, .ref s_glyphs, .int s_glyphCount, .ref s_dots, .int s_used, .ref s_wishes, .ref s_pins, .int s_id, .int s_code, .ref s_chosen, .int s_chosenKnown, .ref s_left, .ref s_coming]))]) [0] (by decide) rfl
    have hKc := hK.sub (tys' := []) [] rfl
    have hFc := va_free (wc := [(h0, .inr (3, [.ref s_ids, .ref s_attributes, .ref s_permanent, .int 0, .ref s_glyphs, .int s_glyphCount, .ref s_dots, .int s_used, .ref s_wishes, .ref s_pins, .int s_id, .int s_code, .ref s_chosen, .int s_chosenKnown, .ref s_left, .ref s_coming]))]) hD hS hA [0] rfl
    refine va_calli (va_runV (As := [.int 5, .int (x + (st * 12))]) (rest := []) ⟨hx, hb, hml, hown, hwd⟩ (c_anyLeft_0 l dC dI tt h0 s_ids s_attributes s_permanent s_glyphs s_glyphCount s_dots s_used s_wishes s_pins s_id s_code s_chosen s_chosenKnown s_left s_coming 5 (x + (st * 12)) H.size ) (cwV 2 hwd (gV gd_FontShelf_anyLeft wd_2_90 wd_2_92 ws_16 wd_1_5) rfl rfl rfl (by decide +kernel) ⟨Nat.le_of_ble_eq_true rfl, Nat.le_of_ble_eq_true rfl⟩) ⟨fun a U g mk q => by obtain ⟨q0, q1, qP, qK, qD, qF⟩ := q; exact ⟨q0, q1, qP, va_K.moved (u := U) (U := U.calling g mk a) (Vm.Alike.refl U.vm) qK, qD, SF.same (u := U) (U := U.calling g mk a) rfl qF⟩, va_recv hKc hPc (ci := 3) (q0 := 0) rfl rfl, fun U hU hW => ⟨rfl, by rw [hU], by rw [hU]; exact hPc, va_K.moved hW.alike hKc, hDc.weaken (fun _ _ _ _ => trivial), by rw [hU]; exact SF.narrow (SF.moved hW (SF.kept hF (fun a h1 h2 => hS.2.1 a h1 h2))) hFc⟩⟩ rfl rfl hl.1 rfl (lv_room (Nat.le_of_ble_eq_true rfl)) d_FontShelf_bestWeight_34 ⟨Nat.le_of_ble_eq_true rfl, Nat.le_of_ble_eq_true rfl⟩) hS (fun q _ h => hFc q h) hFc ?_
    clear hPc hDc hKc hS
    intro r_35 u_36 t H1 locs ht hvm hw hB hz1 hk1 hS
    obtain ⟨hP1, hK1, hD1⟩ := hB
    rw [ht] at hP1
    have hK1 := va_K.moved hvm.symm hK1
    try dsimp only at hw
    have hJ := va_join (wr := []) (w1 := [(h0, .inr (3, [.ref s_ids, .ref s_attributes, .ref s_permanent, .int 0, .ref s_glyphs, .int s_glyphCount, .ref s_dots, .int s_used, .ref s_wishes, .ref s_pins, .int s_id, .int s_code, .ref s_chosen, .int s_chosenKnown, .ref s_left, .ref s_coming]))]) hP hD [0] [] rfl rfl (by decide) (by decide) hk1 hFc hP1 hD1
    clear hP hD hk1 hFc hP1 hD1 hz1
    obtain ⟨hP, hD⟩ := hJ
    clear hK1 ht hvm
    generalize H1 = H at hP hS ⊢
    replace hP : va_P (dC, dI) vcl [(h0, .inr (3, [.ref s_ids, .ref s_attributes, .ref s_permanent, .int 0, .ref s_glyphs, .int s_glyphCount, .ref s_dots, .int s_used, .ref s_wishes, .ref s_pins, .int s_id, .int s_code, .ref s_chosen, .int s_chosenKnown, .ref s_left, .ref s_coming]))] H := hP
    replace hD : va_D A [(h0, .inr (3, [.ref s_ids, .ref s_attributes, .ref s_permanent, .int 0, .ref s_glyphs, .int s_glyphCount, .ref s_dots, .int s_used, .ref s_wishes, .ref s_pins, .int s_id, .int s_code, .ref s_chosen, .int s_chosenKnown, .ref s_left, .ref s_coming]))] := hD
    obtain rfl := hw
    refine lv_if_eq (tgt := 46) hx hb d_FontShelf_bestWeight_37 (by decide) (fun _ => ?_) (fun c37 => absurd (by decide) c37)
    refine lv_iinc (v := 13) (lv' := [(3, .int 13), (0, .ref h0), (1, .int x), (2, .int st)]) hx hb d_FontShelf_bestWeight_46 hl (k := 0) rfl (by decide) (by decide) rfl ?_
    clear hl
    intro ls hl
    refine lv_goto (tgt := 12) hx hb d_FontShelf_bestWeight_49 (by decide) ?_
    refine lv_iload_n hx hb d_FontShelf_bestWeight_12 rfl (lv_at hl 0 rfl) ?_
    refine va_gets hx hb (SF_p3 hF).1 hS hown (hwd _ wd_2_73) (fun _ h9 => h9) d_FontShelf_bestWeight_13 ?_
    refine lv_iconst (v := 5) hx hb d_FontShelf_bestWeight_16 (by decide) ?_
    refine va_ti (v := .int 7) hx hb (SF_p3 hF).2 hS (show ¬ ((5 : Int32) < 0 ∨ 7 ≤ (5 : Int32).toNatClampNeg) by decide) rfl d_FontShelf_bestWeight_17 ?_
    refine va_gets hx hb (SF_p4 hF).1 hS hown (hwd _ wd_2_88) (fun _ h9 => h9) d_FontShelf_bestWeight_18 ?_
    refine lv_iconst (v := 5) hx hb d_FontShelf_bestWeight_21 (by decide) ?_
    refine va_ti (v := .int (-7)) hx hb (SF_p4 hF).2 hS (show ¬ ((5 : Int32) < 0 ∨ 7 ≤ (5 : Int32).toNatClampNeg) by decide) rfl d_FontShelf_bestWeight_22 ?_
    refine lv_isub hx hb d_FontShelf_bestWeight_23 ?_
    refine lv_topi (fun y_37 ey_37 => ?_)
    obtain rfl : y_37 = (14 : Int32) := ey_37.trans (by decide)
    refine lv_icmp_gt (tgt := 52) hx hb d_FontShelf_bestWeight_24 (by decide) (fun c24 => absurd c24 (by decide)) (fun _ => ?_)
    refine lv_aload_n hx hb d_FontShelf_bestWeight_27 rfl (lv_at hl 1 rfl) ?_
    refine lv_iconst (v := 5) hx hb d_FontShelf_bestWeight_28 (by decide) ?_
    refine lv_iload_n hx hb d_FontShelf_bestWeight_29 rfl (lv_at hl 2 rfl) ?_
    refine lv_iload_n hx hb d_FontShelf_bestWeight_30 rfl (lv_at hl 3 rfl) ?_
    refine lv_iload_n hx hb d_FontShelf_bestWeight_31 rfl (lv_at hl 0 rfl) ?_
    refine lv_imul hx hb d_FontShelf_bestWeight_32 ?_
    refine lv_iadd hx hb d_FontShelf_bestWeight_33 ?_
    have hPc := hP.sub (ws' := [(h0, .inr (3, [.ref s_ids, .ref s_attributes, .ref s_permanent, .int 0, .ref s_glyphs, .int s_glyphCount, .ref s_dots, .int s_used, .ref s_wishes, .ref s_pins, .int s_id, .int s_code, .ref s_chosen, .int s_chosenKnown, .ref s_left, .ref s_coming]))]) [0] rfl
    have hDc := hD.sub (ws' := [(h0, .inr (3, [.ref s_ids, .ref s_attributes, .ref s_permanent, .int 0, .ref s_glyphs, .int s_glyphCount, .ref s_dots, .int s_used, .ref s_wishes, .ref s_pins, .int s_id, .int s_code, .ref s_chosen, .int s_chosenKnown, .ref s_left, .ref s_coming]))]) [0] (by decide) rfl
    have hKc := hK.sub (tys' := []) [] rfl
    have hFc := va_free (wc := [(h0, .inr (3, [.ref s_ids, .ref s_attributes, .ref s_permanent, .int 0, .ref s_glyphs, .int s_glyphCount, .ref s_dots, .int s_used, .ref s_wishes, .ref s_pins, .int s_id, .int s_code, .ref s_chosen, .int s_chosenKnown, .ref s_left, .ref s_coming]))]) hD hS hA [0] rfl
    refine va_calli (va_runV (As := [.int 5, .int (x + (st * 13))]) (rest := []) ⟨hx, hb, hml, hown, hwd⟩ (c_anyLeft_0 l dC dI tt h0 s_ids s_attributes s_permanent s_glyphs s_glyphCount s_dots s_used s_wishes s_pins s_id s_code s_chosen s_chosenKnown s_left s_coming 5 (x + (st * 13)) H.size ) (cwV 2 hwd (gV gd_FontShelf_anyLeft wd_2_90 wd_2_92 ws_16 wd_1_5) rfl rfl rfl (by decide +kernel) ⟨Nat.le_of_ble_eq_true rfl, Nat.le_of_ble_eq_true rfl⟩) ⟨fun a U g mk q => by obtain ⟨q0, q1, qP, qK, qD, qF⟩ := q; exact ⟨q0, q1, qP, va_K.moved (u := U) (U := U.calling g mk a) (Vm.Alike.refl U.vm) qK, qD, SF.same (u := U) (U := U.calling g mk a) rfl qF⟩, va_recv hKc hPc (ci := 3) (q0 := 0) rfl rfl, fun U hU hW => ⟨rfl, by rw [hU], by rw [hU]; exact hPc, va_K.moved hW.alike hKc, hDc.weaken (fun _ _ _ _ => trivial), by rw [hU]; exact SF.narrow (SF.moved hW (SF.kept hF (fun a h1 h2 => hS.2.1 a h1 h2))) hFc⟩⟩ rfl rfl hl.1 rfl (lv_room (Nat.le_of_ble_eq_true rfl)) d_FontShelf_bestWeight_34 ⟨Nat.le_of_ble_eq_true rfl, Nat.le_of_ble_eq_true rfl⟩) hS (fun q _ h => hFc q h) hFc ?_
    clear hPc hDc hKc hS
    intro r_38 u_39 t H1 locs ht hvm hw hB hz1 hk1 hS
    obtain ⟨hP1, hK1, hD1⟩ := hB
    rw [ht] at hP1
    have hK1 := va_K.moved hvm.symm hK1
    try dsimp only at hw
    have hJ := va_join (wr := []) (w1 := [(h0, .inr (3, [.ref s_ids, .ref s_attributes, .ref s_permanent, .int 0, .ref s_glyphs, .int s_glyphCount, .ref s_dots, .int s_used, .ref s_wishes, .ref s_pins, .int s_id, .int s_code, .ref s_chosen, .int s_chosenKnown, .ref s_left, .ref s_coming]))]) hP hD [0] [] rfl rfl (by decide) (by decide) hk1 hFc hP1 hD1
    clear hP hD hk1 hFc hP1 hD1 hz1
    obtain ⟨hP, hD⟩ := hJ
    clear hK1 ht hvm
    generalize H1 = H at hP hS ⊢
    replace hP : va_P (dC, dI) vcl [(h0, .inr (3, [.ref s_ids, .ref s_attributes, .ref s_permanent, .int 0, .ref s_glyphs, .int s_glyphCount, .ref s_dots, .int s_used, .ref s_wishes, .ref s_pins, .int s_id, .int s_code, .ref s_chosen, .int s_chosenKnown, .ref s_left, .ref s_coming]))] H := hP
    replace hD : va_D A [(h0, .inr (3, [.ref s_ids, .ref s_attributes, .ref s_permanent, .int 0, .ref s_glyphs, .int s_glyphCount, .ref s_dots, .int s_used, .ref s_wishes, .ref s_pins, .int s_id, .int s_code, .ref s_chosen, .int s_chosenKnown, .ref s_left, .ref s_coming]))] := hD
    obtain rfl := hw
    refine lv_if_eq (tgt := 46) hx hb d_FontShelf_bestWeight_37 (by decide) (fun _ => ?_) (fun c37 => absurd (by decide) c37)
    refine lv_iinc (v := 14) (lv' := [(3, .int 14), (0, .ref h0), (1, .int x), (2, .int st)]) hx hb d_FontShelf_bestWeight_46 hl (k := 0) rfl (by decide) (by decide) rfl ?_
    clear hl
    intro ls hl
    refine lv_goto (tgt := 12) hx hb d_FontShelf_bestWeight_49 (by decide) ?_
    refine lv_iload_n hx hb d_FontShelf_bestWeight_12 rfl (lv_at hl 0 rfl) ?_
    refine va_gets hx hb (SF_p3 hF).1 hS hown (hwd _ wd_2_73) (fun _ h9 => h9) d_FontShelf_bestWeight_13 ?_
    refine lv_iconst (v := 5) hx hb d_FontShelf_bestWeight_16 (by decide) ?_
    refine va_ti (v := .int 7) hx hb (SF_p3 hF).2 hS (show ¬ ((5 : Int32) < 0 ∨ 7 ≤ (5 : Int32).toNatClampNeg) by decide) rfl d_FontShelf_bestWeight_17 ?_
    refine va_gets hx hb (SF_p4 hF).1 hS hown (hwd _ wd_2_88) (fun _ h9 => h9) d_FontShelf_bestWeight_18 ?_
    refine lv_iconst (v := 5) hx hb d_FontShelf_bestWeight_21 (by decide) ?_
    refine va_ti (v := .int (-7)) hx hb (SF_p4 hF).2 hS (show ¬ ((5 : Int32) < 0 ∨ 7 ≤ (5 : Int32).toNatClampNeg) by decide) rfl d_FontShelf_bestWeight_22 ?_
    refine lv_isub hx hb d_FontShelf_bestWeight_23 ?_
    refine lv_topi (fun y_40 ey_40 => ?_)
    obtain rfl : y_40 = (14 : Int32) := ey_40.trans (by decide)
    refine lv_icmp_gt (tgt := 52) hx hb d_FontShelf_bestWeight_24 (by decide) (fun c24 => absurd c24 (by decide)) (fun _ => ?_)
    refine lv_aload_n hx hb d_FontShelf_bestWeight_27 rfl (lv_at hl 1 rfl) ?_
    refine lv_iconst (v := 5) hx hb d_FontShelf_bestWeight_28 (by decide) ?_
    refine lv_iload_n hx hb d_FontShelf_bestWeight_29 rfl (lv_at hl 2 rfl) ?_
    refine lv_iload_n hx hb d_FontShelf_bestWeight_30 rfl (lv_at hl 3 rfl) ?_
    refine lv_iload_n hx hb d_FontShelf_bestWeight_31 rfl (lv_at hl 0 rfl) ?_
    refine lv_imul hx hb d_FontShelf_bestWeight_32 ?_
    refine lv_iadd hx hb d_FontShelf_bestWeight_33 ?_
    have hPc := hP.sub (ws' := [(h0, .inr (3, [.ref s_ids, .ref s_attributes, .ref s_permanent, .int 0, .ref s_glyphs, .int s_glyphCount, .ref s_dots, .int s_used, .ref s_wishes, .ref s_pins, .int s_id, .int s_code, .ref s_chosen, .int s_chosenKnown, .ref s_left, .ref s_coming]))]) [0] rfl
    have hDc := hD.sub (ws' := [(h0, .inr (3, [.ref s_ids, .ref s_attributes, .ref s_permanent, .int 0, .ref s_glyphs, .int s_glyphCount, .ref s_dots, .int s_used, .ref s_wishes, .ref s_pins, .int s_id, .int s_code, .ref s_chosen, .int s_chosenKnown, .ref s_left, .ref s_coming]))]) [0] (by decide) rfl
    have hKc := hK.sub (tys' := []) [] rfl
    have hFc := va_free (wc := [(h0, .inr (3, [.ref s_ids, .ref s_attributes, .ref s_permanent, .int 0, .ref s_glyphs, .int s_glyphCount, .ref s_dots, .int s_used, .ref s_wishes, .ref s_pins, .int s_id, .int s_code, .ref s_chosen, .int s_chosenKnown, .ref s_left, .ref s_coming]))]) hD hS hA [0] rfl
    refine va_calli (va_runV (As := [.int 5, .int (x + (st * 14))]) (rest := []) ⟨hx, hb, hml, hown, hwd⟩ (c_anyLeft_0 l dC dI tt h0 s_ids s_attributes s_permanent s_glyphs s_glyphCount s_dots s_used s_wishes s_pins s_id s_code s_chosen s_chosenKnown s_left s_coming 5 (x + (st * 14)) H.size ) (cwV 2 hwd (gV gd_FontShelf_anyLeft wd_2_90 wd_2_92 ws_16 wd_1_5) rfl rfl rfl (by decide +kernel) ⟨Nat.le_of_ble_eq_true rfl, Nat.le_of_ble_eq_true rfl⟩) ⟨fun a U g mk q => by obtain ⟨q0, q1, qP, qK, qD, qF⟩ := q; exact ⟨q0, q1, qP, va_K.moved (u := U) (U := U.calling g mk a) (Vm.Alike.refl U.vm) qK, qD, SF.same (u := U) (U := U.calling g mk a) rfl qF⟩, va_recv hKc hPc (ci := 3) (q0 := 0) rfl rfl, fun U hU hW => ⟨rfl, by rw [hU], by rw [hU]; exact hPc, va_K.moved hW.alike hKc, hDc.weaken (fun _ _ _ _ => trivial), by rw [hU]; exact SF.narrow (SF.moved hW (SF.kept hF (fun a h1 h2 => hS.2.1 a h1 h2))) hFc⟩⟩ rfl rfl hl.1 rfl (lv_room (Nat.le_of_ble_eq_true rfl)) d_FontShelf_bestWeight_34 ⟨Nat.le_of_ble_eq_true rfl, Nat.le_of_ble_eq_true rfl⟩) hS (fun q _ h => hFc q h) hFc ?_
    clear hPc hDc hKc hS
    intro r_41 u_42 t H1 locs ht hvm hw hB hz1 hk1 hS
    obtain ⟨hP1, hK1, hD1⟩ := hB
    rw [ht] at hP1
    have hK1 := va_K.moved hvm.symm hK1
    try dsimp only at hw
    have hJ := va_join (wr := []) (w1 := [(h0, .inr (3, [.ref s_ids, .ref s_attributes, .ref s_permanent, .int 0, .ref s_glyphs, .int s_glyphCount, .ref s_dots, .int s_used, .ref s_wishes, .ref s_pins, .int s_id, .int s_code, .ref s_chosen, .int s_chosenKnown, .ref s_left, .ref s_coming]))]) hP hD [0] [] rfl rfl (by decide) (by decide) hk1 hFc hP1 hD1
    clear hP hD hk1 hFc hP1 hD1 hz1
    obtain ⟨hP, hD⟩ := hJ
    clear hK1 ht hvm
    generalize H1 = H at hP hS ⊢
    replace hP : va_P (dC, dI) vcl [(h0, .inr (3, [.ref s_ids, .ref s_attributes, .ref s_permanent, .int 0, .ref s_glyphs, .int s_glyphCount, .ref s_dots, .int s_used, .ref s_wishes, .ref s_pins, .int s_id, .int s_code, .ref s_chosen, .int s_chosenKnown, .ref s_left, .ref s_coming]))] H := hP
    replace hD : va_D A [(h0, .inr (3, [.ref s_ids, .ref s_attributes, .ref s_permanent, .int 0, .ref s_glyphs, .int s_glyphCount, .ref s_dots, .int s_used, .ref s_wishes, .ref s_pins, .int s_id, .int s_code, .ref s_chosen, .int s_chosenKnown, .ref s_left, .ref s_coming]))] := hD
    obtain rfl := hw
    refine lv_if_eq (tgt := 46) hx hb d_FontShelf_bestWeight_37 (by decide) (fun _ => ?_) (fun c37 => absurd (by decide) c37)
    refine lv_iinc (v := 15) (lv' := [(3, .int 15), (0, .ref h0), (1, .int x), (2, .int st)]) hx hb d_FontShelf_bestWeight_46 hl (k := 0) rfl (by decide) (by decide) rfl ?_
    clear hl
    intro ls hl
    refine lv_goto (tgt := 12) hx hb d_FontShelf_bestWeight_49 (by decide) ?_
    refine lv_iload_n hx hb d_FontShelf_bestWeight_12 rfl (lv_at hl 0 rfl) ?_
    refine va_gets hx hb (SF_p3 hF).1 hS hown (hwd _ wd_2_73) (fun _ h9 => h9) d_FontShelf_bestWeight_13 ?_
    refine lv_iconst (v := 5) hx hb d_FontShelf_bestWeight_16 (by decide) ?_
    refine va_ti (v := .int 7) hx hb (SF_p3 hF).2 hS (show ¬ ((5 : Int32) < 0 ∨ 7 ≤ (5 : Int32).toNatClampNeg) by decide) rfl d_FontShelf_bestWeight_17 ?_
    refine va_gets hx hb (SF_p4 hF).1 hS hown (hwd _ wd_2_88) (fun _ h9 => h9) d_FontShelf_bestWeight_18 ?_
    refine lv_iconst (v := 5) hx hb d_FontShelf_bestWeight_21 (by decide) ?_
    refine va_ti (v := .int (-7)) hx hb (SF_p4 hF).2 hS (show ¬ ((5 : Int32) < 0 ∨ 7 ≤ (5 : Int32).toNatClampNeg) by decide) rfl d_FontShelf_bestWeight_22 ?_
    refine lv_isub hx hb d_FontShelf_bestWeight_23 ?_
    refine lv_topi (fun y_43 ey_43 => ?_)
    obtain rfl : y_43 = (14 : Int32) := ey_43.trans (by decide)
    refine lv_icmp_gt (tgt := 52) hx hb d_FontShelf_bestWeight_24 (by decide) (fun _ => ?_) (fun c24 => absurd (by decide) c24)
    refine lv_iconst (v := 1) hx hb d_FontShelf_bestWeight_52 (by decide) ?_
    refine lv_istore_n (lv' := [(3, .int 1), (0, .ref h0), (1, .int x), (2, .int st)]) hx hb d_FontShelf_bestWeight_53 rfl hl (by decide) rfl ?_
    clear hl
    intro ls hl
    refine lv_iload_n hx hb d_FontShelf_bestWeight_54 rfl (lv_at hl 0 rfl) ?_
    refine va_gets hx hb (SF_p3 hF).1 hS hown (hwd _ wd_2_73) (fun _ h9 => h9) d_FontShelf_bestWeight_55 ?_
    refine lv_iconst (v := 5) hx hb d_FontShelf_bestWeight_58 (by decide) ?_
    refine va_ti (v := .int 7) hx hb (SF_p3 hF).2 hS (show ¬ ((5 : Int32) < 0 ∨ 7 ≤ (5 : Int32).toNatClampNeg) by decide) rfl d_FontShelf_bestWeight_59 ?_
    refine va_gets hx hb (SF_p4 hF).1 hS hown (hwd _ wd_2_88) (fun _ h9 => h9) d_FontShelf_bestWeight_60 ?_
    refine lv_iconst (v := 5) hx hb d_FontShelf_bestWeight_63 (by decide) ?_
    refine va_ti (v := .int (-7)) hx hb (SF_p4 hF).2 hS (show ¬ ((5 : Int32) < 0 ∨ 7 ≤ (5 : Int32).toNatClampNeg) by decide) rfl d_FontShelf_bestWeight_64 ?_
    refine lv_isub hx hb d_FontShelf_bestWeight_65 ?_
    refine lv_topi (fun y_44 ey_44 => ?_)
    obtain rfl : y_44 = (14 : Int32) := ey_44.trans (by decide)
    refine lv_icmp_gt (tgt := 94) hx hb d_FontShelf_bestWeight_66 (by decide) (fun c66 => absurd c66 (by decide)) (fun _ => ?_)
    refine lv_aload_n hx hb d_FontShelf_bestWeight_69 rfl (lv_at hl 1 rfl) ?_
    refine lv_iconst (v := 5) hx hb d_FontShelf_bestWeight_70 (by decide) ?_
    refine lv_iload_n hx hb d_FontShelf_bestWeight_71 rfl (lv_at hl 2 rfl) ?_
    refine lv_iload_n hx hb d_FontShelf_bestWeight_72 rfl (lv_at hl 3 rfl) ?_
    refine lv_iload_n hx hb d_FontShelf_bestWeight_73 rfl (lv_at hl 0 rfl) ?_
    refine lv_imul hx hb d_FontShelf_bestWeight_74 ?_
    refine lv_isub hx hb d_FontShelf_bestWeight_75 ?_
    have hPc := hP.sub (ws' := [(h0, .inr (3, [.ref s_ids, .ref s_attributes, .ref s_permanent, .int 0, .ref s_glyphs, .int s_glyphCount, .ref s_dots, .int s_used, .ref s_wishes, .ref s_pins, .int s_id, .int s_code, .ref s_chosen, .int s_chosenKnown, .ref s_left, .ref s_coming]))]) [0] rfl
    have hDc := hD.sub (ws' := [(h0, .inr (3, [.ref s_ids, .ref s_attributes, .ref s_permanent, .int 0, .ref s_glyphs, .int s_glyphCount, .ref s_dots, .int s_used, .ref s_wishes, .ref s_pins, .int s_id, .int s_code, .ref s_chosen, .int s_chosenKnown, .ref s_left, .ref s_coming]))]) [0] (by decide) rfl
    have hKc := hK.sub (tys' := []) [] rfl
    have hFc := va_free (wc := [(h0, .inr (3, [.ref s_ids, .ref s_attributes, .ref s_permanent, .int 0, .ref s_glyphs, .int s_glyphCount, .ref s_dots, .int s_used, .ref s_wishes, .ref s_pins, .int s_id, .int s_code, .ref s_chosen, .int s_chosenKnown, .ref s_left, .ref s_coming]))]) hD hS hA [0] rfl
    refine va_calli (va_runV (As := [.int 5, .int (x - (st * 1))]) (rest := []) ⟨hx, hb, hml, hown, hwd⟩ (c_anyLeft_0 l dC dI tt h0 s_ids s_attributes s_permanent s_glyphs s_glyphCount s_dots s_used s_wishes s_pins s_id s_code s_chosen s_chosenKnown s_left s_coming 5 (x - (st * 1)) H.size ) (cwV 2 hwd (gV gd_FontShelf_anyLeft wd_2_90 wd_2_92 ws_16 wd_1_5) rfl rfl rfl (by decide +kernel) ⟨Nat.le_of_ble_eq_true rfl, Nat.le_of_ble_eq_true rfl⟩) ⟨fun a U g mk q => by obtain ⟨q0, q1, qP, qK, qD, qF⟩ := q; exact ⟨q0, q1, qP, va_K.moved (u := U) (U := U.calling g mk a) (Vm.Alike.refl U.vm) qK, qD, SF.same (u := U) (U := U.calling g mk a) rfl qF⟩, va_recv hKc hPc (ci := 3) (q0 := 0) rfl rfl, fun U hU hW => ⟨rfl, by rw [hU], by rw [hU]; exact hPc, va_K.moved hW.alike hKc, hDc.weaken (fun _ _ _ _ => trivial), by rw [hU]; exact SF.narrow (SF.moved hW (SF.kept hF (fun a h1 h2 => hS.2.1 a h1 h2))) hFc⟩⟩ rfl rfl hl.1 rfl (lv_room (Nat.le_of_ble_eq_true rfl)) d_FontShelf_bestWeight_76 ⟨Nat.le_of_ble_eq_true rfl, Nat.le_of_ble_eq_true rfl⟩) hS (fun q _ h => hFc q h) hFc ?_
    clear hPc hDc hKc hS
    intro r_45 u_46 t H1 locs ht hvm hw hB hz1 hk1 hS
    obtain ⟨hP1, hK1, hD1⟩ := hB
    rw [ht] at hP1
    have hK1 := va_K.moved hvm.symm hK1
    try dsimp only at hw
    have hJ := va_join (wr := []) (w1 := [(h0, .inr (3, [.ref s_ids, .ref s_attributes, .ref s_permanent, .int 0, .ref s_glyphs, .int s_glyphCount, .ref s_dots, .int s_used, .ref s_wishes, .ref s_pins, .int s_id, .int s_code, .ref s_chosen, .int s_chosenKnown, .ref s_left, .ref s_coming]))]) hP hD [0] [] rfl rfl (by decide) (by decide) hk1 hFc hP1 hD1
    clear hP hD hk1 hFc hP1 hD1 hz1
    obtain ⟨hP, hD⟩ := hJ
    clear hK1 ht hvm
    generalize H1 = H at hP hS ⊢
    replace hP : va_P (dC, dI) vcl [(h0, .inr (3, [.ref s_ids, .ref s_attributes, .ref s_permanent, .int 0, .ref s_glyphs, .int s_glyphCount, .ref s_dots, .int s_used, .ref s_wishes, .ref s_pins, .int s_id, .int s_code, .ref s_chosen, .int s_chosenKnown, .ref s_left, .ref s_coming]))] H := hP
    replace hD : va_D A [(h0, .inr (3, [.ref s_ids, .ref s_attributes, .ref s_permanent, .int 0, .ref s_glyphs, .int s_glyphCount, .ref s_dots, .int s_used, .ref s_wishes, .ref s_pins, .int s_id, .int s_code, .ref s_chosen, .int s_chosenKnown, .ref s_left, .ref s_coming]))] := hD
    obtain rfl := hw
    refine lv_if_eq (tgt := 88) hx hb d_FontShelf_bestWeight_79 (by decide) (fun _ => ?_) (fun c79 => absurd (by decide) c79)
    refine lv_iinc (v := 2) (lv' := [(3, .int 2), (0, .ref h0), (1, .int x), (2, .int st)]) hx hb d_FontShelf_bestWeight_88 hl (k := 0) rfl (by decide) (by decide) rfl ?_
    clear hl
    intro ls hl
    refine lv_goto (tgt := 54) hx hb d_FontShelf_bestWeight_91 (by decide) ?_
    refine lv_iload_n hx hb d_FontShelf_bestWeight_54 rfl (lv_at hl 0 rfl) ?_
    refine va_gets hx hb (SF_p3 hF).1 hS hown (hwd _ wd_2_73) (fun _ h9 => h9) d_FontShelf_bestWeight_55 ?_
    refine lv_iconst (v := 5) hx hb d_FontShelf_bestWeight_58 (by decide) ?_
    refine va_ti (v := .int 7) hx hb (SF_p3 hF).2 hS (show ¬ ((5 : Int32) < 0 ∨ 7 ≤ (5 : Int32).toNatClampNeg) by decide) rfl d_FontShelf_bestWeight_59 ?_
    refine va_gets hx hb (SF_p4 hF).1 hS hown (hwd _ wd_2_88) (fun _ h9 => h9) d_FontShelf_bestWeight_60 ?_
    refine lv_iconst (v := 5) hx hb d_FontShelf_bestWeight_63 (by decide) ?_
    refine va_ti (v := .int (-7)) hx hb (SF_p4 hF).2 hS (show ¬ ((5 : Int32) < 0 ∨ 7 ≤ (5 : Int32).toNatClampNeg) by decide) rfl d_FontShelf_bestWeight_64 ?_
    refine lv_isub hx hb d_FontShelf_bestWeight_65 ?_
    refine lv_topi (fun y_47 ey_47 => ?_)
    obtain rfl : y_47 = (14 : Int32) := ey_47.trans (by decide)
    refine lv_icmp_gt (tgt := 94) hx hb d_FontShelf_bestWeight_66 (by decide) (fun c66 => absurd c66 (by decide)) (fun _ => ?_)
    refine lv_aload_n hx hb d_FontShelf_bestWeight_69 rfl (lv_at hl 1 rfl) ?_
    refine lv_iconst (v := 5) hx hb d_FontShelf_bestWeight_70 (by decide) ?_
    refine lv_iload_n hx hb d_FontShelf_bestWeight_71 rfl (lv_at hl 2 rfl) ?_
    refine lv_iload_n hx hb d_FontShelf_bestWeight_72 rfl (lv_at hl 3 rfl) ?_
    refine lv_iload_n hx hb d_FontShelf_bestWeight_73 rfl (lv_at hl 0 rfl) ?_
    refine lv_imul hx hb d_FontShelf_bestWeight_74 ?_
    refine lv_isub hx hb d_FontShelf_bestWeight_75 ?_
    have hPc := hP.sub (ws' := [(h0, .inr (3, [.ref s_ids, .ref s_attributes, .ref s_permanent, .int 0, .ref s_glyphs, .int s_glyphCount, .ref s_dots, .int s_used, .ref s_wishes, .ref s_pins, .int s_id, .int s_code, .ref s_chosen, .int s_chosenKnown, .ref s_left, .ref s_coming]))]) [0] rfl
    have hDc := hD.sub (ws' := [(h0, .inr (3, [.ref s_ids, .ref s_attributes, .ref s_permanent, .int 0, .ref s_glyphs, .int s_glyphCount, .ref s_dots, .int s_used, .ref s_wishes, .ref s_pins, .int s_id, .int s_code, .ref s_chosen, .int s_chosenKnown, .ref s_left, .ref s_coming]))]) [0] (by decide) rfl
    have hKc := hK.sub (tys' := []) [] rfl
    have hFc := va_free (wc := [(h0, .inr (3, [.ref s_ids, .ref s_attributes, .ref s_permanent, .int 0, .ref s_glyphs, .int s_glyphCount, .ref s_dots, .int s_used, .ref s_wishes, .ref s_pins, .int s_id, .int s_code, .ref s_chosen, .int s_chosenKnown, .ref s_left, .ref s_coming]))]) hD hS hA [0] rfl
    refine va_calli (va_runV (As := [.int 5, .int (x - (st * 2))]) (rest := []) ⟨hx, hb, hml, hown, hwd⟩ (c_anyLeft_0 l dC dI tt h0 s_ids s_attributes s_permanent s_glyphs s_glyphCount s_dots s_used s_wishes s_pins s_id s_code s_chosen s_chosenKnown s_left s_coming 5 (x - (st * 2)) H.size ) (cwV 2 hwd (gV gd_FontShelf_anyLeft wd_2_90 wd_2_92 ws_16 wd_1_5) rfl rfl rfl (by decide +kernel) ⟨Nat.le_of_ble_eq_true rfl, Nat.le_of_ble_eq_true rfl⟩) ⟨fun a U g mk q => by obtain ⟨q0, q1, qP, qK, qD, qF⟩ := q; exact ⟨q0, q1, qP, va_K.moved (u := U) (U := U.calling g mk a) (Vm.Alike.refl U.vm) qK, qD, SF.same (u := U) (U := U.calling g mk a) rfl qF⟩, va_recv hKc hPc (ci := 3) (q0 := 0) rfl rfl, fun U hU hW => ⟨rfl, by rw [hU], by rw [hU]; exact hPc, va_K.moved hW.alike hKc, hDc.weaken (fun _ _ _ _ => trivial), by rw [hU]; exact SF.narrow (SF.moved hW (SF.kept hF (fun a h1 h2 => hS.2.1 a h1 h2))) hFc⟩⟩ rfl rfl hl.1 rfl (lv_room (Nat.le_of_ble_eq_true rfl)) d_FontShelf_bestWeight_76 ⟨Nat.le_of_ble_eq_true rfl, Nat.le_of_ble_eq_true rfl⟩) hS (fun q _ h => hFc q h) hFc ?_
    clear hPc hDc hKc hS
    intro r_48 u_49 t H1 locs ht hvm hw hB hz1 hk1 hS
    obtain ⟨hP1, hK1, hD1⟩ := hB
    rw [ht] at hP1
    have hK1 := va_K.moved hvm.symm hK1
    try dsimp only at hw
    have hJ := va_join (wr := []) (w1 := [(h0, .inr (3, [.ref s_ids, .ref s_attributes, .ref s_permanent, .int 0, .ref s_glyphs, .int s_glyphCount, .ref s_dots, .int s_used, .ref s_wishes, .ref s_pins, .int s_id, .int s_code, .ref s_chosen, .int s_chosenKnown, .ref s_left, .ref s_coming]))]) hP hD [0] [] rfl rfl (by decide) (by decide) hk1 hFc hP1 hD1
    clear hP hD hk1 hFc hP1 hD1 hz1
    obtain ⟨hP, hD⟩ := hJ
    clear hK1 ht hvm
    generalize H1 = H at hP hS ⊢
    replace hP : va_P (dC, dI) vcl [(h0, .inr (3, [.ref s_ids, .ref s_attributes, .ref s_permanent, .int 0, .ref s_glyphs, .int s_glyphCount, .ref s_dots, .int s_used, .ref s_wishes, .ref s_pins, .int s_id, .int s_code, .ref s_chosen, .int s_chosenKnown, .ref s_left, .ref s_coming]))] H := hP
    replace hD : va_D A [(h0, .inr (3, [.ref s_ids, .ref s_attributes, .ref s_permanent, .int 0, .ref s_glyphs, .int s_glyphCount, .ref s_dots, .int s_used, .ref s_wishes, .ref s_pins, .int s_id, .int s_code, .ref s_chosen, .int s_chosenKnown, .ref s_left, .ref s_coming]))] := hD
    obtain rfl := hw
    refine lv_if_eq (tgt := 88) hx hb d_FontShelf_bestWeight_79 (by decide) (fun _ => ?_) (fun c79 => absurd (by decide) c79)
    refine lv_iinc (v := 3) (lv' := [(3, .int 3), (0, .ref h0), (1, .int x), (2, .int st)]) hx hb d_FontShelf_bestWeight_88 hl (k := 0) rfl (by decide) (by decide) rfl ?_
    clear hl
    intro ls hl
    refine lv_goto (tgt := 54) hx hb d_FontShelf_bestWeight_91 (by decide) ?_
    refine lv_iload_n hx hb d_FontShelf_bestWeight_54 rfl (lv_at hl 0 rfl) ?_
    refine va_gets hx hb (SF_p3 hF).1 hS hown (hwd _ wd_2_73) (fun _ h9 => h9) d_FontShelf_bestWeight_55 ?_
    refine lv_iconst (v := 5) hx hb d_FontShelf_bestWeight_58 (by decide) ?_
    refine va_ti (v := .int 7) hx hb (SF_p3 hF).2 hS (show ¬ ((5 : Int32) < 0 ∨ 7 ≤ (5 : Int32).toNatClampNeg) by decide) rfl d_FontShelf_bestWeight_59 ?_
    refine va_gets hx hb (SF_p4 hF).1 hS hown (hwd _ wd_2_88) (fun _ h9 => h9) d_FontShelf_bestWeight_60 ?_
    refine lv_iconst (v := 5) hx hb d_FontShelf_bestWeight_63 (by decide) ?_
    refine va_ti (v := .int (-7)) hx hb (SF_p4 hF).2 hS (show ¬ ((5 : Int32) < 0 ∨ 7 ≤ (5 : Int32).toNatClampNeg) by decide) rfl d_FontShelf_bestWeight_64 ?_
    refine lv_isub hx hb d_FontShelf_bestWeight_65 ?_
    refine lv_topi (fun y_50 ey_50 => ?_)
    obtain rfl : y_50 = (14 : Int32) := ey_50.trans (by decide)
    refine lv_icmp_gt (tgt := 94) hx hb d_FontShelf_bestWeight_66 (by decide) (fun c66 => absurd c66 (by decide)) (fun _ => ?_)
    refine lv_aload_n hx hb d_FontShelf_bestWeight_69 rfl (lv_at hl 1 rfl) ?_
    refine lv_iconst (v := 5) hx hb d_FontShelf_bestWeight_70 (by decide) ?_
    refine lv_iload_n hx hb d_FontShelf_bestWeight_71 rfl (lv_at hl 2 rfl) ?_
    refine lv_iload_n hx hb d_FontShelf_bestWeight_72 rfl (lv_at hl 3 rfl) ?_
    refine lv_iload_n hx hb d_FontShelf_bestWeight_73 rfl (lv_at hl 0 rfl) ?_
    refine lv_imul hx hb d_FontShelf_bestWeight_74 ?_
    refine lv_isub hx hb d_FontShelf_bestWeight_75 ?_
    have hPc := hP.sub (ws' := [(h0, .inr (3, [.ref s_ids, .ref s_attributes, .ref s_permanent, .int 0, .ref s_glyphs, .int s_glyphCount, .ref s_dots, .int s_used, .ref s_wishes, .ref s_pins, .int s_id, .int s_code, .ref s_chosen, .int s_chosenKnown, .ref s_left, .ref s_coming]))]) [0] rfl
    have hDc := hD.sub (ws' := [(h0, .inr (3, [.ref s_ids, .ref s_attributes, .ref s_permanent, .int 0, .ref s_glyphs, .int s_glyphCount, .ref s_dots, .int s_used, .ref s_wishes, .ref s_pins, .int s_id, .int s_code, .ref s_chosen, .int s_chosenKnown, .ref s_left, .ref s_coming]))]) [0] (by decide) rfl
    have hKc := hK.sub (tys' := []) [] rfl
    have hFc := va_free (wc := [(h0, .inr (3, [.ref s_ids, .ref s_attributes, .ref s_permanent, .int 0, .ref s_glyphs, .int s_glyphCount, .ref s_dots, .int s_used, .ref s_wishes, .ref s_pins, .int s_id, .int s_code, .ref s_chosen, .int s_chosenKnown, .ref s_left, .ref s_coming]))]) hD hS hA [0] rfl
    refine va_calli (va_runV (As := [.int 5, .int (x - (st * 3))]) (rest := []) ⟨hx, hb, hml, hown, hwd⟩ (c_anyLeft_0 l dC dI tt h0 s_ids s_attributes s_permanent s_glyphs s_glyphCount s_dots s_used s_wishes s_pins s_id s_code s_chosen s_chosenKnown s_left s_coming 5 (x - (st * 3)) H.size ) (cwV 2 hwd (gV gd_FontShelf_anyLeft wd_2_90 wd_2_92 ws_16 wd_1_5) rfl rfl rfl (by decide +kernel) ⟨Nat.le_of_ble_eq_true rfl, Nat.le_of_ble_eq_true rfl⟩) ⟨fun a U g mk q => by obtain ⟨q0, q1, qP, qK, qD, qF⟩ := q; exact ⟨q0, q1, qP, va_K.moved (u := U) (U := U.calling g mk a) (Vm.Alike.refl U.vm) qK, qD, SF.same (u := U) (U := U.calling g mk a) rfl qF⟩, va_recv hKc hPc (ci := 3) (q0 := 0) rfl rfl, fun U hU hW => ⟨rfl, by rw [hU], by rw [hU]; exact hPc, va_K.moved hW.alike hKc, hDc.weaken (fun _ _ _ _ => trivial), by rw [hU]; exact SF.narrow (SF.moved hW (SF.kept hF (fun a h1 h2 => hS.2.1 a h1 h2))) hFc⟩⟩ rfl rfl hl.1 rfl (lv_room (Nat.le_of_ble_eq_true rfl)) d_FontShelf_bestWeight_76 ⟨Nat.le_of_ble_eq_true rfl, Nat.le_of_ble_eq_true rfl⟩) hS (fun q _ h => hFc q h) hFc ?_
    clear hPc hDc hKc hS
    intro r_51 u_52 t H1 locs ht hvm hw hB hz1 hk1 hS
    obtain ⟨hP1, hK1, hD1⟩ := hB
    rw [ht] at hP1
    have hK1 := va_K.moved hvm.symm hK1
    try dsimp only at hw
    have hJ := va_join (wr := []) (w1 := [(h0, .inr (3, [.ref s_ids, .ref s_attributes, .ref s_permanent, .int 0, .ref s_glyphs, .int s_glyphCount, .ref s_dots, .int s_used, .ref s_wishes, .ref s_pins, .int s_id, .int s_code, .ref s_chosen, .int s_chosenKnown, .ref s_left, .ref s_coming]))]) hP hD [0] [] rfl rfl (by decide) (by decide) hk1 hFc hP1 hD1
    clear hP hD hk1 hFc hP1 hD1 hz1
    obtain ⟨hP, hD⟩ := hJ
    clear hK1 ht hvm
    generalize H1 = H at hP hS ⊢
    replace hP : va_P (dC, dI) vcl [(h0, .inr (3, [.ref s_ids, .ref s_attributes, .ref s_permanent, .int 0, .ref s_glyphs, .int s_glyphCount, .ref s_dots, .int s_used, .ref s_wishes, .ref s_pins, .int s_id, .int s_code, .ref s_chosen, .int s_chosenKnown, .ref s_left, .ref s_coming]))] H := hP
    replace hD : va_D A [(h0, .inr (3, [.ref s_ids, .ref s_attributes, .ref s_permanent, .int 0, .ref s_glyphs, .int s_glyphCount, .ref s_dots, .int s_used, .ref s_wishes, .ref s_pins, .int s_id, .int s_code, .ref s_chosen, .int s_chosenKnown, .ref s_left, .ref s_coming]))] := hD
    obtain rfl := hw
    refine lv_if_eq (tgt := 88) hx hb d_FontShelf_bestWeight_79 (by decide) (fun _ => ?_) (fun c79 => absurd (by decide) c79)
    refine lv_iinc (v := 4) (lv' := [(3, .int 4), (0, .ref h0), (1, .int x), (2, .int st)]) hx hb d_FontShelf_bestWeight_88 hl (k := 0) rfl (by decide) (by decide) rfl ?_
    clear hl
    intro ls hl
    refine lv_goto (tgt := 54) hx hb d_FontShelf_bestWeight_91 (by decide) ?_
    refine lv_iload_n hx hb d_FontShelf_bestWeight_54 rfl (lv_at hl 0 rfl) ?_
    refine va_gets hx hb (SF_p3 hF).1 hS hown (hwd _ wd_2_73) (fun _ h9 => h9) d_FontShelf_bestWeight_55 ?_
    refine lv_iconst (v := 5) hx hb d_FontShelf_bestWeight_58 (by decide) ?_
    refine va_ti (v := .int 7) hx hb (SF_p3 hF).2 hS (show ¬ ((5 : Int32) < 0 ∨ 7 ≤ (5 : Int32).toNatClampNeg) by decide) rfl d_FontShelf_bestWeight_59 ?_
    refine va_gets hx hb (SF_p4 hF).1 hS hown (hwd _ wd_2_88) (fun _ h9 => h9) d_FontShelf_bestWeight_60 ?_
    refine lv_iconst (v := 5) hx hb d_FontShelf_bestWeight_63 (by decide) ?_
    refine va_ti (v := .int (-7)) hx hb (SF_p4 hF).2 hS (show ¬ ((5 : Int32) < 0 ∨ 7 ≤ (5 : Int32).toNatClampNeg) by decide) rfl d_FontShelf_bestWeight_64 ?_
    refine lv_isub hx hb d_FontShelf_bestWeight_65 ?_
    refine lv_topi (fun y_53 ey_53 => ?_)
    obtain rfl : y_53 = (14 : Int32) := ey_53.trans (by decide)
    refine lv_icmp_gt (tgt := 94) hx hb d_FontShelf_bestWeight_66 (by decide) (fun c66 => absurd c66 (by decide)) (fun _ => ?_)
    refine lv_aload_n hx hb d_FontShelf_bestWeight_69 rfl (lv_at hl 1 rfl) ?_
    refine lv_iconst (v := 5) hx hb d_FontShelf_bestWeight_70 (by decide) ?_
    refine lv_iload_n hx hb d_FontShelf_bestWeight_71 rfl (lv_at hl 2 rfl) ?_
    refine lv_iload_n hx hb d_FontShelf_bestWeight_72 rfl (lv_at hl 3 rfl) ?_
    refine lv_iload_n hx hb d_FontShelf_bestWeight_73 rfl (lv_at hl 0 rfl) ?_
    refine lv_imul hx hb d_FontShelf_bestWeight_74 ?_
    refine lv_isub hx hb d_FontShelf_bestWeight_75 ?_
    have hPc := hP.sub (ws' := [(h0, .inr (3, [.ref s_ids, .ref s_attributes, .ref s_permanent, .int 0, .ref s_glyphs, .int s_glyphCount, .ref s_dots, .int s_used, .ref s_wishes, .ref s_pins, .int s_id, .int s_code, .ref s_chosen, .int s_chosenKnown, .ref s_left, .ref s_coming]))]) [0] rfl
    have hDc := hD.sub (ws' := [(h0, .inr (3, [.ref s_ids, .ref s_attributes, .ref s_permanent, .int 0, .ref s_glyphs, .int s_glyphCount, .ref s_dots, .int s_used, .ref s_wishes, .ref s_pins, .int s_id, .int s_code, .ref s_chosen, .int s_chosenKnown, .ref s_left, .ref s_coming]))]) [0] (by decide) rfl
    have hKc := hK.sub (tys' := []) [] rfl
    have hFc := va_free (wc := [(h0, .inr (3, [.ref s_ids, .ref s_attributes, .ref s_permanent, .int 0, .ref s_glyphs, .int s_glyphCount, .ref s_dots, .int s_used, .ref s_wishes, .ref s_pins, .int s_id, .int s_code, .ref s_chosen, .int s_chosenKnown, .ref s_left, .ref s_coming]))]) hD hS hA [0] rfl
    refine va_calli (va_runV (As := [.int 5, .int (x - (st * 4))]) (rest := []) ⟨hx, hb, hml, hown, hwd⟩ (c_anyLeft_0 l dC dI tt h0 s_ids s_attributes s_permanent s_glyphs s_glyphCount s_dots s_used s_wishes s_pins s_id s_code s_chosen s_chosenKnown s_left s_coming 5 (x - (st * 4)) H.size ) (cwV 2 hwd (gV gd_FontShelf_anyLeft wd_2_90 wd_2_92 ws_16 wd_1_5) rfl rfl rfl (by decide +kernel) ⟨Nat.le_of_ble_eq_true rfl, Nat.le_of_ble_eq_true rfl⟩) ⟨fun a U g mk q => by obtain ⟨q0, q1, qP, qK, qD, qF⟩ := q; exact ⟨q0, q1, qP, va_K.moved (u := U) (U := U.calling g mk a) (Vm.Alike.refl U.vm) qK, qD, SF.same (u := U) (U := U.calling g mk a) rfl qF⟩, va_recv hKc hPc (ci := 3) (q0 := 0) rfl rfl, fun U hU hW => ⟨rfl, by rw [hU], by rw [hU]; exact hPc, va_K.moved hW.alike hKc, hDc.weaken (fun _ _ _ _ => trivial), by rw [hU]; exact SF.narrow (SF.moved hW (SF.kept hF (fun a h1 h2 => hS.2.1 a h1 h2))) hFc⟩⟩ rfl rfl hl.1 rfl (lv_room (Nat.le_of_ble_eq_true rfl)) d_FontShelf_bestWeight_76 ⟨Nat.le_of_ble_eq_true rfl, Nat.le_of_ble_eq_true rfl⟩) hS (fun q _ h => hFc q h) hFc ?_
    clear hPc hDc hKc hS
    intro r_54 u_55 t H1 locs ht hvm hw hB hz1 hk1 hS
    obtain ⟨hP1, hK1, hD1⟩ := hB
    rw [ht] at hP1
    have hK1 := va_K.moved hvm.symm hK1
    try dsimp only at hw
    have hJ := va_join (wr := []) (w1 := [(h0, .inr (3, [.ref s_ids, .ref s_attributes, .ref s_permanent, .int 0, .ref s_glyphs, .int s_glyphCount, .ref s_dots, .int s_used, .ref s_wishes, .ref s_pins, .int s_id, .int s_code, .ref s_chosen, .int s_chosenKnown, .ref s_left, .ref s_coming]))]) hP hD [0] [] rfl rfl (by decide) (by decide) hk1 hFc hP1 hD1
    clear hP hD hk1 hFc hP1 hD1 hz1
    obtain ⟨hP, hD⟩ := hJ
    clear hK1 ht hvm
    generalize H1 = H at hP hS ⊢
    replace hP : va_P (dC, dI) vcl [(h0, .inr (3, [.ref s_ids, .ref s_attributes, .ref s_permanent, .int 0, .ref s_glyphs, .int s_glyphCount, .ref s_dots, .int s_used, .ref s_wishes, .ref s_pins, .int s_id, .int s_code, .ref s_chosen, .int s_chosenKnown, .ref s_left, .ref s_coming]))] H := hP
    replace hD : va_D A [(h0, .inr (3, [.ref s_ids, .ref s_attributes, .ref s_permanent, .int 0, .ref s_glyphs, .int s_glyphCount, .ref s_dots, .int s_used, .ref s_wishes, .ref s_pins, .int s_id, .int s_code, .ref s_chosen, .int s_chosenKnown, .ref s_left, .ref s_coming]))] := hD
    obtain rfl := hw
    refine lv_if_eq (tgt := 88) hx hb d_FontShelf_bestWeight_79 (by decide) (fun _ => ?_) (fun c79 => absurd (by decide) c79)
    refine lv_iinc (v := 5) (lv' := [(3, .int 5), (0, .ref h0), (1, .int x), (2, .int st)]) hx hb d_FontShelf_bestWeight_88 hl (k := 0) rfl (by decide) (by decide) rfl ?_
    clear hl
    intro ls hl
    refine lv_goto (tgt := 54) hx hb d_FontShelf_bestWeight_91 (by decide) ?_
    refine lv_iload_n hx hb d_FontShelf_bestWeight_54 rfl (lv_at hl 0 rfl) ?_
    refine va_gets hx hb (SF_p3 hF).1 hS hown (hwd _ wd_2_73) (fun _ h9 => h9) d_FontShelf_bestWeight_55 ?_
    refine lv_iconst (v := 5) hx hb d_FontShelf_bestWeight_58 (by decide) ?_
    refine va_ti (v := .int 7) hx hb (SF_p3 hF).2 hS (show ¬ ((5 : Int32) < 0 ∨ 7 ≤ (5 : Int32).toNatClampNeg) by decide) rfl d_FontShelf_bestWeight_59 ?_
    refine va_gets hx hb (SF_p4 hF).1 hS hown (hwd _ wd_2_88) (fun _ h9 => h9) d_FontShelf_bestWeight_60 ?_
    refine lv_iconst (v := 5) hx hb d_FontShelf_bestWeight_63 (by decide) ?_
    refine va_ti (v := .int (-7)) hx hb (SF_p4 hF).2 hS (show ¬ ((5 : Int32) < 0 ∨ 7 ≤ (5 : Int32).toNatClampNeg) by decide) rfl d_FontShelf_bestWeight_64 ?_
    refine lv_isub hx hb d_FontShelf_bestWeight_65 ?_
    refine lv_topi (fun y_56 ey_56 => ?_)
    obtain rfl : y_56 = (14 : Int32) := ey_56.trans (by decide)
    refine lv_icmp_gt (tgt := 94) hx hb d_FontShelf_bestWeight_66 (by decide) (fun c66 => absurd c66 (by decide)) (fun _ => ?_)
    refine lv_aload_n hx hb d_FontShelf_bestWeight_69 rfl (lv_at hl 1 rfl) ?_
    refine lv_iconst (v := 5) hx hb d_FontShelf_bestWeight_70 (by decide) ?_
    refine lv_iload_n hx hb d_FontShelf_bestWeight_71 rfl (lv_at hl 2 rfl) ?_
    refine lv_iload_n hx hb d_FontShelf_bestWeight_72 rfl (lv_at hl 3 rfl) ?_
    refine lv_iload_n hx hb d_FontShelf_bestWeight_73 rfl (lv_at hl 0 rfl) ?_
    refine lv_imul hx hb d_FontShelf_bestWeight_74 ?_
    refine lv_isub hx hb d_FontShelf_bestWeight_75 ?_
    have hPc := hP.sub (ws' := [(h0, .inr (3, [.ref s_ids, .ref s_attributes, .ref s_permanent, .int 0, .ref s_glyphs, .int s_glyphCount, .ref s_dots, .int s_used, .ref s_wishes, .ref s_pins, .int s_id, .int s_code, .ref s_chosen, .int s_chosenKnown, .ref s_left, .ref s_coming]))]) [0] rfl
    have hDc := hD.sub (ws' := [(h0, .inr (3, [.ref s_ids, .ref s_attributes, .ref s_permanent, .int 0, .ref s_glyphs, .int s_glyphCount, .ref s_dots, .int s_used, .ref s_wishes, .ref s_pins, .int s_id, .int s_code, .ref s_chosen, .int s_chosenKnown, .ref s_left, .ref s_coming]))]) [0] (by decide) rfl
    have hKc := hK.sub (tys' := []) [] rfl
    have hFc := va_free (wc := [(h0, .inr (3, [.ref s_ids, .ref s_attributes, .ref s_permanent, .int 0, .ref s_glyphs, .int s_glyphCount, .ref s_dots, .int s_used, .ref s_wishes, .ref s_pins, .int s_id, .int s_code, .ref s_chosen, .int s_chosenKnown, .ref s_left, .ref s_coming]))]) hD hS hA [0] rfl
    refine va_calli (va_runV (As := [.int 5, .int (x - (st * 5))]) (rest := []) ⟨hx, hb, hml, hown, hwd⟩ (c_anyLeft_0 l dC dI tt h0 s_ids s_attributes s_permanent s_glyphs s_glyphCount s_dots s_used s_wishes s_pins s_id s_code s_chosen s_chosenKnown s_left s_coming 5 (x - (st * 5)) H.size ) (cwV 2 hwd (gV gd_FontShelf_anyLeft wd_2_90 wd_2_92 ws_16 wd_1_5) rfl rfl rfl (by decide +kernel) ⟨Nat.le_of_ble_eq_true rfl, Nat.le_of_ble_eq_true rfl⟩) ⟨fun a U g mk q => by obtain ⟨q0, q1, qP, qK, qD, qF⟩ := q; exact ⟨q0, q1, qP, va_K.moved (u := U) (U := U.calling g mk a) (Vm.Alike.refl U.vm) qK, qD, SF.same (u := U) (U := U.calling g mk a) rfl qF⟩, va_recv hKc hPc (ci := 3) (q0 := 0) rfl rfl, fun U hU hW => ⟨rfl, by rw [hU], by rw [hU]; exact hPc, va_K.moved hW.alike hKc, hDc.weaken (fun _ _ _ _ => trivial), by rw [hU]; exact SF.narrow (SF.moved hW (SF.kept hF (fun a h1 h2 => hS.2.1 a h1 h2))) hFc⟩⟩ rfl rfl hl.1 rfl (lv_room (Nat.le_of_ble_eq_true rfl)) d_FontShelf_bestWeight_76 ⟨Nat.le_of_ble_eq_true rfl, Nat.le_of_ble_eq_true rfl⟩) hS (fun q _ h => hFc q h) hFc ?_
    clear hPc hDc hKc hS
    intro r_57 u_58 t H1 locs ht hvm hw hB hz1 hk1 hS
    obtain ⟨hP1, hK1, hD1⟩ := hB
    rw [ht] at hP1
    have hK1 := va_K.moved hvm.symm hK1
    try dsimp only at hw
    have hJ := va_join (wr := []) (w1 := [(h0, .inr (3, [.ref s_ids, .ref s_attributes, .ref s_permanent, .int 0, .ref s_glyphs, .int s_glyphCount, .ref s_dots, .int s_used, .ref s_wishes, .ref s_pins, .int s_id, .int s_code, .ref s_chosen, .int s_chosenKnown, .ref s_left, .ref s_coming]))]) hP hD [0] [] rfl rfl (by decide) (by decide) hk1 hFc hP1 hD1
    clear hP hD hk1 hFc hP1 hD1 hz1
    obtain ⟨hP, hD⟩ := hJ
    clear hK1 ht hvm
    generalize H1 = H at hP hS ⊢
    replace hP : va_P (dC, dI) vcl [(h0, .inr (3, [.ref s_ids, .ref s_attributes, .ref s_permanent, .int 0, .ref s_glyphs, .int s_glyphCount, .ref s_dots, .int s_used, .ref s_wishes, .ref s_pins, .int s_id, .int s_code, .ref s_chosen, .int s_chosenKnown, .ref s_left, .ref s_coming]))] H := hP
    replace hD : va_D A [(h0, .inr (3, [.ref s_ids, .ref s_attributes, .ref s_permanent, .int 0, .ref s_glyphs, .int s_glyphCount, .ref s_dots, .int s_used, .ref s_wishes, .ref s_pins, .int s_id, .int s_code, .ref s_chosen, .int s_chosenKnown, .ref s_left, .ref s_coming]))] := hD
    obtain rfl := hw
    refine lv_if_eq (tgt := 88) hx hb d_FontShelf_bestWeight_79 (by decide) (fun _ => ?_) (fun c79 => absurd (by decide) c79)
    refine lv_iinc (v := 6) (lv' := [(3, .int 6), (0, .ref h0), (1, .int x), (2, .int st)]) hx hb d_FontShelf_bestWeight_88 hl (k := 0) rfl (by decide) (by decide) rfl ?_
    clear hl
    intro ls hl
    refine lv_goto (tgt := 54) hx hb d_FontShelf_bestWeight_91 (by decide) ?_
    refine lv_iload_n hx hb d_FontShelf_bestWeight_54 rfl (lv_at hl 0 rfl) ?_
    refine va_gets hx hb (SF_p3 hF).1 hS hown (hwd _ wd_2_73) (fun _ h9 => h9) d_FontShelf_bestWeight_55 ?_
    refine lv_iconst (v := 5) hx hb d_FontShelf_bestWeight_58 (by decide) ?_
    refine va_ti (v := .int 7) hx hb (SF_p3 hF).2 hS (show ¬ ((5 : Int32) < 0 ∨ 7 ≤ (5 : Int32).toNatClampNeg) by decide) rfl d_FontShelf_bestWeight_59 ?_
    refine va_gets hx hb (SF_p4 hF).1 hS hown (hwd _ wd_2_88) (fun _ h9 => h9) d_FontShelf_bestWeight_60 ?_
    refine lv_iconst (v := 5) hx hb d_FontShelf_bestWeight_63 (by decide) ?_
    refine va_ti (v := .int (-7)) hx hb (SF_p4 hF).2 hS (show ¬ ((5 : Int32) < 0 ∨ 7 ≤ (5 : Int32).toNatClampNeg) by decide) rfl d_FontShelf_bestWeight_64 ?_
    refine lv_isub hx hb d_FontShelf_bestWeight_65 ?_
    refine lv_topi (fun y_59 ey_59 => ?_)
    obtain rfl : y_59 = (14 : Int32) := ey_59.trans (by decide)
    refine lv_icmp_gt (tgt := 94) hx hb d_FontShelf_bestWeight_66 (by decide) (fun c66 => absurd c66 (by decide)) (fun _ => ?_)
    refine lv_aload_n hx hb d_FontShelf_bestWeight_69 rfl (lv_at hl 1 rfl) ?_
    refine lv_iconst (v := 5) hx hb d_FontShelf_bestWeight_70 (by decide) ?_
    refine lv_iload_n hx hb d_FontShelf_bestWeight_71 rfl (lv_at hl 2 rfl) ?_
    refine lv_iload_n hx hb d_FontShelf_bestWeight_72 rfl (lv_at hl 3 rfl) ?_
    refine lv_iload_n hx hb d_FontShelf_bestWeight_73 rfl (lv_at hl 0 rfl) ?_
    refine lv_imul hx hb d_FontShelf_bestWeight_74 ?_
    refine lv_isub hx hb d_FontShelf_bestWeight_75 ?_
    have hPc := hP.sub (ws' := [(h0, .inr (3, [.ref s_ids, .ref s_attributes, .ref s_permanent, .int 0, .ref s_glyphs, .int s_glyphCount, .ref s_dots, .int s_used, .ref s_wishes, .ref s_pins, .int s_id, .int s_code, .ref s_chosen, .int s_chosenKnown, .ref s_left, .ref s_coming]))]) [0] rfl
    have hDc := hD.sub (ws' := [(h0, .inr (3, [.ref s_ids, .ref s_attributes, .ref s_permanent, .int 0, .ref s_glyphs, .int s_glyphCount, .ref s_dots, .int s_used, .ref s_wishes, .ref s_pins, .int s_id, .int s_code, .ref s_chosen, .int s_chosenKnown, .ref s_left, .ref s_coming]))]) [0] (by decide) rfl
    have hKc := hK.sub (tys' := []) [] rfl
    have hFc := va_free (wc := [(h0, .inr (3, [.ref s_ids, .ref s_attributes, .ref s_permanent, .int 0, .ref s_glyphs, .int s_glyphCount, .ref s_dots, .int s_used, .ref s_wishes, .ref s_pins, .int s_id, .int s_code, .ref s_chosen, .int s_chosenKnown, .ref s_left, .ref s_coming]))]) hD hS hA [0] rfl
    refine va_calli (va_runV (As := [.int 5, .int (x - (st * 6))]) (rest := []) ⟨hx, hb, hml, hown, hwd⟩ (c_anyLeft_0 l dC dI tt h0 s_ids s_attributes s_permanent s_glyphs s_glyphCount s_dots s_used s_wishes s_pins s_id s_code s_chosen s_chosenKnown s_left s_coming 5 (x - (st * 6)) H.size ) (cwV 2 hwd (gV gd_FontShelf_anyLeft wd_2_90 wd_2_92 ws_16 wd_1_5) rfl rfl rfl (by decide +kernel) ⟨Nat.le_of_ble_eq_true rfl, Nat.le_of_ble_eq_true rfl⟩) ⟨fun a U g mk q => by obtain ⟨q0, q1, qP, qK, qD, qF⟩ := q; exact ⟨q0, q1, qP, va_K.moved (u := U) (U := U.calling g mk a) (Vm.Alike.refl U.vm) qK, qD, SF.same (u := U) (U := U.calling g mk a) rfl qF⟩, va_recv hKc hPc (ci := 3) (q0 := 0) rfl rfl, fun U hU hW => ⟨rfl, by rw [hU], by rw [hU]; exact hPc, va_K.moved hW.alike hKc, hDc.weaken (fun _ _ _ _ => trivial), by rw [hU]; exact SF.narrow (SF.moved hW (SF.kept hF (fun a h1 h2 => hS.2.1 a h1 h2))) hFc⟩⟩ rfl rfl hl.1 rfl (lv_room (Nat.le_of_ble_eq_true rfl)) d_FontShelf_bestWeight_76 ⟨Nat.le_of_ble_eq_true rfl, Nat.le_of_ble_eq_true rfl⟩) hS (fun q _ h => hFc q h) hFc ?_
    clear hPc hDc hKc hS
    intro r_60 u_61 t H1 locs ht hvm hw hB hz1 hk1 hS
    obtain ⟨hP1, hK1, hD1⟩ := hB
    rw [ht] at hP1
    have hK1 := va_K.moved hvm.symm hK1
    try dsimp only at hw
    have hJ := va_join (wr := []) (w1 := [(h0, .inr (3, [.ref s_ids, .ref s_attributes, .ref s_permanent, .int 0, .ref s_glyphs, .int s_glyphCount, .ref s_dots, .int s_used, .ref s_wishes, .ref s_pins, .int s_id, .int s_code, .ref s_chosen, .int s_chosenKnown, .ref s_left, .ref s_coming]))]) hP hD [0] [] rfl rfl (by decide) (by decide) hk1 hFc hP1 hD1
    clear hP hD hk1 hFc hP1 hD1 hz1
    obtain ⟨hP, hD⟩ := hJ
    clear hK1 ht hvm
    generalize H1 = H at hP hS ⊢
    replace hP : va_P (dC, dI) vcl [(h0, .inr (3, [.ref s_ids, .ref s_attributes, .ref s_permanent, .int 0, .ref s_glyphs, .int s_glyphCount, .ref s_dots, .int s_used, .ref s_wishes, .ref s_pins, .int s_id, .int s_code, .ref s_chosen, .int s_chosenKnown, .ref s_left, .ref s_coming]))] H := hP
    replace hD : va_D A [(h0, .inr (3, [.ref s_ids, .ref s_attributes, .ref s_permanent, .int 0, .ref s_glyphs, .int s_glyphCount, .ref s_dots, .int s_used, .ref s_wishes, .ref s_pins, .int s_id, .int s_code, .ref s_chosen, .int s_chosenKnown, .ref s_left, .ref s_coming]))] := hD
    obtain rfl := hw
    refine lv_if_eq (tgt := 88) hx hb d_FontShelf_bestWeight_79 (by decide) (fun _ => ?_) (fun c79 => absurd (by decide) c79)
    refine lv_iinc (v := 7) (lv' := [(3, .int 7), (0, .ref h0), (1, .int x), (2, .int st)]) hx hb d_FontShelf_bestWeight_88 hl (k := 0) rfl (by decide) (by decide) rfl ?_
    clear hl
    intro ls hl
    refine lv_goto (tgt := 54) hx hb d_FontShelf_bestWeight_91 (by decide) ?_
    refine lv_iload_n hx hb d_FontShelf_bestWeight_54 rfl (lv_at hl 0 rfl) ?_
    refine va_gets hx hb (SF_p3 hF).1 hS hown (hwd _ wd_2_73) (fun _ h9 => h9) d_FontShelf_bestWeight_55 ?_
    refine lv_iconst (v := 5) hx hb d_FontShelf_bestWeight_58 (by decide) ?_
    refine va_ti (v := .int 7) hx hb (SF_p3 hF).2 hS (show ¬ ((5 : Int32) < 0 ∨ 7 ≤ (5 : Int32).toNatClampNeg) by decide) rfl d_FontShelf_bestWeight_59 ?_
    refine va_gets hx hb (SF_p4 hF).1 hS hown (hwd _ wd_2_88) (fun _ h9 => h9) d_FontShelf_bestWeight_60 ?_
    refine lv_iconst (v := 5) hx hb d_FontShelf_bestWeight_63 (by decide) ?_
    refine va_ti (v := .int (-7)) hx hb (SF_p4 hF).2 hS (show ¬ ((5 : Int32) < 0 ∨ 7 ≤ (5 : Int32).toNatClampNeg) by decide) rfl d_FontShelf_bestWeight_64 ?_
    refine lv_isub hx hb d_FontShelf_bestWeight_65 ?_
    refine lv_topi (fun y_62 ey_62 => ?_)
    obtain rfl : y_62 = (14 : Int32) := ey_62.trans (by decide)
    refine lv_icmp_gt (tgt := 94) hx hb d_FontShelf_bestWeight_66 (by decide) (fun c66 => absurd c66 (by decide)) (fun _ => ?_)
    refine lv_aload_n hx hb d_FontShelf_bestWeight_69 rfl (lv_at hl 1 rfl) ?_
    refine lv_iconst (v := 5) hx hb d_FontShelf_bestWeight_70 (by decide) ?_
    refine lv_iload_n hx hb d_FontShelf_bestWeight_71 rfl (lv_at hl 2 rfl) ?_
    refine lv_iload_n hx hb d_FontShelf_bestWeight_72 rfl (lv_at hl 3 rfl) ?_
    refine lv_iload_n hx hb d_FontShelf_bestWeight_73 rfl (lv_at hl 0 rfl) ?_
    refine lv_imul hx hb d_FontShelf_bestWeight_74 ?_
    refine lv_isub hx hb d_FontShelf_bestWeight_75 ?_
    have hPc := hP.sub (ws' := [(h0, .inr (3, [.ref s_ids, .ref s_attributes, .ref s_permanent, .int 0, .ref s_glyphs, .int s_glyphCount, .ref s_dots, .int s_used, .ref s_wishes, .ref s_pins, .int s_id, .int s_code, .ref s_chosen, .int s_chosenKnown, .ref s_left, .ref s_coming]))]) [0] rfl
    have hDc := hD.sub (ws' := [(h0, .inr (3, [.ref s_ids, .ref s_attributes, .ref s_permanent, .int 0, .ref s_glyphs, .int s_glyphCount, .ref s_dots, .int s_used, .ref s_wishes, .ref s_pins, .int s_id, .int s_code, .ref s_chosen, .int s_chosenKnown, .ref s_left, .ref s_coming]))]) [0] (by decide) rfl
    have hKc := hK.sub (tys' := []) [] rfl
    have hFc := va_free (wc := [(h0, .inr (3, [.ref s_ids, .ref s_attributes, .ref s_permanent, .int 0, .ref s_glyphs, .int s_glyphCount, .ref s_dots, .int s_used, .ref s_wishes, .ref s_pins, .int s_id, .int s_code, .ref s_chosen, .int s_chosenKnown, .ref s_left, .ref s_coming]))]) hD hS hA [0] rfl
    refine va_calli (va_runV (As := [.int 5, .int (x - (st * 7))]) (rest := []) ⟨hx, hb, hml, hown, hwd⟩ (c_anyLeft_0 l dC dI tt h0 s_ids s_attributes s_permanent s_glyphs s_glyphCount s_dots s_used s_wishes s_pins s_id s_code s_chosen s_chosenKnown s_left s_coming 5 (x - (st * 7)) H.size ) (cwV 2 hwd (gV gd_FontShelf_anyLeft wd_2_90 wd_2_92 ws_16 wd_1_5) rfl rfl rfl (by decide +kernel) ⟨Nat.le_of_ble_eq_true rfl, Nat.le_of_ble_eq_true rfl⟩) ⟨fun a U g mk q => by obtain ⟨q0, q1, qP, qK, qD, qF⟩ := q; exact ⟨q0, q1, qP, va_K.moved (u := U) (U := U.calling g mk a) (Vm.Alike.refl U.vm) qK, qD, SF.same (u := U) (U := U.calling g mk a) rfl qF⟩, va_recv hKc hPc (ci := 3) (q0 := 0) rfl rfl, fun U hU hW => ⟨rfl, by rw [hU], by rw [hU]; exact hPc, va_K.moved hW.alike hKc, hDc.weaken (fun _ _ _ _ => trivial), by rw [hU]; exact SF.narrow (SF.moved hW (SF.kept hF (fun a h1 h2 => hS.2.1 a h1 h2))) hFc⟩⟩ rfl rfl hl.1 rfl (lv_room (Nat.le_of_ble_eq_true rfl)) d_FontShelf_bestWeight_76 ⟨Nat.le_of_ble_eq_true rfl, Nat.le_of_ble_eq_true rfl⟩) hS (fun q _ h => hFc q h) hFc ?_
    clear hPc hDc hKc hS
    intro r_63 u_64 t H1 locs ht hvm hw hB hz1 hk1 hS
    obtain ⟨hP1, hK1, hD1⟩ := hB
    rw [ht] at hP1
    have hK1 := va_K.moved hvm.symm hK1
    try dsimp only at hw
    have hJ := va_join (wr := []) (w1 := [(h0, .inr (3, [.ref s_ids, .ref s_attributes, .ref s_permanent, .int 0, .ref s_glyphs, .int s_glyphCount, .ref s_dots, .int s_used, .ref s_wishes, .ref s_pins, .int s_id, .int s_code, .ref s_chosen, .int s_chosenKnown, .ref s_left, .ref s_coming]))]) hP hD [0] [] rfl rfl (by decide) (by decide) hk1 hFc hP1 hD1
    clear hP hD hk1 hFc hP1 hD1 hz1
    obtain ⟨hP, hD⟩ := hJ
    clear hK1 ht hvm
    generalize H1 = H at hP hS ⊢
    replace hP : va_P (dC, dI) vcl [(h0, .inr (3, [.ref s_ids, .ref s_attributes, .ref s_permanent, .int 0, .ref s_glyphs, .int s_glyphCount, .ref s_dots, .int s_used, .ref s_wishes, .ref s_pins, .int s_id, .int s_code, .ref s_chosen, .int s_chosenKnown, .ref s_left, .ref s_coming]))] H := hP
    replace hD : va_D A [(h0, .inr (3, [.ref s_ids, .ref s_attributes, .ref s_permanent, .int 0, .ref s_glyphs, .int s_glyphCount, .ref s_dots, .int s_used, .ref s_wishes, .ref s_pins, .int s_id, .int s_code, .ref s_chosen, .int s_chosenKnown, .ref s_left, .ref s_coming]))] := hD
    obtain rfl := hw
    refine lv_if_eq (tgt := 88) hx hb d_FontShelf_bestWeight_79 (by decide) (fun _ => ?_) (fun c79 => absurd (by decide) c79)
    refine lv_iinc (v := 8) (lv' := [(3, .int 8), (0, .ref h0), (1, .int x), (2, .int st)]) hx hb d_FontShelf_bestWeight_88 hl (k := 0) rfl (by decide) (by decide) rfl ?_
    clear hl
    intro ls hl
    refine lv_goto (tgt := 54) hx hb d_FontShelf_bestWeight_91 (by decide) ?_
    refine lv_iload_n hx hb d_FontShelf_bestWeight_54 rfl (lv_at hl 0 rfl) ?_
    refine va_gets hx hb (SF_p3 hF).1 hS hown (hwd _ wd_2_73) (fun _ h9 => h9) d_FontShelf_bestWeight_55 ?_
    refine lv_iconst (v := 5) hx hb d_FontShelf_bestWeight_58 (by decide) ?_
    refine va_ti (v := .int 7) hx hb (SF_p3 hF).2 hS (show ¬ ((5 : Int32) < 0 ∨ 7 ≤ (5 : Int32).toNatClampNeg) by decide) rfl d_FontShelf_bestWeight_59 ?_
    refine va_gets hx hb (SF_p4 hF).1 hS hown (hwd _ wd_2_88) (fun _ h9 => h9) d_FontShelf_bestWeight_60 ?_
    refine lv_iconst (v := 5) hx hb d_FontShelf_bestWeight_63 (by decide) ?_
    refine va_ti (v := .int (-7)) hx hb (SF_p4 hF).2 hS (show ¬ ((5 : Int32) < 0 ∨ 7 ≤ (5 : Int32).toNatClampNeg) by decide) rfl d_FontShelf_bestWeight_64 ?_
    refine lv_isub hx hb d_FontShelf_bestWeight_65 ?_
    refine lv_topi (fun y_65 ey_65 => ?_)
    obtain rfl : y_65 = (14 : Int32) := ey_65.trans (by decide)
    refine lv_icmp_gt (tgt := 94) hx hb d_FontShelf_bestWeight_66 (by decide) (fun c66 => absurd c66 (by decide)) (fun _ => ?_)
    refine lv_aload_n hx hb d_FontShelf_bestWeight_69 rfl (lv_at hl 1 rfl) ?_
    refine lv_iconst (v := 5) hx hb d_FontShelf_bestWeight_70 (by decide) ?_
    refine lv_iload_n hx hb d_FontShelf_bestWeight_71 rfl (lv_at hl 2 rfl) ?_
    refine lv_iload_n hx hb d_FontShelf_bestWeight_72 rfl (lv_at hl 3 rfl) ?_
    refine lv_iload_n hx hb d_FontShelf_bestWeight_73 rfl (lv_at hl 0 rfl) ?_
    refine lv_imul hx hb d_FontShelf_bestWeight_74 ?_
    refine lv_isub hx hb d_FontShelf_bestWeight_75 ?_
    have hPc := hP.sub (ws' := [(h0, .inr (3, [.ref s_ids, .ref s_attributes, .ref s_permanent, .int 0, .ref s_glyphs, .int s_glyphCount, .ref s_dots, .int s_used, .ref s_wishes, .ref s_pins, .int s_id, .int s_code, .ref s_chosen, .int s_chosenKnown, .ref s_left, .ref s_coming]))]) [0] rfl
    have hDc := hD.sub (ws' := [(h0, .inr (3, [.ref s_ids, .ref s_attributes, .ref s_permanent, .int 0, .ref s_glyphs, .int s_glyphCount, .ref s_dots, .int s_used, .ref s_wishes, .ref s_pins, .int s_id, .int s_code, .ref s_chosen, .int s_chosenKnown, .ref s_left, .ref s_coming]))]) [0] (by decide) rfl
    have hKc := hK.sub (tys' := []) [] rfl
    have hFc := va_free (wc := [(h0, .inr (3, [.ref s_ids, .ref s_attributes, .ref s_permanent, .int 0, .ref s_glyphs, .int s_glyphCount, .ref s_dots, .int s_used, .ref s_wishes, .ref s_pins, .int s_id, .int s_code, .ref s_chosen, .int s_chosenKnown, .ref s_left, .ref s_coming]))]) hD hS hA [0] rfl
    refine va_calli (va_runV (As := [.int 5, .int (x - (st * 8))]) (rest := []) ⟨hx, hb, hml, hown, hwd⟩ (c_anyLeft_0 l dC dI tt h0 s_ids s_attributes s_permanent s_glyphs s_glyphCount s_dots s_used s_wishes s_pins s_id s_code s_chosen s_chosenKnown s_left s_coming 5 (x - (st * 8)) H.size ) (cwV 2 hwd (gV gd_FontShelf_anyLeft wd_2_90 wd_2_92 ws_16 wd_1_5) rfl rfl rfl (by decide +kernel) ⟨Nat.le_of_ble_eq_true rfl, Nat.le_of_ble_eq_true rfl⟩) ⟨fun a U g mk q => by obtain ⟨q0, q1, qP, qK, qD, qF⟩ := q; exact ⟨q0, q1, qP, va_K.moved (u := U) (U := U.calling g mk a) (Vm.Alike.refl U.vm) qK, qD, SF.same (u := U) (U := U.calling g mk a) rfl qF⟩, va_recv hKc hPc (ci := 3) (q0 := 0) rfl rfl, fun U hU hW => ⟨rfl, by rw [hU], by rw [hU]; exact hPc, va_K.moved hW.alike hKc, hDc.weaken (fun _ _ _ _ => trivial), by rw [hU]; exact SF.narrow (SF.moved hW (SF.kept hF (fun a h1 h2 => hS.2.1 a h1 h2))) hFc⟩⟩ rfl rfl hl.1 rfl (lv_room (Nat.le_of_ble_eq_true rfl)) d_FontShelf_bestWeight_76 ⟨Nat.le_of_ble_eq_true rfl, Nat.le_of_ble_eq_true rfl⟩) hS (fun q _ h => hFc q h) hFc ?_
    clear hPc hDc hKc hS
    intro r_66 u_67 t H1 locs ht hvm hw hB hz1 hk1 hS
    obtain ⟨hP1, hK1, hD1⟩ := hB
    rw [ht] at hP1
    have hK1 := va_K.moved hvm.symm hK1
    try dsimp only at hw
    have hJ := va_join (wr := []) (w1 := [(h0, .inr (3, [.ref s_ids, .ref s_attributes, .ref s_permanent, .int 0, .ref s_glyphs, .int s_glyphCount, .ref s_dots, .int s_used, .ref s_wishes, .ref s_pins, .int s_id, .int s_code, .ref s_chosen, .int s_chosenKnown, .ref s_left, .ref s_coming]))]) hP hD [0] [] rfl rfl (by decide) (by decide) hk1 hFc hP1 hD1
    clear hP hD hk1 hFc hP1 hD1 hz1
    obtain ⟨hP, hD⟩ := hJ
    clear hK1 ht hvm
    generalize H1 = H at hP hS ⊢
    replace hP : va_P (dC, dI) vcl [(h0, .inr (3, [.ref s_ids, .ref s_attributes, .ref s_permanent, .int 0, .ref s_glyphs, .int s_glyphCount, .ref s_dots, .int s_used, .ref s_wishes, .ref s_pins, .int s_id, .int s_code, .ref s_chosen, .int s_chosenKnown, .ref s_left, .ref s_coming]))] H := hP
    replace hD : va_D A [(h0, .inr (3, [.ref s_ids, .ref s_attributes, .ref s_permanent, .int 0, .ref s_glyphs, .int s_glyphCount, .ref s_dots, .int s_used, .ref s_wishes, .ref s_pins, .int s_id, .int s_code, .ref s_chosen, .int s_chosenKnown, .ref s_left, .ref s_coming]))] := hD
    obtain rfl := hw
    refine lv_if_eq (tgt := 88) hx hb d_FontShelf_bestWeight_79 (by decide) (fun _ => ?_) (fun c79 => absurd (by decide) c79)
    refine lv_iinc (v := 9) (lv' := [(3, .int 9), (0, .ref h0), (1, .int x), (2, .int st)]) hx hb d_FontShelf_bestWeight_88 hl (k := 0) rfl (by decide) (by decide) rfl ?_
    clear hl
    intro ls hl
    refine lv_goto (tgt := 54) hx hb d_FontShelf_bestWeight_91 (by decide) ?_
    refine lv_iload_n hx hb d_FontShelf_bestWeight_54 rfl (lv_at hl 0 rfl) ?_
    refine va_gets hx hb (SF_p3 hF).1 hS hown (hwd _ wd_2_73) (fun _ h9 => h9) d_FontShelf_bestWeight_55 ?_
    refine lv_iconst (v := 5) hx hb d_FontShelf_bestWeight_58 (by decide) ?_
    refine va_ti (v := .int 7) hx hb (SF_p3 hF).2 hS (show ¬ ((5 : Int32) < 0 ∨ 7 ≤ (5 : Int32).toNatClampNeg) by decide) rfl d_FontShelf_bestWeight_59 ?_
    refine va_gets hx hb (SF_p4 hF).1 hS hown (hwd _ wd_2_88) (fun _ h9 => h9) d_FontShelf_bestWeight_60 ?_
    refine lv_iconst (v := 5) hx hb d_FontShelf_bestWeight_63 (by decide) ?_
    refine va_ti (v := .int (-7)) hx hb (SF_p4 hF).2 hS (show ¬ ((5 : Int32) < 0 ∨ 7 ≤ (5 : Int32).toNatClampNeg) by decide) rfl d_FontShelf_bestWeight_64 ?_
    refine lv_isub hx hb d_FontShelf_bestWeight_65 ?_
    refine lv_topi (fun y_68 ey_68 => ?_)
    obtain rfl : y_68 = (14 : Int32) := ey_68.trans (by decide)
    refine lv_icmp_gt (tgt := 94) hx hb d_FontShelf_bestWeight_66 (by decide) (fun c66 => absurd c66 (by decide)) (fun _ => ?_)
    refine lv_aload_n hx hb d_FontShelf_bestWeight_69 rfl (lv_at hl 1 rfl) ?_
    refine lv_iconst (v := 5) hx hb d_FontShelf_bestWeight_70 (by decide) ?_
    refine lv_iload_n hx hb d_FontShelf_bestWeight_71 rfl (lv_at hl 2 rfl) ?_
    refine lv_iload_n hx hb d_FontShelf_bestWeight_72 rfl (lv_at hl 3 rfl) ?_
    refine lv_iload_n hx hb d_FontShelf_bestWeight_73 rfl (lv_at hl 0 rfl) ?_
    refine lv_imul hx hb d_FontShelf_bestWeight_74 ?_
    refine lv_isub hx hb d_FontShelf_bestWeight_75 ?_
    have hPc := hP.sub (ws' := [(h0, .inr (3, [.ref s_ids, .ref s_attributes, .ref s_permanent, .int 0, .ref s_glyphs, .int s_glyphCount, .ref s_dots, .int s_used, .ref s_wishes, .ref s_pins, .int s_id, .int s_code, .ref s_chosen, .int s_chosenKnown, .ref s_left, .ref s_coming]))]) [0] rfl
    have hDc := hD.sub (ws' := [(h0, .inr (3, [.ref s_ids, .ref s_attributes, .ref s_permanent, .int 0, .ref s_glyphs, .int s_glyphCount, .ref s_dots, .int s_used, .ref s_wishes, .ref s_pins, .int s_id, .int s_code, .ref s_chosen, .int s_chosenKnown, .ref s_left, .ref s_coming]))]) [0] (by decide) rfl
    have hKc := hK.sub (tys' := []) [] rfl
    have hFc := va_free (wc := [(h0, .inr (3, [.ref s_ids, .ref s_attributes, .ref s_permanent, .int 0, .ref s_glyphs, .int s_glyphCount, .ref s_dots, .int s_used, .ref s_wishes, .ref s_pins, .int s_id, .int s_code, .ref s_chosen, .int s_chosenKnown, .ref s_left, .ref s_coming]))]) hD hS hA [0] rfl
    refine va_calli (va_runV (As := [.int 5, .int (x - (st * 9))]) (rest := []) ⟨hx, hb, hml, hown, hwd⟩ (c_anyLeft_0 l dC dI tt h0 s_ids s_attributes s_permanent s_glyphs s_glyphCount s_dots s_used s_wishes s_pins s_id s_code s_chosen s_chosenKnown s_left s_coming 5 (x - (st * 9)) H.size ) (cwV 2 hwd (gV gd_FontShelf_anyLeft wd_2_90 wd_2_92 ws_16 wd_1_5) rfl rfl rfl (by decide +kernel) ⟨Nat.le_of_ble_eq_true rfl, Nat.le_of_ble_eq_true rfl⟩) ⟨fun a U g mk q => by obtain ⟨q0, q1, qP, qK, qD, qF⟩ := q; exact ⟨q0, q1, qP, va_K.moved (u := U) (U := U.calling g mk a) (Vm.Alike.refl U.vm) qK, qD, SF.same (u := U) (U := U.calling g mk a) rfl qF⟩, va_recv hKc hPc (ci := 3) (q0 := 0) rfl rfl, fun U hU hW => ⟨rfl, by rw [hU], by rw [hU]; exact hPc, va_K.moved hW.alike hKc, hDc.weaken (fun _ _ _ _ => trivial), by rw [hU]; exact SF.narrow (SF.moved hW (SF.kept hF (fun a h1 h2 => hS.2.1 a h1 h2))) hFc⟩⟩ rfl rfl hl.1 rfl (lv_room (Nat.le_of_ble_eq_true rfl)) d_FontShelf_bestWeight_76 ⟨Nat.le_of_ble_eq_true rfl, Nat.le_of_ble_eq_true rfl⟩) hS (fun q _ h => hFc q h) hFc ?_
    clear hPc hDc hKc hS
    intro r_69 u_70 t H1 locs ht hvm hw hB hz1 hk1 hS
    obtain ⟨hP1, hK1, hD1⟩ := hB
    rw [ht] at hP1
    have hK1 := va_K.moved hvm.symm hK1
    try dsimp only at hw
    have hJ := va_join (wr := []) (w1 := [(h0, .inr (3, [.ref s_ids, .ref s_attributes, .ref s_permanent, .int 0, .ref s_glyphs, .int s_glyphCount, .ref s_dots, .int s_used, .ref s_wishes, .ref s_pins, .int s_id, .int s_code, .ref s_chosen, .int s_chosenKnown, .ref s_left, .ref s_coming]))]) hP hD [0] [] rfl rfl (by decide) (by decide) hk1 hFc hP1 hD1
    clear hP hD hk1 hFc hP1 hD1 hz1
    obtain ⟨hP, hD⟩ := hJ
    clear hK1 ht hvm
    generalize H1 = H at hP hS ⊢
    replace hP : va_P (dC, dI) vcl [(h0, .inr (3, [.ref s_ids, .ref s_attributes, .ref s_permanent, .int 0, .ref s_glyphs, .int s_glyphCount, .ref s_dots, .int s_used, .ref s_wishes, .ref s_pins, .int s_id, .int s_code, .ref s_chosen, .int s_chosenKnown, .ref s_left, .ref s_coming]))] H := hP
    replace hD : va_D A [(h0, .inr (3, [.ref s_ids, .ref s_attributes, .ref s_permanent, .int 0, .ref s_glyphs, .int s_glyphCount, .ref s_dots, .int s_used, .ref s_wishes, .ref s_pins, .int s_id, .int s_code, .ref s_chosen, .int s_chosenKnown, .ref s_left, .ref s_coming]))] := hD
    obtain rfl := hw
    refine lv_if_eq (tgt := 88) hx hb d_FontShelf_bestWeight_79 (by decide) (fun _ => ?_) (fun c79 => absurd (by decide) c79)
    refine lv_iinc (v := 10) (lv' := [(3, .int 10), (0, .ref h0), (1, .int x), (2, .int st)]) hx hb d_FontShelf_bestWeight_88 hl (k := 0) rfl (by decide) (by decide) rfl ?_
    clear hl
    intro ls hl
    refine lv_goto (tgt := 54) hx hb d_FontShelf_bestWeight_91 (by decide) ?_
    refine lv_iload_n hx hb d_FontShelf_bestWeight_54 rfl (lv_at hl 0 rfl) ?_
    refine va_gets hx hb (SF_p3 hF).1 hS hown (hwd _ wd_2_73) (fun _ h9 => h9) d_FontShelf_bestWeight_55 ?_
    refine lv_iconst (v := 5) hx hb d_FontShelf_bestWeight_58 (by decide) ?_
    refine va_ti (v := .int 7) hx hb (SF_p3 hF).2 hS (show ¬ ((5 : Int32) < 0 ∨ 7 ≤ (5 : Int32).toNatClampNeg) by decide) rfl d_FontShelf_bestWeight_59 ?_
    refine va_gets hx hb (SF_p4 hF).1 hS hown (hwd _ wd_2_88) (fun _ h9 => h9) d_FontShelf_bestWeight_60 ?_
    refine lv_iconst (v := 5) hx hb d_FontShelf_bestWeight_63 (by decide) ?_
    refine va_ti (v := .int (-7)) hx hb (SF_p4 hF).2 hS (show ¬ ((5 : Int32) < 0 ∨ 7 ≤ (5 : Int32).toNatClampNeg) by decide) rfl d_FontShelf_bestWeight_64 ?_
    refine lv_isub hx hb d_FontShelf_bestWeight_65 ?_
    refine lv_topi (fun y_71 ey_71 => ?_)
    obtain rfl : y_71 = (14 : Int32) := ey_71.trans (by decide)
    refine lv_icmp_gt (tgt := 94) hx hb d_FontShelf_bestWeight_66 (by decide) (fun c66 => absurd c66 (by decide)) (fun _ => ?_)
    refine lv_aload_n hx hb d_FontShelf_bestWeight_69 rfl (lv_at hl 1 rfl) ?_
    refine lv_iconst (v := 5) hx hb d_FontShelf_bestWeight_70 (by decide) ?_
    refine lv_iload_n hx hb d_FontShelf_bestWeight_71 rfl (lv_at hl 2 rfl) ?_
    refine lv_iload_n hx hb d_FontShelf_bestWeight_72 rfl (lv_at hl 3 rfl) ?_
    refine lv_iload_n hx hb d_FontShelf_bestWeight_73 rfl (lv_at hl 0 rfl) ?_
    refine lv_imul hx hb d_FontShelf_bestWeight_74 ?_
    refine lv_isub hx hb d_FontShelf_bestWeight_75 ?_
    have hPc := hP.sub (ws' := [(h0, .inr (3, [.ref s_ids, .ref s_attributes, .ref s_permanent, .int 0, .ref s_glyphs, .int s_glyphCount, .ref s_dots, .int s_used, .ref s_wishes, .ref s_pins, .int s_id, .int s_code, .ref s_chosen, .int s_chosenKnown, .ref s_left, .ref s_coming]))]) [0] rfl
    have hDc := hD.sub (ws' := [(h0, .inr (3, [.ref s_ids, .ref s_attributes, .ref s_permanent, .int 0, .ref s_glyphs, .int s_glyphCount, .ref s_dots, .int s_used, .ref s_wishes, .ref s_pins, .int s_id, .int s_code, .ref s_chosen, .int s_chosenKnown, .ref s_left, .ref s_coming]))]) [0] (by decide) rfl
    have hKc := hK.sub (tys' := []) [] rfl
    have hFc := va_free (wc := [(h0, .inr (3, [.ref s_ids, .ref s_attributes, .ref s_permanent, .int 0, .ref s_glyphs, .int s_glyphCount, .ref s_dots, .int s_used, .ref s_wishes, .ref s_pins, .int s_id, .int s_code, .ref s_chosen, .int s_chosenKnown, .ref s_left, .ref s_coming]))]) hD hS hA [0] rfl
    refine va_calli (va_runV (As := [.int 5, .int (x - (st * 10))]) (rest := []) ⟨hx, hb, hml, hown, hwd⟩ (c_anyLeft_0 l dC dI tt h0 s_ids s_attributes s_permanent s_glyphs s_glyphCount s_dots s_used s_wishes s_pins s_id s_code s_chosen s_chosenKnown s_left s_coming 5 (x - (st * 10)) H.size ) (cwV 2 hwd (gV gd_FontShelf_anyLeft wd_2_90 wd_2_92 ws_16 wd_1_5) rfl rfl rfl (by decide +kernel) ⟨Nat.le_of_ble_eq_true rfl, Nat.le_of_ble_eq_true rfl⟩) ⟨fun a U g mk q => by obtain ⟨q0, q1, qP, qK, qD, qF⟩ := q; exact ⟨q0, q1, qP, va_K.moved (u := U) (U := U.calling g mk a) (Vm.Alike.refl U.vm) qK, qD, SF.same (u := U) (U := U.calling g mk a) rfl qF⟩, va_recv hKc hPc (ci := 3) (q0 := 0) rfl rfl, fun U hU hW => ⟨rfl, by rw [hU], by rw [hU]; exact hPc, va_K.moved hW.alike hKc, hDc.weaken (fun _ _ _ _ => trivial), by rw [hU]; exact SF.narrow (SF.moved hW (SF.kept hF (fun a h1 h2 => hS.2.1 a h1 h2))) hFc⟩⟩ rfl rfl hl.1 rfl (lv_room (Nat.le_of_ble_eq_true rfl)) d_FontShelf_bestWeight_76 ⟨Nat.le_of_ble_eq_true rfl, Nat.le_of_ble_eq_true rfl⟩) hS (fun q _ h => hFc q h) hFc ?_
    clear hPc hDc hKc hS
    intro r_72 u_73 t H1 locs ht hvm hw hB hz1 hk1 hS
    obtain ⟨hP1, hK1, hD1⟩ := hB
    rw [ht] at hP1
    have hK1 := va_K.moved hvm.symm hK1
    try dsimp only at hw
    have hJ := va_join (wr := []) (w1 := [(h0, .inr (3, [.ref s_ids, .ref s_attributes, .ref s_permanent, .int 0, .ref s_glyphs, .int s_glyphCount, .ref s_dots, .int s_used, .ref s_wishes, .ref s_pins, .int s_id, .int s_code, .ref s_chosen, .int s_chosenKnown, .ref s_left, .ref s_coming]))]) hP hD [0] [] rfl rfl (by decide) (by decide) hk1 hFc hP1 hD1
    clear hP hD hk1 hFc hP1 hD1 hz1
    obtain ⟨hP, hD⟩ := hJ
    clear hK1 ht hvm
    generalize H1 = H at hP hS ⊢
    replace hP : va_P (dC, dI) vcl [(h0, .inr (3, [.ref s_ids, .ref s_attributes, .ref s_permanent, .int 0, .ref s_glyphs, .int s_glyphCount, .ref s_dots, .int s_used, .ref s_wishes, .ref s_pins, .int s_id, .int s_code, .ref s_chosen, .int s_chosenKnown, .ref s_left, .ref s_coming]))] H := hP
    replace hD : va_D A [(h0, .inr (3, [.ref s_ids, .ref s_attributes, .ref s_permanent, .int 0, .ref s_glyphs, .int s_glyphCount, .ref s_dots, .int s_used, .ref s_wishes, .ref s_pins, .int s_id, .int s_code, .ref s_chosen, .int s_chosenKnown, .ref s_left, .ref s_coming]))] := hD
    obtain rfl := hw
    refine lv_if_eq (tgt := 88) hx hb d_FontShelf_bestWeight_79 (by decide) (fun _ => ?_) (fun c79 => absurd (by decide) c79)
    refine lv_iinc (v := 11) (lv' := [(3, .int 11), (0, .ref h0), (1, .int x), (2, .int st)]) hx hb d_FontShelf_bestWeight_88 hl (k := 0) rfl (by decide) (by decide) rfl ?_
    clear hl
    intro ls hl
    refine lv_goto (tgt := 54) hx hb d_FontShelf_bestWeight_91 (by decide) ?_
    refine lv_iload_n hx hb d_FontShelf_bestWeight_54 rfl (lv_at hl 0 rfl) ?_
    refine va_gets hx hb (SF_p3 hF).1 hS hown (hwd _ wd_2_73) (fun _ h9 => h9) d_FontShelf_bestWeight_55 ?_
    refine lv_iconst (v := 5) hx hb d_FontShelf_bestWeight_58 (by decide) ?_
    refine va_ti (v := .int 7) hx hb (SF_p3 hF).2 hS (show ¬ ((5 : Int32) < 0 ∨ 7 ≤ (5 : Int32).toNatClampNeg) by decide) rfl d_FontShelf_bestWeight_59 ?_
    refine va_gets hx hb (SF_p4 hF).1 hS hown (hwd _ wd_2_88) (fun _ h9 => h9) d_FontShelf_bestWeight_60 ?_
    refine lv_iconst (v := 5) hx hb d_FontShelf_bestWeight_63 (by decide) ?_
    refine va_ti (v := .int (-7)) hx hb (SF_p4 hF).2 hS (show ¬ ((5 : Int32) < 0 ∨ 7 ≤ (5 : Int32).toNatClampNeg) by decide) rfl d_FontShelf_bestWeight_64 ?_
    refine lv_isub hx hb d_FontShelf_bestWeight_65 ?_
    refine lv_topi (fun y_74 ey_74 => ?_)
    obtain rfl : y_74 = (14 : Int32) := ey_74.trans (by decide)
    refine lv_icmp_gt (tgt := 94) hx hb d_FontShelf_bestWeight_66 (by decide) (fun c66 => absurd c66 (by decide)) (fun _ => ?_)
    refine lv_aload_n hx hb d_FontShelf_bestWeight_69 rfl (lv_at hl 1 rfl) ?_
    refine lv_iconst (v := 5) hx hb d_FontShelf_bestWeight_70 (by decide) ?_
    refine lv_iload_n hx hb d_FontShelf_bestWeight_71 rfl (lv_at hl 2 rfl) ?_
    refine lv_iload_n hx hb d_FontShelf_bestWeight_72 rfl (lv_at hl 3 rfl) ?_
    refine lv_iload_n hx hb d_FontShelf_bestWeight_73 rfl (lv_at hl 0 rfl) ?_
    refine lv_imul hx hb d_FontShelf_bestWeight_74 ?_
    refine lv_isub hx hb d_FontShelf_bestWeight_75 ?_
    have hPc := hP.sub (ws' := [(h0, .inr (3, [.ref s_ids, .ref s_attributes, .ref s_permanent, .int 0, .ref s_glyphs, .int s_glyphCount, .ref s_dots, .int s_used, .ref s_wishes, .ref s_pins, .int s_id, .int s_code, .ref s_chosen, .int s_chosenKnown, .ref s_left, .ref s_coming]))]) [0] rfl
    have hDc := hD.sub (ws' := [(h0, .inr (3, [.ref s_ids, .ref s_attributes, .ref s_permanent, .int 0, .ref s_glyphs, .int s_glyphCount, .ref s_dots, .int s_used, .ref s_wishes, .ref s_pins, .int s_id, .int s_code, .ref s_chosen, .int s_chosenKnown, .ref s_left, .ref s_coming]))]) [0] (by decide) rfl
    have hKc := hK.sub (tys' := []) [] rfl
    have hFc := va_free (wc := [(h0, .inr (3, [.ref s_ids, .ref s_attributes, .ref s_permanent, .int 0, .ref s_glyphs, .int s_glyphCount, .ref s_dots, .int s_used, .ref s_wishes, .ref s_pins, .int s_id, .int s_code, .ref s_chosen, .int s_chosenKnown, .ref s_left, .ref s_coming]))]) hD hS hA [0] rfl
    refine va_calli (va_runV (As := [.int 5, .int (x - (st * 11))]) (rest := []) ⟨hx, hb, hml, hown, hwd⟩ (c_anyLeft_0 l dC dI tt h0 s_ids s_attributes s_permanent s_glyphs s_glyphCount s_dots s_used s_wishes s_pins s_id s_code s_chosen s_chosenKnown s_left s_coming 5 (x - (st * 11)) H.size ) (cwV 2 hwd (gV gd_FontShelf_anyLeft wd_2_90 wd_2_92 ws_16 wd_1_5) rfl rfl rfl (by decide +kernel) ⟨Nat.le_of_ble_eq_true rfl, Nat.le_of_ble_eq_true rfl⟩) ⟨fun a U g mk q => by obtain ⟨q0, q1, qP, qK, qD, qF⟩ := q; exact ⟨q0, q1, qP, va_K.moved (u := U) (U := U.calling g mk a) (Vm.Alike.refl U.vm) qK, qD, SF.same (u := U) (U := U.calling g mk a) rfl qF⟩, va_recv hKc hPc (ci := 3) (q0 := 0) rfl rfl, fun U hU hW => ⟨rfl, by rw [hU], by rw [hU]; exact hPc, va_K.moved hW.alike hKc, hDc.weaken (fun _ _ _ _ => trivial), by rw [hU]; exact SF.narrow (SF.moved hW (SF.kept hF (fun a h1 h2 => hS.2.1 a h1 h2))) hFc⟩⟩ rfl rfl hl.1 rfl (lv_room (Nat.le_of_ble_eq_true rfl)) d_FontShelf_bestWeight_76 ⟨Nat.le_of_ble_eq_true rfl, Nat.le_of_ble_eq_true rfl⟩) hS (fun q _ h => hFc q h) hFc ?_
    clear hPc hDc hKc hS
    intro r_75 u_76 t H1 locs ht hvm hw hB hz1 hk1 hS
    obtain ⟨hP1, hK1, hD1⟩ := hB
    rw [ht] at hP1
    have hK1 := va_K.moved hvm.symm hK1
    try dsimp only at hw
    have hJ := va_join (wr := []) (w1 := [(h0, .inr (3, [.ref s_ids, .ref s_attributes, .ref s_permanent, .int 0, .ref s_glyphs, .int s_glyphCount, .ref s_dots, .int s_used, .ref s_wishes, .ref s_pins, .int s_id, .int s_code, .ref s_chosen, .int s_chosenKnown, .ref s_left, .ref s_coming]))]) hP hD [0] [] rfl rfl (by decide) (by decide) hk1 hFc hP1 hD1
    clear hP hD hk1 hFc hP1 hD1 hz1
    obtain ⟨hP, hD⟩ := hJ
    clear hK1 ht hvm
    generalize H1 = H at hP hS ⊢
    replace hP : va_P (dC, dI) vcl [(h0, .inr (3, [.ref s_ids, .ref s_attributes, .ref s_permanent, .int 0, .ref s_glyphs, .int s_glyphCount, .ref s_dots, .int s_used, .ref s_wishes, .ref s_pins, .int s_id, .int s_code, .ref s_chosen, .int s_chosenKnown, .ref s_left, .ref s_coming]))] H := hP
    replace hD : va_D A [(h0, .inr (3, [.ref s_ids, .ref s_attributes, .ref s_permanent, .int 0, .ref s_glyphs, .int s_glyphCount, .ref s_dots, .int s_used, .ref s_wishes, .ref s_pins, .int s_id, .int s_code, .ref s_chosen, .int s_chosenKnown, .ref s_left, .ref s_coming]))] := hD
    obtain rfl := hw
    refine lv_if_eq (tgt := 88) hx hb d_FontShelf_bestWeight_79 (by decide) (fun _ => ?_) (fun c79 => absurd (by decide) c79)
    refine lv_iinc (v := 12) (lv' := [(3, .int 12), (0, .ref h0), (1, .int x), (2, .int st)]) hx hb d_FontShelf_bestWeight_88 hl (k := 0) rfl (by decide) (by decide) rfl ?_
    clear hl
    intro ls hl
    refine lv_goto (tgt := 54) hx hb d_FontShelf_bestWeight_91 (by decide) ?_
    refine lv_iload_n hx hb d_FontShelf_bestWeight_54 rfl (lv_at hl 0 rfl) ?_
    refine va_gets hx hb (SF_p3 hF).1 hS hown (hwd _ wd_2_73) (fun _ h9 => h9) d_FontShelf_bestWeight_55 ?_
    refine lv_iconst (v := 5) hx hb d_FontShelf_bestWeight_58 (by decide) ?_
    refine va_ti (v := .int 7) hx hb (SF_p3 hF).2 hS (show ¬ ((5 : Int32) < 0 ∨ 7 ≤ (5 : Int32).toNatClampNeg) by decide) rfl d_FontShelf_bestWeight_59 ?_
    refine va_gets hx hb (SF_p4 hF).1 hS hown (hwd _ wd_2_88) (fun _ h9 => h9) d_FontShelf_bestWeight_60 ?_
    refine lv_iconst (v := 5) hx hb d_FontShelf_bestWeight_63 (by decide) ?_
    refine va_ti (v := .int (-7)) hx hb (SF_p4 hF).2 hS (show ¬ ((5 : Int32) < 0 ∨ 7 ≤ (5 : Int32).toNatClampNeg) by decide) rfl d_FontShelf_bestWeight_64 ?_
    refine lv_isub hx hb d_FontShelf_bestWeight_65 ?_
    refine lv_topi (fun y_77 ey_77 => ?_)
    obtain rfl : y_77 = (14 : Int32) := ey_77.trans (by decide)
    refine lv_icmp_gt (tgt := 94) hx hb d_FontShelf_bestWeight_66 (by decide) (fun c66 => absurd c66 (by decide)) (fun _ => ?_)
    refine lv_aload_n hx hb d_FontShelf_bestWeight_69 rfl (lv_at hl 1 rfl) ?_
    refine lv_iconst (v := 5) hx hb d_FontShelf_bestWeight_70 (by decide) ?_
    refine lv_iload_n hx hb d_FontShelf_bestWeight_71 rfl (lv_at hl 2 rfl) ?_
    refine lv_iload_n hx hb d_FontShelf_bestWeight_72 rfl (lv_at hl 3 rfl) ?_
    refine lv_iload_n hx hb d_FontShelf_bestWeight_73 rfl (lv_at hl 0 rfl) ?_
    refine lv_imul hx hb d_FontShelf_bestWeight_74 ?_
    refine lv_isub hx hb d_FontShelf_bestWeight_75 ?_
    have hPc := hP.sub (ws' := [(h0, .inr (3, [.ref s_ids, .ref s_attributes, .ref s_permanent, .int 0, .ref s_glyphs, .int s_glyphCount, .ref s_dots, .int s_used, .ref s_wishes, .ref s_pins, .int s_id, .int s_code, .ref s_chosen, .int s_chosenKnown, .ref s_left, .ref s_coming]))]) [0] rfl
    have hDc := hD.sub (ws' := [(h0, .inr (3, [.ref s_ids, .ref s_attributes, .ref s_permanent, .int 0, .ref s_glyphs, .int s_glyphCount, .ref s_dots, .int s_used, .ref s_wishes, .ref s_pins, .int s_id, .int s_code, .ref s_chosen, .int s_chosenKnown, .ref s_left, .ref s_coming]))]) [0] (by decide) rfl
    have hKc := hK.sub (tys' := []) [] rfl
    have hFc := va_free (wc := [(h0, .inr (3, [.ref s_ids, .ref s_attributes, .ref s_permanent, .int 0, .ref s_glyphs, .int s_glyphCount, .ref s_dots, .int s_used, .ref s_wishes, .ref s_pins, .int s_id, .int s_code, .ref s_chosen, .int s_chosenKnown, .ref s_left, .ref s_coming]))]) hD hS hA [0] rfl
    refine va_calli (va_runV (As := [.int 5, .int (x - (st * 12))]) (rest := []) ⟨hx, hb, hml, hown, hwd⟩ (c_anyLeft_0 l dC dI tt h0 s_ids s_attributes s_permanent s_glyphs s_glyphCount s_dots s_used s_wishes s_pins s_id s_code s_chosen s_chosenKnown s_left s_coming 5 (x - (st * 12)) H.size ) (cwV 2 hwd (gV gd_FontShelf_anyLeft wd_2_90 wd_2_92 ws_16 wd_1_5) rfl rfl rfl (by decide +kernel) ⟨Nat.le_of_ble_eq_true rfl, Nat.le_of_ble_eq_true rfl⟩) ⟨fun a U g mk q => by obtain ⟨q0, q1, qP, qK, qD, qF⟩ := q; exact ⟨q0, q1, qP, va_K.moved (u := U) (U := U.calling g mk a) (Vm.Alike.refl U.vm) qK, qD, SF.same (u := U) (U := U.calling g mk a) rfl qF⟩, va_recv hKc hPc (ci := 3) (q0 := 0) rfl rfl, fun U hU hW => ⟨rfl, by rw [hU], by rw [hU]; exact hPc, va_K.moved hW.alike hKc, hDc.weaken (fun _ _ _ _ => trivial), by rw [hU]; exact SF.narrow (SF.moved hW (SF.kept hF (fun a h1 h2 => hS.2.1 a h1 h2))) hFc⟩⟩ rfl rfl hl.1 rfl (lv_room (Nat.le_of_ble_eq_true rfl)) d_FontShelf_bestWeight_76 ⟨Nat.le_of_ble_eq_true rfl, Nat.le_of_ble_eq_true rfl⟩) hS (fun q _ h => hFc q h) hFc ?_
    clear hPc hDc hKc hS
    intro r_78 u_79 t H1 locs ht hvm hw hB hz1 hk1 hS
    obtain ⟨hP1, hK1, hD1⟩ := hB
    rw [ht] at hP1
    have hK1 := va_K.moved hvm.symm hK1
    try dsimp only at hw
    have hJ := va_join (wr := []) (w1 := [(h0, .inr (3, [.ref s_ids, .ref s_attributes, .ref s_permanent, .int 0, .ref s_glyphs, .int s_glyphCount, .ref s_dots, .int s_used, .ref s_wishes, .ref s_pins, .int s_id, .int s_code, .ref s_chosen, .int s_chosenKnown, .ref s_left, .ref s_coming]))]) hP hD [0] [] rfl rfl (by decide) (by decide) hk1 hFc hP1 hD1
    clear hP hD hk1 hFc hP1 hD1 hz1
    obtain ⟨hP, hD⟩ := hJ
    clear hK1 ht hvm
    generalize H1 = H at hP hS ⊢
    replace hP : va_P (dC, dI) vcl [(h0, .inr (3, [.ref s_ids, .ref s_attributes, .ref s_permanent, .int 0, .ref s_glyphs, .int s_glyphCount, .ref s_dots, .int s_used, .ref s_wishes, .ref s_pins, .int s_id, .int s_code, .ref s_chosen, .int s_chosenKnown, .ref s_left, .ref s_coming]))] H := hP
    replace hD : va_D A [(h0, .inr (3, [.ref s_ids, .ref s_attributes, .ref s_permanent, .int 0, .ref s_glyphs, .int s_glyphCount, .ref s_dots, .int s_used, .ref s_wishes, .ref s_pins, .int s_id, .int s_code, .ref s_chosen, .int s_chosenKnown, .ref s_left, .ref s_coming]))] := hD
    obtain rfl := hw
    refine lv_if_eq (tgt := 88) hx hb d_FontShelf_bestWeight_79 (by decide) (fun _ => ?_) (fun c79 => absurd (by decide) c79)
    refine lv_iinc (v := 13) (lv' := [(3, .int 13), (0, .ref h0), (1, .int x), (2, .int st)]) hx hb d_FontShelf_bestWeight_88 hl (k := 0) rfl (by decide) (by decide) rfl ?_
    clear hl
    intro ls hl
    refine lv_goto (tgt := 54) hx hb d_FontShelf_bestWeight_91 (by decide) ?_
    refine lv_iload_n hx hb d_FontShelf_bestWeight_54 rfl (lv_at hl 0 rfl) ?_
    refine va_gets hx hb (SF_p3 hF).1 hS hown (hwd _ wd_2_73) (fun _ h9 => h9) d_FontShelf_bestWeight_55 ?_
    refine lv_iconst (v := 5) hx hb d_FontShelf_bestWeight_58 (by decide) ?_
    refine va_ti (v := .int 7) hx hb (SF_p3 hF).2 hS (show ¬ ((5 : Int32) < 0 ∨ 7 ≤ (5 : Int32).toNatClampNeg) by decide) rfl d_FontShelf_bestWeight_59 ?_
    refine va_gets hx hb (SF_p4 hF).1 hS hown (hwd _ wd_2_88) (fun _ h9 => h9) d_FontShelf_bestWeight_60 ?_
    refine lv_iconst (v := 5) hx hb d_FontShelf_bestWeight_63 (by decide) ?_
    refine va_ti (v := .int (-7)) hx hb (SF_p4 hF).2 hS (show ¬ ((5 : Int32) < 0 ∨ 7 ≤ (5 : Int32).toNatClampNeg) by decide) rfl d_FontShelf_bestWeight_64 ?_
    refine lv_isub hx hb d_FontShelf_bestWeight_65 ?_
    refine lv_topi (fun y_80 ey_80 => ?_)
    obtain rfl : y_80 = (14 : Int32) := ey_80.trans (by decide)
    refine lv_icmp_gt (tgt := 94) hx hb d_FontShelf_bestWeight_66 (by decide) (fun c66 => absurd c66 (by decide)) (fun _ => ?_)
    refine lv_aload_n hx hb d_FontShelf_bestWeight_69 rfl (lv_at hl 1 rfl) ?_
    refine lv_iconst (v := 5) hx hb d_FontShelf_bestWeight_70 (by decide) ?_
    refine lv_iload_n hx hb d_FontShelf_bestWeight_71 rfl (lv_at hl 2 rfl) ?_
    refine lv_iload_n hx hb d_FontShelf_bestWeight_72 rfl (lv_at hl 3 rfl) ?_
    refine lv_iload_n hx hb d_FontShelf_bestWeight_73 rfl (lv_at hl 0 rfl) ?_
    refine lv_imul hx hb d_FontShelf_bestWeight_74 ?_
    refine lv_isub hx hb d_FontShelf_bestWeight_75 ?_
    have hPc := hP.sub (ws' := [(h0, .inr (3, [.ref s_ids, .ref s_attributes, .ref s_permanent, .int 0, .ref s_glyphs, .int s_glyphCount, .ref s_dots, .int s_used, .ref s_wishes, .ref s_pins, .int s_id, .int s_code, .ref s_chosen, .int s_chosenKnown, .ref s_left, .ref s_coming]))]) [0] rfl
    have hDc := hD.sub (ws' := [(h0, .inr (3, [.ref s_ids, .ref s_attributes, .ref s_permanent, .int 0, .ref s_glyphs, .int s_glyphCount, .ref s_dots, .int s_used, .ref s_wishes, .ref s_pins, .int s_id, .int s_code, .ref s_chosen, .int s_chosenKnown, .ref s_left, .ref s_coming]))]) [0] (by decide) rfl
    have hKc := hK.sub (tys' := []) [] rfl
    have hFc := va_free (wc := [(h0, .inr (3, [.ref s_ids, .ref s_attributes, .ref s_permanent, .int 0, .ref s_glyphs, .int s_glyphCount, .ref s_dots, .int s_used, .ref s_wishes, .ref s_pins, .int s_id, .int s_code, .ref s_chosen, .int s_chosenKnown, .ref s_left, .ref s_coming]))]) hD hS hA [0] rfl
    refine va_calli (va_runV (As := [.int 5, .int (x - (st * 13))]) (rest := []) ⟨hx, hb, hml, hown, hwd⟩ (c_anyLeft_0 l dC dI tt h0 s_ids s_attributes s_permanent s_glyphs s_glyphCount s_dots s_used s_wishes s_pins s_id s_code s_chosen s_chosenKnown s_left s_coming 5 (x - (st * 13)) H.size ) (cwV 2 hwd (gV gd_FontShelf_anyLeft wd_2_90 wd_2_92 ws_16 wd_1_5) rfl rfl rfl (by decide +kernel) ⟨Nat.le_of_ble_eq_true rfl, Nat.le_of_ble_eq_true rfl⟩) ⟨fun a U g mk q => by obtain ⟨q0, q1, qP, qK, qD, qF⟩ := q; exact ⟨q0, q1, qP, va_K.moved (u := U) (U := U.calling g mk a) (Vm.Alike.refl U.vm) qK, qD, SF.same (u := U) (U := U.calling g mk a) rfl qF⟩, va_recv hKc hPc (ci := 3) (q0 := 0) rfl rfl, fun U hU hW => ⟨rfl, by rw [hU], by rw [hU]; exact hPc, va_K.moved hW.alike hKc, hDc.weaken (fun _ _ _ _ => trivial), by rw [hU]; exact SF.narrow (SF.moved hW (SF.kept hF (fun a h1 h2 => hS.2.1 a h1 h2))) hFc⟩⟩ rfl rfl hl.1 rfl (lv_room (Nat.le_of_ble_eq_true rfl)) d_FontShelf_bestWeight_76 ⟨Nat.le_of_ble_eq_true rfl, Nat.le_of_ble_eq_true rfl⟩) hS (fun q _ h => hFc q h) hFc ?_
    clear hPc hDc hKc hS
    intro r_81 u_82 t H1 locs ht hvm hw hB hz1 hk1 hS
    obtain ⟨hP1, hK1, hD1⟩ := hB
    rw [ht] at hP1
    have hK1 := va_K.moved hvm.symm hK1
    try dsimp only at hw
    have hJ := va_join (wr := []) (w1 := [(h0, .inr (3, [.ref s_ids, .ref s_attributes, .ref s_permanent, .int 0, .ref s_glyphs, .int s_glyphCount, .ref s_dots, .int s_used, .ref s_wishes, .ref s_pins, .int s_id, .int s_code, .ref s_chosen, .int s_chosenKnown, .ref s_left, .ref s_coming]))]) hP hD [0] [] rfl rfl (by decide) (by decide) hk1 hFc hP1 hD1
    clear hP hD hk1 hFc hP1 hD1 hz1
    obtain ⟨hP, hD⟩ := hJ
    clear hK1 ht hvm
    generalize H1 = H at hP hS ⊢
    replace hP : va_P (dC, dI) vcl [(h0, .inr (3, [.ref s_ids, .ref s_attributes, .ref s_permanent, .int 0, .ref s_glyphs, .int s_glyphCount, .ref s_dots, .int s_used, .ref s_wishes, .ref s_pins, .int s_id, .int s_code, .ref s_chosen, .int s_chosenKnown, .ref s_left, .ref s_coming]))] H := hP
    replace hD : va_D A [(h0, .inr (3, [.ref s_ids, .ref s_attributes, .ref s_permanent, .int 0, .ref s_glyphs, .int s_glyphCount, .ref s_dots, .int s_used, .ref s_wishes, .ref s_pins, .int s_id, .int s_code, .ref s_chosen, .int s_chosenKnown, .ref s_left, .ref s_coming]))] := hD
    obtain rfl := hw
    refine lv_if_eq (tgt := 88) hx hb d_FontShelf_bestWeight_79 (by decide) (fun _ => ?_) (fun c79 => absurd (by decide) c79)
    refine lv_iinc (v := 14) (lv' := [(3, .int 14), (0, .ref h0), (1, .int x), (2, .int st)]) hx hb d_FontShelf_bestWeight_88 hl (k := 0) rfl (by decide) (by decide) rfl ?_
    clear hl
    intro ls hl
    refine lv_goto (tgt := 54) hx hb d_FontShelf_bestWeight_91 (by decide) ?_
    refine lv_iload_n hx hb d_FontShelf_bestWeight_54 rfl (lv_at hl 0 rfl) ?_
    refine va_gets hx hb (SF_p3 hF).1 hS hown (hwd _ wd_2_73) (fun _ h9 => h9) d_FontShelf_bestWeight_55 ?_
    refine lv_iconst (v := 5) hx hb d_FontShelf_bestWeight_58 (by decide) ?_
    refine va_ti (v := .int 7) hx hb (SF_p3 hF).2 hS (show ¬ ((5 : Int32) < 0 ∨ 7 ≤ (5 : Int32).toNatClampNeg) by decide) rfl d_FontShelf_bestWeight_59 ?_
    refine va_gets hx hb (SF_p4 hF).1 hS hown (hwd _ wd_2_88) (fun _ h9 => h9) d_FontShelf_bestWeight_60 ?_
    refine lv_iconst (v := 5) hx hb d_FontShelf_bestWeight_63 (by decide) ?_
    refine va_ti (v := .int (-7)) hx hb (SF_p4 hF).2 hS (show ¬ ((5 : Int32) < 0 ∨ 7 ≤ (5 : Int32).toNatClampNeg) by decide) rfl d_FontShelf_bestWeight_64 ?_
    refine lv_isub hx hb d_FontShelf_bestWeight_65 ?_
    refine lv_topi (fun y_83 ey_83 => ?_)
    obtain rfl : y_83 = (14 : Int32) := ey_83.trans (by decide)
    refine lv_icmp_gt (tgt := 94) hx hb d_FontShelf_bestWeight_66 (by decide) (fun c66 => absurd c66 (by decide)) (fun _ => ?_)
    refine lv_aload_n hx hb d_FontShelf_bestWeight_69 rfl (lv_at hl 1 rfl) ?_
    refine lv_iconst (v := 5) hx hb d_FontShelf_bestWeight_70 (by decide) ?_
    refine lv_iload_n hx hb d_FontShelf_bestWeight_71 rfl (lv_at hl 2 rfl) ?_
    refine lv_iload_n hx hb d_FontShelf_bestWeight_72 rfl (lv_at hl 3 rfl) ?_
    refine lv_iload_n hx hb d_FontShelf_bestWeight_73 rfl (lv_at hl 0 rfl) ?_
    refine lv_imul hx hb d_FontShelf_bestWeight_74 ?_
    refine lv_isub hx hb d_FontShelf_bestWeight_75 ?_
    have hPc := hP.sub (ws' := [(h0, .inr (3, [.ref s_ids, .ref s_attributes, .ref s_permanent, .int 0, .ref s_glyphs, .int s_glyphCount, .ref s_dots, .int s_used, .ref s_wishes, .ref s_pins, .int s_id, .int s_code, .ref s_chosen, .int s_chosenKnown, .ref s_left, .ref s_coming]))]) [0] rfl
    have hDc := hD.sub (ws' := [(h0, .inr (3, [.ref s_ids, .ref s_attributes, .ref s_permanent, .int 0, .ref s_glyphs, .int s_glyphCount, .ref s_dots, .int s_used, .ref s_wishes, .ref s_pins, .int s_id, .int s_code, .ref s_chosen, .int s_chosenKnown, .ref s_left, .ref s_coming]))]) [0] (by decide) rfl
    have hKc := hK.sub (tys' := []) [] rfl
    have hFc := va_free (wc := [(h0, .inr (3, [.ref s_ids, .ref s_attributes, .ref s_permanent, .int 0, .ref s_glyphs, .int s_glyphCount, .ref s_dots, .int s_used, .ref s_wishes, .ref s_pins, .int s_id, .int s_code, .ref s_chosen, .int s_chosenKnown, .ref s_left, .ref s_coming]))]) hD hS hA [0] rfl
    refine va_calli (va_runV (As := [.int 5, .int (x - (st * 14))]) (rest := []) ⟨hx, hb, hml, hown, hwd⟩ (c_anyLeft_0 l dC dI tt h0 s_ids s_attributes s_permanent s_glyphs s_glyphCount s_dots s_used s_wishes s_pins s_id s_code s_chosen s_chosenKnown s_left s_coming 5 (x - (st * 14)) H.size ) (cwV 2 hwd (gV gd_FontShelf_anyLeft wd_2_90 wd_2_92 ws_16 wd_1_5) rfl rfl rfl (by decide +kernel) ⟨Nat.le_of_ble_eq_true rfl, Nat.le_of_ble_eq_true rfl⟩) ⟨fun a U g mk q => by obtain ⟨q0, q1, qP, qK, qD, qF⟩ := q; exact ⟨q0, q1, qP, va_K.moved (u := U) (U := U.calling g mk a) (Vm.Alike.refl U.vm) qK, qD, SF.same (u := U) (U := U.calling g mk a) rfl qF⟩, va_recv hKc hPc (ci := 3) (q0 := 0) rfl rfl, fun U hU hW => ⟨rfl, by rw [hU], by rw [hU]; exact hPc, va_K.moved hW.alike hKc, hDc.weaken (fun _ _ _ _ => trivial), by rw [hU]; exact SF.narrow (SF.moved hW (SF.kept hF (fun a h1 h2 => hS.2.1 a h1 h2))) hFc⟩⟩ rfl rfl hl.1 rfl (lv_room (Nat.le_of_ble_eq_true rfl)) d_FontShelf_bestWeight_76 ⟨Nat.le_of_ble_eq_true rfl, Nat.le_of_ble_eq_true rfl⟩) hS (fun q _ h => hFc q h) hFc ?_
    clear hPc hDc hKc hS
    intro r_84 u_85 t H1 locs ht hvm hw hB hz1 hk1 hS
    obtain ⟨hP1, hK1, hD1⟩ := hB
    rw [ht] at hP1
    have hK1 := va_K.moved hvm.symm hK1
    try dsimp only at hw
    have hJ := va_join (wr := []) (w1 := [(h0, .inr (3, [.ref s_ids, .ref s_attributes, .ref s_permanent, .int 0, .ref s_glyphs, .int s_glyphCount, .ref s_dots, .int s_used, .ref s_wishes, .ref s_pins, .int s_id, .int s_code, .ref s_chosen, .int s_chosenKnown, .ref s_left, .ref s_coming]))]) hP hD [0] [] rfl rfl (by decide) (by decide) hk1 hFc hP1 hD1
    clear hP hD hk1 hFc hP1 hD1 hz1
    obtain ⟨hP, hD⟩ := hJ
    clear hK1 ht hvm
    generalize H1 = H at hP hS ⊢
    replace hP : va_P (dC, dI) vcl [(h0, .inr (3, [.ref s_ids, .ref s_attributes, .ref s_permanent, .int 0, .ref s_glyphs, .int s_glyphCount, .ref s_dots, .int s_used, .ref s_wishes, .ref s_pins, .int s_id, .int s_code, .ref s_chosen, .int s_chosenKnown, .ref s_left, .ref s_coming]))] H := hP
    replace hD : va_D A [(h0, .inr (3, [.ref s_ids, .ref s_attributes, .ref s_permanent, .int 0, .ref s_glyphs, .int s_glyphCount, .ref s_dots, .int s_used, .ref s_wishes, .ref s_pins, .int s_id, .int s_code, .ref s_chosen, .int s_chosenKnown, .ref s_left, .ref s_coming]))] := hD
    obtain rfl := hw
    refine lv_if_eq (tgt := 88) hx hb d_FontShelf_bestWeight_79 (by decide) (fun _ => ?_) (fun c79 => absurd (by decide) c79)
    refine lv_iinc (v := 15) (lv' := [(3, .int 15), (0, .ref h0), (1, .int x), (2, .int st)]) hx hb d_FontShelf_bestWeight_88 hl (k := 0) rfl (by decide) (by decide) rfl ?_
    clear hl
    intro ls hl
    refine lv_goto (tgt := 54) hx hb d_FontShelf_bestWeight_91 (by decide) ?_
    refine lv_iload_n hx hb d_FontShelf_bestWeight_54 rfl (lv_at hl 0 rfl) ?_
    refine va_gets hx hb (SF_p3 hF).1 hS hown (hwd _ wd_2_73) (fun _ h9 => h9) d_FontShelf_bestWeight_55 ?_
    refine lv_iconst (v := 5) hx hb d_FontShelf_bestWeight_58 (by decide) ?_
    refine va_ti (v := .int 7) hx hb (SF_p3 hF).2 hS (show ¬ ((5 : Int32) < 0 ∨ 7 ≤ (5 : Int32).toNatClampNeg) by decide) rfl d_FontShelf_bestWeight_59 ?_
    refine va_gets hx hb (SF_p4 hF).1 hS hown (hwd _ wd_2_88) (fun _ h9 => h9) d_FontShelf_bestWeight_60 ?_
    refine lv_iconst (v := 5) hx hb d_FontShelf_bestWeight_63 (by decide) ?_
    refine va_ti (v := .int (-7)) hx hb (SF_p4 hF).2 hS (show ¬ ((5 : Int32) < 0 ∨ 7 ≤ (5 : Int32).toNatClampNeg) by decide) rfl d_FontShelf_bestWeight_64 ?_
    refine lv_isub hx hb d_FontShelf_bestWeight_65 ?_
    refine lv_topi (fun y_86 ey_86 => ?_)
    obtain rfl : y_86 = (14 : Int32) := ey_86.trans (by decide)
    refine lv_icmp_gt (tgt := 94) hx hb d_FontShelf_bestWeight_66 (by decide) (fun _ => ?_) (fun c66 => absurd (by decide) c66)
    refine lv_iload_n hx hb d_FontShelf_bestWeight_94 rfl (lv_at hl 2 rfl) ?_
    have hP9 := hP.sub (ws' := [(h0, .inr (3, [.ref s_ids, .ref s_attributes, .ref s_permanent, .int 0, .ref s_glyphs, .int s_glyphCount, .ref s_dots, .int s_used, .ref s_wishes, .ref s_pins, .int s_id, .int s_code, .ref s_chosen, .int s_chosenKnown, .ref s_left, .ref s_coming]))]) [0] rfl
    have hD9 := hD.sub (ws' := [(h0, .inr (3, [.ref s_ids, .ref s_attributes, .ref s_permanent, .int 0, .ref s_glyphs, .int s_glyphCount, .ref s_dots, .int s_used, .ref s_wishes, .ref s_pins, .int s_id, .int s_code, .ref s_chosen, .int s_chosenKnown, .ref s_left, .ref s_coming]))]) [0] (by decide) rfl
    have hK9 := hK.sub (tys' := []) [] rfl
    exact W.iret (v := x) hx hb hr (fun t ht hW => ⟨⟨x, (), rfl, (show (x : Int32) = x from (by first | exact trivial | rfl | simp [*])), by rw [ht]; exact hP9, va_K.moved hW.alike hK9, hD9⟩, hS.F ht⟩) hS.2.2 d_FontShelf_bestWeight_95
  refine lv_iload_n hx hb d_FontShelf_bestWeight_0 rfl (lv_at hl 1 rfl) ?_
  refine lv_if_lt (tgt := 8) hx hb d_FontShelf_bestWeight_1 (by decide) (fun c1 => ?_) (fun c1 => ?_)
  · refine lv_iconst (v := (-1)) hx hb d_FontShelf_bestWeight_8 (by decide) ?_
    refine lv_istore_n (lv' := [(2, .int (-1)), (0, .ref h0), (1, .int x)]) hx hb d_FontShelf_bestWeight_9 rfl hl (by decide) rfl ?_
    clear hl
    intro ls hl
    exact cut10 (-1)  _ _ _ hK hP hD hS (lv_sub hl [1, 2, 0] rfl)
  · refine lv_iconst (v := 1) hx hb d_FontShelf_bestWeight_4 (by decide) ?_
    refine lv_goto (tgt := 9) hx hb d_FontShelf_bestWeight_5 (by decide) ?_
    refine lv_istore_n (lv' := [(2, .int 1), (0, .ref h0), (1, .int x)]) hx hb d_FontShelf_bestWeight_9 rfl hl (by decide) rfl ?_
    clear hl
    intro ls hl
    exact cut10 1  _ _ _ hK hP hD hS (lv_sub hl [1, 2, 0] rfl)

abbrev at_c_choose_0_0 (dC : Nat → ClassId) (dI : Nat → Nat → Nat) (h0 : Nat) (s_ids : Nat) (s_attributes : Nat) (s_permanent : Nat) (s_glyphs : Nat) (s_glyphCount : Int32) (s_dots : Nat) (s_used : Int32) (s_wishes : Nat) (s_pins : Nat) (s_id : Int32) (s_code : Int32) (s_chosen : Nat) (s_chosenKnown : Int32) (s_left : Nat) (s_coming : Nat) (cp : ClassId) (pn : Nat → Int32) (cl : ClassId) (lf : Nat → Int32) (cw : ClassId) (wi : Nat → Int32) (A : Nat → Prop) (u : (Nat → Int32)) (t : State) : Prop := match u with
  | lz => va_P (dC, dI) vcl [(h0, .inr (3, [.ref s_ids, .ref s_attributes, .ref s_permanent, .int 0, .ref s_glyphs, .int s_glyphCount, .ref s_dots, .int s_used, .ref s_wishes, .ref s_pins, .int s_id, .int s_code, .ref s_chosen, .int s_chosenKnown, .ref s_left, .ref s_coming])), (s_pins, .inl (cp, 2, .inl pn)), (s_left, .inl (cl, 32, .inl lz)), (s_wishes, .inl (cw, 14, .inl wi))] t.heap ∧ va_K (dC, dI) vcl [(cp, .int), (cl, .boolean), (cw, .int)] t ∧ va_D A [(h0, .inr (3, [.ref s_ids, .ref s_attributes, .ref s_permanent, .int 0, .ref s_glyphs, .int s_glyphCount, .ref s_dots, .int s_used, .ref s_wishes, .ref s_pins, .int s_id, .int s_code, .ref s_chosen, .int s_chosenKnown, .ref s_left, .ref s_coming])), (s_pins, .inl (cp, 2, .inl pn)), (s_left, .inl (cl, 32, .inl lz)), (s_wishes, .inl (cw, 14, .inl wi))]
abbrev po_c_choose_0_0 (h0 : Nat) (s_ids : Nat) (s_attributes : Nat) (s_permanent : Nat) (s_glyphs : Nat) (s_glyphCount : Int32) (s_dots : Nat) (s_used : Int32) (s_wishes : Nat) (s_pins : Nat) (s_id : Int32) (s_code : Int32) (s_chosen : Nat) (s_chosenKnown : Int32) (s_left : Nat) (s_coming : Nat) (cp : ClassId) (pn : Nat → Int32) (cl : ClassId) (lf : Nat → Int32) (cw : ClassId) (wi : Nat → Int32) (r : Int32) (u : (Nat → Int32)) : Prop := match u with
  | lz => r = -1
abbrev q_c_choose_0_0 (dC : Nat → ClassId) (dI : Nat → Nat → Nat) (h0 : Nat) (s_ids : Nat) (s_attributes : Nat) (s_permanent : Nat) (s_glyphs : Nat) (s_glyphCount : Int32) (s_dots : Nat) (s_used : Int32) (s_wishes : Nat) (s_pins : Nat) (s_id : Int32) (s_code : Int32) (s_chosen : Nat) (s_chosenKnown : Int32) (s_left : Nat) (s_coming : Nat) (cp : ClassId) (pn : Nat → Int32) (cl : ClassId) (lf : Nat → Int32) (cw : ClassId) (wi : Nat → Int32) (A : Nat → Prop) : Array Value → State → Outcome → State → Prop := va_Qi (po_c_choose_0_0 h0 s_ids s_attributes s_permanent s_glyphs s_glyphCount s_dots s_used s_wishes s_pins s_id s_code s_chosen s_chosenKnown s_left s_coming cp pn cl lf cw wi) (at_c_choose_0_0 dC dI h0 s_ids s_attributes s_permanent s_glyphs s_glyphCount s_dots s_used s_wishes s_pins s_id s_code s_chosen s_chosenKnown s_left s_coming cp pn cl lf cw wi A) A
abbrev rm_c_choose_0_0 : Room := { frames := 2, cells := 0, slots := 0, locals := 48 }
set_option maxHeartbeats 4000000 in
set_option maxRecDepth 100000 in
theorem c_choose_0_0 (l : Launch) (dC : Nat → ClassId) (dI : Nat → Nat → Nat) (tt : Nat → Nat) (h0 : Nat) (s_ids : Nat) (s_attributes : Nat) (s_permanent : Nat) (s_glyphs : Nat) (s_glyphCount : Int32) (s_dots : Nat) (s_used : Int32) (s_wishes : Nat) (s_pins : Nat) (s_id : Int32) (s_code : Int32) (s_chosen : Nat) (s_chosenKnown : Int32) (s_left : Nat) (s_coming : Nat) (cp : ClassId) (pn : Nat → Int32) (cl : ClassId) (lf : Nat → Int32) (cw : ClassId) (wi : Nat → Int32) (sz : Nat) (hp : pn 0 = -1) : Met l y_FontShelf_choose w_FontShelf_choose rm_c_choose_0_0 (va_Pc [.ref h0, .int 0] (fun U => U.heap.size = sz ∧ va_P (dC, dI) vcl [(h0, .inr (3, [.ref s_ids, .ref s_attributes, .ref s_permanent, .int 0, .ref s_glyphs, .int s_glyphCount, .ref s_dots, .int s_used, .ref s_wishes, .ref s_pins, .int s_id, .int s_code, .ref s_chosen, .int s_chosenKnown, .ref s_left, .ref s_coming])), (s_pins, .inl (cp, 2, .inl pn)), (s_left, .inl (cl, 32, .inl lf)), (s_wishes, .inl (cw, 14, .inl wi))] U.heap ∧ va_K (dC, dI) vcl [(cp, .int), (cl, .boolean), (cw, .int)] U ∧ va_D (fun _ => True) [(h0, .inr (3, [.ref s_ids, .ref s_attributes, .ref s_permanent, .int 0, .ref s_glyphs, .int s_glyphCount, .ref s_dots, .int s_used, .ref s_wishes, .ref s_pins, .int s_id, .int s_code, .ref s_chosen, .int s_chosenKnown, .ref s_left, .ref s_coming])), (s_pins, .inl (cp, 2, .inl pn)), (s_left, .inl (cl, 32, .inl lf)), (s_wishes, .inl (cw, 14, .inl wi))] ∧ SF tt (va_A [(h0, .inr (3, [.ref s_ids, .ref s_attributes, .ref s_permanent, .int 0, .ref s_glyphs, .int s_glyphCount, .ref s_dots, .int s_used, .ref s_wishes, .ref s_pins, .int s_id, .int s_code, .ref s_chosen, .int s_chosenKnown, .ref s_left, .ref s_coming])), (s_pins, .inl (cp, 2, .inl pn)), (s_left, .inl (cl, 32, .inl lf)), (s_wishes, .inl (cw, 14, .inl wi))] sz) U U.heap)) (q_c_choose_0_0 dC dI h0 s_ids s_attributes s_permanent s_glyphs s_glyphCount s_dots s_used s_wishes s_pins s_id s_code s_chosen s_chosenKnown s_left s_coming cp pn cl lf cw wi (va_A [(h0, .inr (3, [.ref s_ids, .ref s_attributes, .ref s_permanent, .int 0, .ref s_glyphs, .int s_glyphCount, .ref s_dots, .int s_used, .ref s_wishes, .ref s_pins, .int s_id, .int s_code, .ref s_chosen, .int s_chosenKnown, .ref s_left, .ref s_coming])), (s_pins, .inl (cp, 2, .inl pn)), (s_left, .inl (cl, 32, .inl lf)), (s_wishes, .inl (cw, 14, .inl wi))] sz)) 0 0 (va_A [(h0, .inr (3, [.ref s_ids, .ref s_attributes, .ref s_permanent, .int 0, .ref s_glyphs, .int s_glyphCount, .ref s_dots, .int s_used, .ref s_wishes, .ref s_pins, .int s_id, .int s_code, .ref s_chosen, .int s_chosenKnown, .ref s_left, .ref s_coming])), (s_pins, .inl (cp, 2, .inl pn)), (s_left, .inl (cl, 32, .inl lf)), (s_wishes, .inl (cw, 14, .inl wi))] sz) := by
  refine Met.ofW (cc := b_FontShelf_choose) (maxL := 5) (ret := (some .int)) (by decide) rfl ?_
  intro p e s m args below meth c s₁ B hml hv
  obtain ⟨rfl, hsz, hP, hK, hD0, hF⟩ := hv
  have hx := B.exec
  have hb := B.bytes
  have hr := B.returns
  have hwd : ∀ w ∈ gT, w.before _ s = true := fun w h => atoms_spec (ws := w_FontShelf_choose) B.pre w (List.mem_cons_of_mem _ h)
  have hown : s.vm.findClass R_FontShelf = some m.cls := findClass_of_methodNamed B.named
  have hlocks := B.notSynchronized
  subst hsz
  have hD := hD0.self (sz := s.heap.size)
  generalize hAe : va_A [(h0, .inr (3, [.ref s_ids, .ref s_attributes, .ref s_permanent, .int 0, .ref s_glyphs, .int s_glyphCount, .ref s_dots, .int s_used, .ref s_wishes, .ref s_pins, .int s_id, .int s_code, .ref s_chosen, .int s_chosenKnown, .ref s_left, .ref s_coming])), (s_pins, .inl (cp, 2, .inl pn)), (s_left, .inl (cl, 32, .inl lf)), (s_wishes, .inl (cw, 14, .inl wi))] s.heap.size = A at hD hF ⊢
  have hA : ∀ q : Nat, s.heap.size ≤ q → A q := fun q h => by rw [← hAe]; exact Or.inr h
  have hS : va_S A s.heap s.heap [] := va_S.rf
  have hP : va_P (dC, dI) vcl [(h0, .inr (3, [.ref s_ids, .ref s_attributes, .ref s_permanent, .int 0, .ref s_glyphs, .int s_glyphCount, .ref s_dots, .int s_used, .ref s_wishes, .ref s_pins, .int s_id, .int s_code, .ref s_chosen, .int s_chosenKnown, .ref s_left, .ref s_coming])), (s_pins, .inl (cp, 2, .inl pn)), (s_left, .inl (cl, 32, .inl lf)), (s_wishes, .inl (cw, 14, .inl wi))] s.heap := hP
  have hl := lv_entry ([.ref h0, .int 0]) (n := 5) (Nat.le_of_ble_eq_true rfl)
  rw [lg_entry_eq]
  generalize (lg_sl ([.ref h0, .int 0]) ++ List.replicate (5 - (lg_sl ([.ref h0, .int 0])).length) Slot.unset).toArray = ls at hl ⊢
  have hl : lv_has ls 5 [(0, .ref h0), (1, .int 0)] := hl
  refine lv_aload_n hx hb d_FontShelf_choose_0 rfl (lv_at hl 0 rfl) ?_
  refine va_get (D := (dC, dI)) (ci := 3) (v := .ref s_pins) (C := R_FontShelf) (T := F_FontShelf) (N := 16) hx hb hwd i_FontShelf hown hK hP 0 rfl rfl 9 (by decide) (hwd _ wd_2_110) (fun _ h9 => h9) rfl d_FontShelf_choose_1 ?_
  refine lv_iload_n hx hb d_FontShelf_choose_4 rfl (lv_at hl 1 rfl) ?_
  refine va_iald hx hb hK hP 1 0 rfl rfl (show ¬ ((0 : Int32) < 0 ∨ 2 ≤ (0 : Int32).toNatClampNeg) by decide) d_FontShelf_choose_5 ?_
  refine lv_topi (fun y_1 ey_1 => ?_)
  obtain rfl : y_1 = pn 0 := ey_1.trans (by rw [show (0 : Int32).toNatClampNeg = 0 by decide])
  refine lv_iconst (v := (-1)) hx hb d_FontShelf_choose_6 (by decide) ?_
  refine lv_icmp_ne (tgt := 14) hx hb d_FontShelf_choose_7 (by decide) (fun c7 => absurd c7 (fun h => h hp)) (fun c7 => ?_)
  refine lv_iconst (v := (-1)) hx hb d_FontShelf_choose_10 (by decide) ?_
  refine lv_goto (tgt := 24) hx hb d_FontShelf_choose_11 (by decide) ?_
  refine lv_istore_n (lv' := [(2, .int (-1)), (0, .ref h0), (1, .int 0)]) hx hb d_FontShelf_choose_24 rfl hl (by decide) rfl ?_
  clear hl
  intro ls hl
  refine lv_iload_n hx hb d_FontShelf_choose_25 rfl (lv_at hl 0 rfl) ?_
  refine lv_if_lt (tgt := 31) hx hb d_FontShelf_choose_26 (by decide) (fun _ => ?_) (fun c26 => absurd (by decide) c26)
  refine lv_iload_n hx hb d_FontShelf_choose_31 rfl (lv_at hl 2 rfl) ?_
  refine lv_bipush (v := 7) hx hb d_FontShelf_choose_32 (by decide) ?_
  refine lv_imul hx hb d_FontShelf_choose_34 ?_
  refine lv_topi (fun y_2 ey_2 => ?_)
  obtain rfl : y_2 = (0 : Int32) := ey_2.trans (by decide)
  refine lv_istore_n (lv' := [(3, .int 0), (2, .int (-1)), (0, .ref h0), (1, .int 0)]) hx hb d_FontShelf_choose_35 rfl hl (by decide) rfl ?_
  clear hl
  intro ls hl
  refine lv_iconst (v := 0) hx hb d_FontShelf_choose_36 (by decide) ?_
  refine lv_istore (lv' := [(4, .int 0), (3, .int 0), (2, .int (-1)), (0, .ref h0), (1, .int 0)]) hx hb d_FontShelf_choose_37 hl (by decide) rfl ?_
  clear hl
  intro ls hl
  have cut39 : ∀ (n : Nat) (ii : Nat) (xx : Int32) (ly : Nat → Int32), (xx = nI ii) → (ii ≤ 32) → (32 < ii + n) → ∀ (H : Heap) (locs : List Loc) (ls : Array Slot), va_K (dC, dI) vcl [(cp, .int), (cl, .boolean), (cw, .int)] s → va_P (dC, dI) vcl [(h0, .inr (3, [.ref s_ids, .ref s_attributes, .ref s_permanent, .int 0, .ref s_glyphs, .int s_glyphCount, .ref s_dots, .int s_used, .ref s_wishes, .ref s_pins, .int s_id, .int s_code, .ref s_chosen, .int s_chosenKnown, .ref s_left, .ref s_coming])), (s_pins, .inl (cp, 2, .inl pn)), (s_left, .inl (cl, 32, .inl ly)), (s_wishes, .inl (cw, 14, .inl wi))] H → va_D A [(h0, .inr (3, [.ref s_ids, .ref s_attributes, .ref s_permanent, .int 0, .ref s_glyphs, .int s_glyphCount, .ref s_dots, .int s_used, .ref s_wishes, .ref s_pins, .int s_id, .int s_code, .ref s_chosen, .int s_chosenKnown, .ref s_left, .ref s_coming])), (s_pins, .inl (cp, 2, .inl pn)), (s_left, .inl (cl, 32, .inl ly)), (s_wishes, .inl (cw, 14, .inl wi))] → va_S A s.heap H locs → lv_has ls 5 [(0, .ref h0), (1, .int 0), (3, .int 0), (4, .int xx)] → W p l e (headSpec w_FontShelf_choose rm_c_choose_0_0).room s m (List.toArray [.ref h0, .int 0]) below meth c H locs 0 0 (MQ below (q_c_choose_0_0 dC dI h0 s_ids s_attributes s_permanent s_glyphs s_glyphCount s_dots s_used s_wishes s_pins s_id s_code s_chosen s_chosenKnown s_left s_coming cp pn cl lf cw wi A) (List.toArray [.ref h0, .int 0]) s 0 0 A) (F0 m 39 ls []) := by
    intro n
    induction n with
    | zero =>
      intro ii xx ly exx hii hm
      exact absurd hm (by omega)
    | succ n ih =>
      intro ii xx ly exx hii hm H locs ls hK hP hD hS hl
      refine lv_iload hx hb d_FontShelf_choose_39 (lv_at hl 3 rfl) ?_
      refine lv_aload_n hx hb d_FontShelf_choose_41 rfl (lv_at hl 0 rfl) ?_
      refine va_get (D := (dC, dI)) (ci := 3) (v := .ref s_left) (C := R_FontShelf) (T := F_FontShelf) (N := 16) hx hb hwd i_FontShelf hown hK hP 0 rfl rfl 14 (by decide) (hwd _ wd_2_115) (fun _ h9 => h9) rfl d_FontShelf_choose_42 ?_
      refine va_alen (v := 32) hx hb hK hP 2 1 rfl rfl rfl d_FontShelf_choose_45 ?_
      refine lv_icmp_ge (tgt := 76) hx hb d_FontShelf_choose_46 (by decide) (fun c46 => ?_) (fun c46 => ?_)
      · refine lv_aload_n hx hb d_FontShelf_choose_76 rfl (lv_at hl 0 rfl) ?_
        refine lv_iconst (v := 0) hx hb d_FontShelf_choose_77 (by decide) ?_
        refine lv_aload_n hx hb d_FontShelf_choose_78 rfl (lv_at hl 0 rfl) ?_
        refine va_get (D := (dC, dI)) (ci := 3) (v := .ref s_wishes) (C := R_FontShelf) (T := F_FontShelf) (N := 16) hx hb hwd i_FontShelf hown hK hP 0 rfl rfl 8 (by decide) (hwd _ wd_2_109) (fun _ h9 => h9) rfl d_FontShelf_choose_79 ?_
        refine lv_iload_n hx hb d_FontShelf_choose_82 rfl (lv_at hl 2 rfl) ?_
        refine lv_iconst (v := 0) hx hb d_FontShelf_choose_83 (by decide) ?_
        refine lv_iadd hx hb d_FontShelf_choose_84 ?_
        refine lv_topi (fun y_3 ey_3 => ?_)
        obtain rfl : y_3 = (0 : Int32) := ey_3.trans (by decide)
        refine va_iald hx hb hK hP 3 2 rfl rfl (show ¬ ((0 : Int32) < 0 ∨ 14 ≤ (0 : Int32).toNatClampNeg) by decide) d_FontShelf_choose_85 ?_
        refine lv_topi (fun y_4 ey_4 => ?_)
        obtain rfl : y_4 = wi 0 := ey_4.trans (by rw [show (0 : Int32).toNatClampNeg = 0 by decide])
        have hPc := hP.sub (ws' := [(h0, .inr (3, [.ref s_ids, .ref s_attributes, .ref s_permanent, .int 0, .ref s_glyphs, .int s_glyphCount, .ref s_dots, .int s_used, .ref s_wishes, .ref s_pins, .int s_id, .int s_code, .ref s_chosen, .int s_chosenKnown, .ref s_left, .ref s_coming]))]) [0] rfl
        have hDc := hD.sub (ws' := [(h0, .inr (3, [.ref s_ids, .ref s_attributes, .ref s_permanent, .int 0, .ref s_glyphs, .int s_glyphCount, .ref s_dots, .int s_used, .ref s_wishes, .ref s_pins, .int s_id, .int s_code, .ref s_chosen, .int s_chosenKnown, .ref s_left, .ref s_coming]))]) [0] (by decide) rfl
        have hKc := hK.sub (tys' := []) [] rfl
        have hFc := va_free (wc := [(h0, .inr (3, [.ref s_ids, .ref s_attributes, .ref s_permanent, .int 0, .ref s_glyphs, .int s_glyphCount, .ref s_dots, .int s_used, .ref s_wishes, .ref s_pins, .int s_id, .int s_code, .ref s_chosen, .int s_chosenKnown, .ref s_left, .ref s_coming]))]) hD hS hA [0] rfl
        refine va_calli (va_runV (As := [.int 0, .int (wi 0)]) (rest := []) ⟨hx, hb, hml, hown, hwd⟩ (c_keepThose_0 l dC dI tt h0 s_ids s_attributes s_permanent s_glyphs s_glyphCount s_dots s_used s_wishes s_pins s_id s_code s_chosen s_chosenKnown s_left s_coming 0 (wi 0) H.size ) (cwV 2 hwd (gV gd_FontShelf_keepThose wd_2_53 wd_2_55 ws_8 wd_1_5) rfl rfl rfl (by decide +kernel) ⟨Nat.le_of_ble_eq_true rfl, Nat.le_of_ble_eq_true rfl⟩) ⟨fun a U g mk q => by obtain ⟨q0, q1, qP, qK, qD, qF⟩ := q; exact ⟨q0, q1, qP, va_K.moved (u := U) (U := U.calling g mk a) (Vm.Alike.refl U.vm) qK, qD, SF.same (u := U) (U := U.calling g mk a) rfl qF⟩, va_recv hKc hPc (ci := 3) (q0 := 0) rfl rfl, fun U hU hW => ⟨rfl, by rw [hU], by rw [hU]; exact hPc, va_K.moved hW.alike hKc, hDc.weaken (fun _ _ _ _ => trivial), by rw [hU]; exact SF.narrow (SF.moved hW (SF.kept hF (fun a h1 h2 => hS.2.1 a h1 h2))) hFc⟩⟩ rfl rfl hl.1 rfl (lv_room (Nat.le_of_ble_eq_true rfl)) d_FontShelf_choose_86 ⟨Nat.le_of_ble_eq_true rfl, Nat.le_of_ble_eq_true rfl⟩) hS (fun q _ h => hFc q h) hFc ?_
        clear hPc hDc hKc hS
        intro r_5 u_6 t H1 locs ht hvm hw hB hz1 hk1 hS
        obtain ⟨hP1, hK1, hD1⟩ := hB
        rw [ht] at hP1
        have hK1 := va_K.moved hvm.symm hK1
        try dsimp only at hw
        have hJ := va_join (wr := [(s_pins, .inl (cp, 2, .inl pn)), (s_left, .inl (cl, 32, .inl ly)), (s_wishes, .inl (cw, 14, .inl wi))]) (w1 := [(h0, .inr (3, [.ref s_ids, .ref s_attributes, .ref s_permanent, .int 0, .ref s_glyphs, .int s_glyphCount, .ref s_dots, .int s_used, .ref s_wishes, .ref s_pins, .int s_id, .int s_code, .ref s_chosen, .int s_chosenKnown, .ref s_left, .ref s_coming]))]) hP hD [0] [1, 2, 3] rfl rfl (by decide) (by decide) hk1 hFc hP1 hD1
        clear hP hD hk1 hFc hP1 hD1 hz1
        obtain ⟨hP, hD⟩ := hJ
        clear hK1 ht hvm
        generalize H1 = H at hP hS ⊢
        replace hP : va_P (dC, dI) vcl [(s_pins, .inl (cp, 2, .inl pn)), (s_left, .inl (cl, 32, .inl ly)), (s_wishes, .inl (cw, 14, .inl wi)), (h0, .inr (3, [.ref s_ids, .ref s_attributes, .ref s_permanent, .int 0, .ref s_glyphs, .int s_glyphCount, .ref s_dots, .int s_used, .ref s_wishes, .ref s_pins, .int s_id, .int s_code, .ref s_chosen, .int s_chosenKnown, .ref s_left, .ref s_coming]))] H := hP
        replace hD : va_D A [(s_pins, .inl (cp, 2, .inl pn)), (s_left, .inl (cl, 32, .inl ly)), (s_wishes, .inl (cw, 14, .inl wi)), (h0, .inr (3, [.ref s_ids, .ref s_attributes, .ref s_permanent, .int 0, .ref s_glyphs, .int s_glyphCount, .ref s_dots, .int s_used, .ref s_wishes, .ref s_pins, .int s_id, .int s_code, .ref s_chosen, .int s_chosenKnown, .ref s_left, .ref s_coming]))] := hD
        obtain rfl := hw
        refine lv_if_ne (tgt := 101) hx hb d_FontShelf_choose_89 (by decide) (fun c89 => absurd c89 (by decide)) (fun _ => ?_)
        refine lv_aload_n hx hb d_FontShelf_choose_92 rfl (lv_at hl 0 rfl) ?_
        refine lv_iconst (v := 0) hx hb d_FontShelf_choose_93 (by decide) ?_
        refine lv_sipush (v := 277) hx hb d_FontShelf_choose_94 (by decide) ?_
        have hPc := hP.sub (ws' := [(h0, .inr (3, [.ref s_ids, .ref s_attributes, .ref s_permanent, .int 0, .ref s_glyphs, .int s_glyphCount, .ref s_dots, .int s_used, .ref s_wishes, .ref s_pins, .int s_id, .int s_code, .ref s_chosen, .int s_chosenKnown, .ref s_left, .ref s_coming]))]) [3] rfl
        have hDc := hD.sub (ws' := [(h0, .inr (3, [.ref s_ids, .ref s_attributes, .ref s_permanent, .int 0, .ref s_glyphs, .int s_glyphCount, .ref s_dots, .int s_used, .ref s_wishes, .ref s_pins, .int s_id, .int s_code, .ref s_chosen, .int s_chosenKnown, .ref s_left, .ref s_coming]))]) [3] (by decide) rfl
        have hKc := hK.sub (tys' := []) [] rfl
        have hFc := va_free (wc := [(h0, .inr (3, [.ref s_ids, .ref s_attributes, .ref s_permanent, .int 0, .ref s_glyphs, .int s_glyphCount, .ref s_dots, .int s_used, .ref s_wishes, .ref s_pins, .int s_id, .int s_code, .ref s_chosen, .int s_chosenKnown, .ref s_left, .ref s_coming]))]) hD hS hA [3] rfl
        refine va_calli (va_runV (As := [.int 0, .int 277]) (rest := []) ⟨hx, hb, hml, hown, hwd⟩ (c_keepThose_0 l dC dI tt h0 s_ids s_attributes s_permanent s_glyphs s_glyphCount s_dots s_used s_wishes s_pins s_id s_code s_chosen s_chosenKnown s_left s_coming 0 277 H.size ) (cwV 2 hwd (gV gd_FontShelf_keepThose wd_2_53 wd_2_55 ws_8 wd_1_5) rfl rfl rfl (by decide +kernel) ⟨Nat.le_of_ble_eq_true rfl, Nat.le_of_ble_eq_true rfl⟩) ⟨fun a U g mk q => by obtain ⟨q0, q1, qP, qK, qD, qF⟩ := q; exact ⟨q0, q1, qP, va_K.moved (u := U) (U := U.calling g mk a) (Vm.Alike.refl U.vm) qK, qD, SF.same (u := U) (U := U.calling g mk a) rfl qF⟩, va_recv hKc hPc (ci := 3) (q0 := 0) rfl rfl, fun U hU hW => ⟨rfl, by rw [hU], by rw [hU]; exact hPc, va_K.moved hW.alike hKc, hDc.weaken (fun _ _ _ _ => trivial), by rw [hU]; exact SF.narrow (SF.moved hW (SF.kept hF (fun a h1 h2 => hS.2.1 a h1 h2))) hFc⟩⟩ rfl rfl hl.1 rfl (lv_room (Nat.le_of_ble_eq_true rfl)) d_FontShelf_choose_97 ⟨Nat.le_of_ble_eq_true rfl, Nat.le_of_ble_eq_true rfl⟩) hS (fun q _ h => hFc q h) hFc ?_
        clear hPc hDc hKc hS
        intro r_7 u_8 t H1 locs ht hvm hw hB hz1 hk1 hS
        obtain ⟨hP1, hK1, hD1⟩ := hB
        rw [ht] at hP1
        have hK1 := va_K.moved hvm.symm hK1
        try dsimp only at hw
        have hJ := va_join (wr := [(s_pins, .inl (cp, 2, .inl pn)), (s_left, .inl (cl, 32, .inl ly)), (s_wishes, .inl (cw, 14, .inl wi))]) (w1 := [(h0, .inr (3, [.ref s_ids, .ref s_attributes, .ref s_permanent, .int 0, .ref s_glyphs, .int s_glyphCount, .ref s_dots, .int s_used, .ref s_wishes, .ref s_pins, .int s_id, .int s_code, .ref s_chosen, .int s_chosenKnown, .ref s_left, .ref s_coming]))]) hP hD [3] [0, 1, 2] rfl rfl (by decide) (by decide) hk1 hFc hP1 hD1
        clear hP hD hk1 hFc hP1 hD1 hz1
        obtain ⟨hP, hD⟩ := hJ
        clear hK1 ht hvm
        generalize H1 = H at hP hS ⊢
        replace hP : va_P (dC, dI) vcl [(s_pins, .inl (cp, 2, .inl pn)), (s_left, .inl (cl, 32, .inl ly)), (s_wishes, .inl (cw, 14, .inl wi)), (h0, .inr (3, [.ref s_ids, .ref s_attributes, .ref s_permanent, .int 0, .ref s_glyphs, .int s_glyphCount, .ref s_dots, .int s_used, .ref s_wishes, .ref s_pins, .int s_id, .int s_code, .ref s_chosen, .int s_chosenKnown, .ref s_left, .ref s_coming]))] H := hP
        replace hD : va_D A [(s_pins, .inl (cp, 2, .inl pn)), (s_left, .inl (cl, 32, .inl ly)), (s_wishes, .inl (cw, 14, .inl wi)), (h0, .inr (3, [.ref s_ids, .ref s_attributes, .ref s_permanent, .int 0, .ref s_glyphs, .int s_glyphCount, .ref s_dots, .int s_used, .ref s_wishes, .ref s_pins, .int s_id, .int s_code, .ref s_chosen, .int s_chosenKnown, .ref s_left, .ref s_coming]))] := hD
        obtain rfl := hw
        refine lv_pop hx hb d_FontShelf_choose_100 rfl ?_
        refine lv_aload_n hx hb d_FontShelf_choose_101 rfl (lv_at hl 0 rfl) ?_
        refine lv_iconst (v := 1) hx hb d_FontShelf_choose_102 (by decide) ?_
        refine lv_aload_n hx hb d_FontShelf_choose_103 rfl (lv_at hl 0 rfl) ?_
        refine va_get (D := (dC, dI)) (ci := 3) (v := .ref s_wishes) (C := R_FontShelf) (T := F_FontShelf) (N := 16) hx hb hwd i_FontShelf hown hK hP 3 rfl rfl 8 (by decide) (hwd _ wd_2_109) (fun _ h9 => h9) rfl d_FontShelf_choose_104 ?_
        refine lv_iload_n hx hb d_FontShelf_choose_107 rfl (lv_at hl 2 rfl) ?_
        refine lv_iconst (v := 1) hx hb d_FontShelf_choose_108 (by decide) ?_
        refine lv_iadd hx hb d_FontShelf_choose_109 ?_
        refine lv_topi (fun y_9 ey_9 => ?_)
        obtain rfl : y_9 = (1 : Int32) := ey_9.trans (by decide)
        refine va_iald hx hb hK hP 2 2 rfl rfl (show ¬ ((1 : Int32) < 0 ∨ 14 ≤ (1 : Int32).toNatClampNeg) by decide) d_FontShelf_choose_110 ?_
        refine lv_topi (fun y_10 ey_10 => ?_)
        obtain rfl : y_10 = wi 1 := ey_10.trans (by rw [show (1 : Int32).toNatClampNeg = 1 by decide])
        have hPc := hP.sub (ws' := [(h0, .inr (3, [.ref s_ids, .ref s_attributes, .ref s_permanent, .int 0, .ref s_glyphs, .int s_glyphCount, .ref s_dots, .int s_used, .ref s_wishes, .ref s_pins, .int s_id, .int s_code, .ref s_chosen, .int s_chosenKnown, .ref s_left, .ref s_coming]))]) [3] rfl
        have hDc := hD.sub (ws' := [(h0, .inr (3, [.ref s_ids, .ref s_attributes, .ref s_permanent, .int 0, .ref s_glyphs, .int s_glyphCount, .ref s_dots, .int s_used, .ref s_wishes, .ref s_pins, .int s_id, .int s_code, .ref s_chosen, .int s_chosenKnown, .ref s_left, .ref s_coming]))]) [3] (by decide) rfl
        have hKc := hK.sub (tys' := []) [] rfl
        have hFc := va_free (wc := [(h0, .inr (3, [.ref s_ids, .ref s_attributes, .ref s_permanent, .int 0, .ref s_glyphs, .int s_glyphCount, .ref s_dots, .int s_used, .ref s_wishes, .ref s_pins, .int s_id, .int s_code, .ref s_chosen, .int s_chosenKnown, .ref s_left, .ref s_coming]))]) hD hS hA [3] rfl
        refine va_calli (va_runV (As := [.int 1, .int (wi 1)]) (rest := []) ⟨hx, hb, hml, hown, hwd⟩ (c_keepThose_0 l dC dI tt h0 s_ids s_attributes s_permanent s_glyphs s_glyphCount s_dots s_used s_wishes s_pins s_id s_code s_chosen s_chosenKnown s_left s_coming 1 (wi 1) H.size ) (cwV 2 hwd (gV gd_FontShelf_keepThose wd_2_53 wd_2_55 ws_8 wd_1_5) rfl rfl rfl (by decide +kernel) ⟨Nat.le_of_ble_eq_true rfl, Nat.le_of_ble_eq_true rfl⟩) ⟨fun a U g mk q => by obtain ⟨q0, q1, qP, qK, qD, qF⟩ := q; exact ⟨q0, q1, qP, va_K.moved (u := U) (U := U.calling g mk a) (Vm.Alike.refl U.vm) qK, qD, SF.same (u := U) (U := U.calling g mk a) rfl qF⟩, va_recv hKc hPc (ci := 3) (q0 := 0) rfl rfl, fun U hU hW => ⟨rfl, by rw [hU], by rw [hU]; exact hPc, va_K.moved hW.alike hKc, hDc.weaken (fun _ _ _ _ => trivial), by rw [hU]; exact SF.narrow (SF.moved hW (SF.kept hF (fun a h1 h2 => hS.2.1 a h1 h2))) hFc⟩⟩ rfl rfl hl.1 rfl (lv_room (Nat.le_of_ble_eq_true rfl)) d_FontShelf_choose_111 ⟨Nat.le_of_ble_eq_true rfl, Nat.le_of_ble_eq_true rfl⟩) hS (fun q _ h => hFc q h) hFc ?_
        clear hPc hDc hKc hS
        intro r_11 u_12 t H1 locs ht hvm hw hB hz1 hk1 hS
        obtain ⟨hP1, hK1, hD1⟩ := hB
        rw [ht] at hP1
        have hK1 := va_K.moved hvm.symm hK1
        try dsimp only at hw
        have hJ := va_join (wr := [(s_pins, .inl (cp, 2, .inl pn)), (s_left, .inl (cl, 32, .inl ly)), (s_wishes, .inl (cw, 14, .inl wi))]) (w1 := [(h0, .inr (3, [.ref s_ids, .ref s_attributes, .ref s_permanent, .int 0, .ref s_glyphs, .int s_glyphCount, .ref s_dots, .int s_used, .ref s_wishes, .ref s_pins, .int s_id, .int s_code, .ref s_chosen, .int s_chosenKnown, .ref s_left, .ref s_coming]))]) hP hD [3] [0, 1, 2] rfl rfl (by decide) (by decide) hk1 hFc hP1 hD1
        clear hP hD hk1 hFc hP1 hD1 hz1
        obtain ⟨hP, hD⟩ := hJ
        clear hK1 ht hvm
        generalize H1 = H at hP hS ⊢
        replace hP : va_P (dC, dI) vcl [(s_pins, .inl (cp, 2, .inl pn)), (s_left, .inl (cl, 32, .inl ly)), (s_wishes, .inl (cw, 14, .inl wi)), (h0, .inr (3, [.ref s_ids, .ref s_attributes, .ref s_permanent, .int 0, .ref s_glyphs, .int s_glyphCount, .ref s_dots, .int s_used, .ref s_wishes, .ref s_pins, .int s_id, .int s_code, .ref s_chosen, .int s_chosenKnown, .ref s_left, .ref s_coming]))] H := hP
        replace hD : va_D A [(s_pins, .inl (cp, 2, .inl pn)), (s_left, .inl (cl, 32, .inl ly)), (s_wishes, .inl (cw, 14, .inl wi)), (h0, .inr (3, [.ref s_ids, .ref s_attributes, .ref s_permanent, .int 0, .ref s_glyphs, .int s_glyphCount, .ref s_dots, .int s_used, .ref s_wishes, .ref s_pins, .int s_id, .int s_code, .ref s_chosen, .int s_chosenKnown, .ref s_left, .ref s_coming]))] := hD
        obtain rfl := hw
        refine lv_pop hx hb d_FontShelf_choose_114 rfl ?_
        refine lv_aload_n hx hb d_FontShelf_choose_115 rfl (lv_at hl 0 rfl) ?_
        refine va_get (D := (dC, dI)) (ci := 3) (v := .ref s_wishes) (C := R_FontShelf) (T := F_FontShelf) (N := 16) hx hb hwd i_FontShelf hown hK hP 3 rfl rfl 8 (by decide) (hwd _ wd_2_109) (fun _ h9 => h9) rfl d_FontShelf_choose_116 ?_
        refine lv_iload_n hx hb d_FontShelf_choose_119 rfl (lv_at hl 2 rfl) ?_
        refine lv_iconst (v := 1) hx hb d_FontShelf_choose_120 (by decide) ?_
        refine lv_iadd hx hb d_FontShelf_choose_121 ?_
        refine lv_topi (fun y_13 ey_13 => ?_)
        obtain rfl : y_13 = (1 : Int32) := ey_13.trans (by decide)
        refine va_iald hx hb hK hP 2 2 rfl rfl (show ¬ ((1 : Int32) < 0 ∨ 14 ≤ (1 : Int32).toNatClampNeg) by decide) d_FontShelf_choose_122 ?_
        refine lv_topi (fun y_14 ey_14 => ?_)
        obtain rfl : y_14 = wi 1 := ey_14.trans (by rw [show (1 : Int32).toNatClampNeg = 1 by decide])
        refine lv_if_ne (tgt := 151) hx hb d_FontShelf_choose_123 (by decide) (fun c123 => ?_) (fun c123 => ?_)
        · refine lv_aload_n hx hb d_FontShelf_choose_151 rfl (lv_at hl 0 rfl) ?_
          refine lv_iconst (v := 3) hx hb d_FontShelf_choose_152 (by decide) ?_
          refine lv_aload_n hx hb d_FontShelf_choose_153 rfl (lv_at hl 0 rfl) ?_
          refine lv_aload_n hx hb d_FontShelf_choose_154 rfl (lv_at hl 0 rfl) ?_
          refine va_get (D := (dC, dI)) (ci := 3) (v := .ref s_wishes) (C := R_FontShelf) (T := F_FontShelf) (N := 16) hx hb hwd i_FontShelf hown hK hP 3 rfl rfl 8 (by decide) (hwd _ wd_2_109) (fun _ h9 => h9) rfl d_FontShelf_choose_155 ?_
          refine lv_iload_n hx hb d_FontShelf_choose_158 rfl (lv_at hl 2 rfl) ?_
          refine lv_iconst (v := 3) hx hb d_FontShelf_choose_159 (by decide) ?_
          refine lv_iadd hx hb d_FontShelf_choose_160 ?_
          refine lv_topi (fun y_15 ey_15 => ?_)
          obtain rfl : y_15 = (3 : Int32) := ey_15.trans (by decide)
          refine va_iald hx hb hK hP 2 2 rfl rfl (show ¬ ((3 : Int32) < 0 ∨ 14 ≤ (3 : Int32).toNatClampNeg) by decide) d_FontShelf_choose_161 ?_
          refine lv_topi (fun y_16 ey_16 => ?_)
          obtain rfl : y_16 = wi 3 := ey_16.trans (by rw [show (3 : Int32).toNatClampNeg = 3 by decide])
          have hPc := hP.sub (ws' := [(h0, .inr (3, [.ref s_ids, .ref s_attributes, .ref s_permanent, .int 0, .ref s_glyphs, .int s_glyphCount, .ref s_dots, .int s_used, .ref s_wishes, .ref s_pins, .int s_id, .int s_code, .ref s_chosen, .int s_chosenKnown, .ref s_left, .ref s_coming]))]) [3] rfl
          have hDc := hD.sub (ws' := [(h0, .inr (3, [.ref s_ids, .ref s_attributes, .ref s_permanent, .int 0, .ref s_glyphs, .int s_glyphCount, .ref s_dots, .int s_used, .ref s_wishes, .ref s_pins, .int s_id, .int s_code, .ref s_chosen, .int s_chosenKnown, .ref s_left, .ref s_coming]))]) [3] (by decide) rfl
          have hKc := hK.sub (tys' := []) [] rfl
          have hFc := va_free (wc := [(h0, .inr (3, [.ref s_ids, .ref s_attributes, .ref s_permanent, .int 0, .ref s_glyphs, .int s_glyphCount, .ref s_dots, .int s_used, .ref s_wishes, .ref s_pins, .int s_id, .int s_code, .ref s_chosen, .int s_chosenKnown, .ref s_left, .ref s_coming]))]) hD hS hA [3] rfl
          refine va_calli (va_runV (As := [.int (wi 3)]) (rest := [.int 3, .ref h0]) ⟨hx, hb, hml, hown, hwd⟩ (c_nearestHeight_0 l dC dI tt h0 s_ids s_attributes s_permanent s_glyphs s_glyphCount s_dots s_used s_wishes s_pins s_id s_code s_chosen s_chosenKnown s_left s_coming (wi 3) H.size ) (cwV 1 hwd (gV gd_FontShelf_nearestHeight wd_2_79 wd_2_81 ws_14 wd_1_5) rfl rfl rfl (by decide +kernel) ⟨Nat.le_of_ble_eq_true rfl, Nat.le_of_ble_eq_true rfl⟩) ⟨fun a U g mk q => by obtain ⟨q0, q1, qP, qK, qD, qF⟩ := q; exact ⟨q0, q1, qP, va_K.moved (u := U) (U := U.calling g mk a) (Vm.Alike.refl U.vm) qK, qD, SF.same (u := U) (U := U.calling g mk a) rfl qF⟩, va_recv hKc hPc (ci := 3) (q0 := 0) rfl rfl, fun U hU hW => ⟨rfl, by rw [hU], by rw [hU]; exact hPc, va_K.moved hW.alike hKc, hDc.weaken (fun _ _ _ _ => trivial), by rw [hU]; exact SF.narrow (SF.moved hW (SF.kept hF (fun a h1 h2 => hS.2.1 a h1 h2))) hFc⟩⟩ rfl rfl hl.1 rfl (lv_room (Nat.le_of_ble_eq_true rfl)) d_FontShelf_choose_162 ⟨Nat.le_of_ble_eq_true rfl, Nat.le_of_ble_eq_true rfl⟩) hS (fun q _ h => hFc q h) hFc ?_
          clear hPc hDc hKc hS
          intro r_17 u_18 t H1 locs ht hvm hw hB hz1 hk1 hS
          obtain ⟨hP1, hK1, hD1⟩ := hB
          rw [ht] at hP1
          have hK1 := va_K.moved hvm.symm hK1
          try dsimp only at hw
          have hJ := va_join (wr := [(s_pins, .inl (cp, 2, .inl pn)), (s_left, .inl (cl, 32, .inl ly)), (s_wishes, .inl (cw, 14, .inl wi))]) (w1 := [(h0, .inr (3, [.ref s_ids, .ref s_attributes, .ref s_permanent, .int 0, .ref s_glyphs, .int s_glyphCount, .ref s_dots, .int s_used, .ref s_wishes, .ref s_pins, .int s_id, .int s_code, .ref s_chosen, .int s_chosenKnown, .ref s_left, .ref s_coming]))]) hP hD [3] [0, 1, 2] rfl rfl (by decide) (by decide) hk1 hFc hP1 hD1
          clear hP hD hk1 hFc hP1 hD1 hz1
          obtain ⟨hP, hD⟩ := hJ
          clear hK1 ht hvm
          generalize H1 = H at hP hS ⊢
          replace hP : va_P (dC, dI) vcl [(s_pins, .inl (cp, 2, .inl pn)), (s_left, .inl (cl, 32, .inl ly)), (s_wishes, .inl (cw, 14, .inl wi)), (h0, .inr (3, [.ref s_ids, .ref s_attributes, .ref s_permanent, .int 0, .ref s_glyphs, .int s_glyphCount, .ref s_dots, .int s_used, .ref s_wishes, .ref s_pins, .int s_id, .int s_code, .ref s_chosen, .int s_chosenKnown, .ref s_left, .ref s_coming]))] H := hP
          replace hD : va_D A [(s_pins, .inl (cp, 2, .inl pn)), (s_left, .inl (cl, 32, .inl ly)), (s_wishes, .inl (cw, 14, .inl wi)), (h0, .inr (3, [.ref s_ids, .ref s_attributes, .ref s_permanent, .int 0, .ref s_glyphs, .int s_glyphCount, .ref s_dots, .int s_used, .ref s_wishes, .ref s_pins, .int s_id, .int s_code, .ref s_chosen, .int s_chosenKnown, .ref s_left, .ref s_coming]))] := hD
          obtain rfl := hw
          have hPc := hP.sub (ws' := [(h0, .inr (3, [.ref s_ids, .ref s_attributes, .ref s_permanent, .int 0, .ref s_glyphs, .int s_glyphCount, .ref s_dots, .int s_used, .ref s_wishes, .ref s_pins, .int s_id, .int s_code, .ref s_chosen, .int s_chosenKnown, .ref s_left, .ref s_coming]))]) [3] rfl
          have hDc := hD.sub (ws' := [(h0, .inr (3, [.ref s_ids, .ref s_attributes, .ref s_permanent, .int 0, .ref s_glyphs, .int s_glyphCount, .ref s_dots, .int s_used, .ref s_wishes, .ref s_pins, .int s_id, .int s_code, .ref s_chosen, .int s_chosenKnown, .ref s_left, .ref s_coming]))]) [3] (by decide) rfl
          have hKc := hK.sub (tys' := []) [] rfl
          have hFc := va_free (wc := [(h0, .inr (3, [.ref s_ids, .ref s_attributes, .ref s_permanent, .int 0, .ref s_glyphs, .int s_glyphCount, .ref s_dots, .int s_used, .ref s_wishes, .ref s_pins, .int s_id, .int s_code, .ref s_chosen, .int s_chosenKnown, .ref s_left, .ref s_coming]))]) hD hS hA [3] rfl
          refine va_calli (va_runV (As := [.int 3, .int (-1)]) (rest := []) ⟨hx, hb, hml, hown, hwd⟩ (c_keepThose_0 l dC dI tt h0 s_ids s_attributes s_permanent s_glyphs s_glyphCount s_dots s_used s_wishes s_pins s_id s_code s_chosen s_chosenKnown s_left s_coming 3 (-1) H.size ) (cwV 2 hwd (gV gd_FontShelf_keepThose wd_2_53 wd_2_55 ws_8 wd_1_5) rfl rfl rfl (by decide +kernel) ⟨Nat.le_of_ble_eq_true rfl, Nat.le_of_ble_eq_true rfl⟩) ⟨fun a U g mk q => by obtain ⟨q0, q1, qP, qK, qD, qF⟩ := q; exact ⟨q0, q1, qP, va_K.moved (u := U) (U := U.calling g mk a) (Vm.Alike.refl U.vm) qK, qD, SF.same (u := U) (U := U.calling g mk a) rfl qF⟩, va_recv hKc hPc (ci := 3) (q0 := 0) rfl rfl, fun U hU hW => ⟨rfl, by rw [hU], by rw [hU]; exact hPc, va_K.moved hW.alike hKc, hDc.weaken (fun _ _ _ _ => trivial), by rw [hU]; exact SF.narrow (SF.moved hW (SF.kept hF (fun a h1 h2 => hS.2.1 a h1 h2))) hFc⟩⟩ rfl rfl hl.1 rfl (lv_room (Nat.le_of_ble_eq_true rfl)) d_FontShelf_choose_165 ⟨Nat.le_of_ble_eq_true rfl, Nat.le_of_ble_eq_true rfl⟩) hS (fun q _ h => hFc q h) hFc ?_
          clear hPc hDc hKc hS
          intro r_19 u_20 t H1 locs ht hvm hw hB hz1 hk1 hS
          obtain ⟨hP1, hK1, hD1⟩ := hB
          rw [ht] at hP1
          have hK1 := va_K.moved hvm.symm hK1
          try dsimp only at hw
          have hJ := va_join (wr := [(s_pins, .inl (cp, 2, .inl pn)), (s_left, .inl (cl, 32, .inl ly)), (s_wishes, .inl (cw, 14, .inl wi))]) (w1 := [(h0, .inr (3, [.ref s_ids, .ref s_attributes, .ref s_permanent, .int 0, .ref s_glyphs, .int s_glyphCount, .ref s_dots, .int s_used, .ref s_wishes, .ref s_pins, .int s_id, .int s_code, .ref s_chosen, .int s_chosenKnown, .ref s_left, .ref s_coming]))]) hP hD [3] [0, 1, 2] rfl rfl (by decide) (by decide) hk1 hFc hP1 hD1
          clear hP hD hk1 hFc hP1 hD1 hz1
          obtain ⟨hP, hD⟩ := hJ
          clear hK1 ht hvm
          generalize H1 = H at hP hS ⊢
          replace hP : va_P (dC, dI) vcl [(s_pins, .inl (cp, 2, .inl pn)), (s_left, .inl (cl, 32, .inl ly)), (s_wishes, .inl (cw, 14, .inl wi)), (h0, .inr (3, [.ref s_ids, .ref s_attributes, .ref s_permanent, .int 0, .ref s_glyphs, .int s_glyphCount, .ref s_dots, .int s_used, .ref s_wishes, .ref s_pins, .int s_id, .int s_code, .ref s_chosen, .int s_chosenKnown, .ref s_left, .ref s_coming]))] H := hP
          replace hD : va_D A [(s_pins, .inl (cp, 2, .inl pn)), (s_left, .inl (cl, 32, .inl ly)), (s_wishes, .inl (cw, 14, .inl wi)), (h0, .inr (3, [.ref s_ids, .ref s_attributes, .ref s_permanent, .int 0, .ref s_glyphs, .int s_glyphCount, .ref s_dots, .int s_used, .ref s_wishes, .ref s_pins, .int s_id, .int s_code, .ref s_chosen, .int s_chosenKnown, .ref s_left, .ref s_coming]))] := hD
          obtain rfl := hw
          refine lv_pop hx hb d_FontShelf_choose_168 rfl ?_
          refine lv_aload_n hx hb d_FontShelf_choose_169 rfl (lv_at hl 0 rfl) ?_
          refine lv_iconst (v := 4) hx hb d_FontShelf_choose_170 (by decide) ?_
          refine lv_aload_n hx hb d_FontShelf_choose_171 rfl (lv_at hl 0 rfl) ?_
          refine va_get (D := (dC, dI)) (ci := 3) (v := .ref s_wishes) (C := R_FontShelf) (T := F_FontShelf) (N := 16) hx hb hwd i_FontShelf hown hK hP 3 rfl rfl 8 (by decide) (hwd _ wd_2_109) (fun _ h9 => h9) rfl d_FontShelf_choose_172 ?_
          refine lv_iload_n hx hb d_FontShelf_choose_175 rfl (lv_at hl 2 rfl) ?_
          refine lv_iconst (v := 4) hx hb d_FontShelf_choose_176 (by decide) ?_
          refine lv_iadd hx hb d_FontShelf_choose_177 ?_
          refine lv_topi (fun y_21 ey_21 => ?_)
          obtain rfl : y_21 = (4 : Int32) := ey_21.trans (by decide)
          refine va_iald hx hb hK hP 2 2 rfl rfl (show ¬ ((4 : Int32) < 0 ∨ 14 ≤ (4 : Int32).toNatClampNeg) by decide) d_FontShelf_choose_178 ?_
          refine lv_topi (fun y_22 ey_22 => ?_)
          obtain rfl : y_22 = wi 4 := ey_22.trans (by rw [show (4 : Int32).toNatClampNeg = 4 by decide])
          have hPc := hP.sub (ws' := [(h0, .inr (3, [.ref s_ids, .ref s_attributes, .ref s_permanent, .int 0, .ref s_glyphs, .int s_glyphCount, .ref s_dots, .int s_used, .ref s_wishes, .ref s_pins, .int s_id, .int s_code, .ref s_chosen, .int s_chosenKnown, .ref s_left, .ref s_coming]))]) [3] rfl
          have hDc := hD.sub (ws' := [(h0, .inr (3, [.ref s_ids, .ref s_attributes, .ref s_permanent, .int 0, .ref s_glyphs, .int s_glyphCount, .ref s_dots, .int s_used, .ref s_wishes, .ref s_pins, .int s_id, .int s_code, .ref s_chosen, .int s_chosenKnown, .ref s_left, .ref s_coming]))]) [3] (by decide) rfl
          have hKc := hK.sub (tys' := []) [] rfl
          have hFc := va_free (wc := [(h0, .inr (3, [.ref s_ids, .ref s_attributes, .ref s_permanent, .int 0, .ref s_glyphs, .int s_glyphCount, .ref s_dots, .int s_used, .ref s_wishes, .ref s_pins, .int s_id, .int s_code, .ref s_chosen, .int s_chosenKnown, .ref s_left, .ref s_coming]))]) hD hS hA [3] rfl
          refine va_calli (va_runV (As := [.int 4, .int (wi 4)]) (rest := []) ⟨hx, hb, hml, hown, hwd⟩ (c_keepThose_0 l dC dI tt h0 s_ids s_attributes s_permanent s_glyphs s_glyphCount s_dots s_used s_wishes s_pins s_id s_code s_chosen s_chosenKnown s_left s_coming 4 (wi 4) H.size ) (cwV 2 hwd (gV gd_FontShelf_keepThose wd_2_53 wd_2_55 ws_8 wd_1_5) rfl rfl rfl (by decide +kernel) ⟨Nat.le_of_ble_eq_true rfl, Nat.le_of_ble_eq_true rfl⟩) ⟨fun a U g mk q => by obtain ⟨q0, q1, qP, qK, qD, qF⟩ := q; exact ⟨q0, q1, qP, va_K.moved (u := U) (U := U.calling g mk a) (Vm.Alike.refl U.vm) qK, qD, SF.same (u := U) (U := U.calling g mk a) rfl qF⟩, va_recv hKc hPc (ci := 3) (q0 := 0) rfl rfl, fun U hU hW => ⟨rfl, by rw [hU], by rw [hU]; exact hPc, va_K.moved hW.alike hKc, hDc.weaken (fun _ _ _ _ => trivial), by rw [hU]; exact SF.narrow (SF.moved hW (SF.kept hF (fun a h1 h2 => hS.2.1 a h1 h2))) hFc⟩⟩ rfl rfl hl.1 rfl (lv_room (Nat.le_of_ble_eq_true rfl)) d_FontShelf_choose_179 ⟨Nat.le_of_ble_eq_true rfl, Nat.le_of_ble_eq_true rfl⟩) hS (fun q _ h => hFc q h) hFc ?_
          clear hPc hDc hKc hS
          intro r_23 u_24 t H1 locs ht hvm hw hB hz1 hk1 hS
          obtain ⟨hP1, hK1, hD1⟩ := hB
          rw [ht] at hP1
          have hK1 := va_K.moved hvm.symm hK1
          try dsimp only at hw
          have hJ := va_join (wr := [(s_pins, .inl (cp, 2, .inl pn)), (s_left, .inl (cl, 32, .inl ly)), (s_wishes, .inl (cw, 14, .inl wi))]) (w1 := [(h0, .inr (3, [.ref s_ids, .ref s_attributes, .ref s_permanent, .int 0, .ref s_glyphs, .int s_glyphCount, .ref s_dots, .int s_used, .ref s_wishes, .ref s_pins, .int s_id, .int s_code, .ref s_chosen, .int s_chosenKnown, .ref s_left, .ref s_coming]))]) hP hD [3] [0, 1, 2] rfl rfl (by decide) (by decide) hk1 hFc hP1 hD1
          clear hP hD hk1 hFc hP1 hD1 hz1
          obtain ⟨hP, hD⟩ := hJ
          clear hK1 ht hvm
          generalize H1 = H at hP hS ⊢
          replace hP : va_P (dC, dI) vcl [(s_pins, .inl (cp, 2, .inl pn)), (s_left, .inl (cl, 32, .inl ly)), (s_wishes, .inl (cw, 14, .inl wi)), (h0, .inr (3, [.ref s_ids, .ref s_attributes, .ref s_permanent, .int 0, .ref s_glyphs, .int s_glyphCount, .ref s_dots, .int s_used, .ref s_wishes, .ref s_pins, .int s_id, .int s_code, .ref s_chosen, .int s_chosenKnown, .ref s_left, .ref s_coming]))] H := hP
          replace hD : va_D A [(s_pins, .inl (cp, 2, .inl pn)), (s_left, .inl (cl, 32, .inl ly)), (s_wishes, .inl (cw, 14, .inl wi)), (h0, .inr (3, [.ref s_ids, .ref s_attributes, .ref s_permanent, .int 0, .ref s_glyphs, .int s_glyphCount, .ref s_dots, .int s_used, .ref s_wishes, .ref s_pins, .int s_id, .int s_code, .ref s_chosen, .int s_chosenKnown, .ref s_left, .ref s_coming]))] := hD
          obtain rfl := hw
          refine lv_pop hx hb d_FontShelf_choose_182 rfl ?_
          refine lv_aload_n hx hb d_FontShelf_choose_183 rfl (lv_at hl 0 rfl) ?_
          refine lv_iconst (v := 5) hx hb d_FontShelf_choose_184 (by decide) ?_
          refine lv_aload_n hx hb d_FontShelf_choose_185 rfl (lv_at hl 0 rfl) ?_
          refine va_get (D := (dC, dI)) (ci := 3) (v := .ref s_wishes) (C := R_FontShelf) (T := F_FontShelf) (N := 16) hx hb hwd i_FontShelf hown hK hP 3 rfl rfl 8 (by decide) (hwd _ wd_2_109) (fun _ h9 => h9) rfl d_FontShelf_choose_186 ?_
          refine lv_iload_n hx hb d_FontShelf_choose_189 rfl (lv_at hl 2 rfl) ?_
          refine lv_iconst (v := 5) hx hb d_FontShelf_choose_190 (by decide) ?_
          refine lv_iadd hx hb d_FontShelf_choose_191 ?_
          refine lv_topi (fun y_25 ey_25 => ?_)
          obtain rfl : y_25 = (5 : Int32) := ey_25.trans (by decide)
          refine va_iald hx hb hK hP 2 2 rfl rfl (show ¬ ((5 : Int32) < 0 ∨ 14 ≤ (5 : Int32).toNatClampNeg) by decide) d_FontShelf_choose_192 ?_
          refine lv_topi (fun y_26 ey_26 => ?_)
          obtain rfl : y_26 = wi 5 := ey_26.trans (by rw [show (5 : Int32).toNatClampNeg = 5 by decide])
          have hPc := hP.sub (ws' := [(h0, .inr (3, [.ref s_ids, .ref s_attributes, .ref s_permanent, .int 0, .ref s_glyphs, .int s_glyphCount, .ref s_dots, .int s_used, .ref s_wishes, .ref s_pins, .int s_id, .int s_code, .ref s_chosen, .int s_chosenKnown, .ref s_left, .ref s_coming]))]) [3] rfl
          have hDc := hD.sub (ws' := [(h0, .inr (3, [.ref s_ids, .ref s_attributes, .ref s_permanent, .int 0, .ref s_glyphs, .int s_glyphCount, .ref s_dots, .int s_used, .ref s_wishes, .ref s_pins, .int s_id, .int s_code, .ref s_chosen, .int s_chosenKnown, .ref s_left, .ref s_coming]))]) [3] (by decide) rfl
          have hKc := hK.sub (tys' := []) [] rfl
          have hFc := va_free (wc := [(h0, .inr (3, [.ref s_ids, .ref s_attributes, .ref s_permanent, .int 0, .ref s_glyphs, .int s_glyphCount, .ref s_dots, .int s_used, .ref s_wishes, .ref s_pins, .int s_id, .int s_code, .ref s_chosen, .int s_chosenKnown, .ref s_left, .ref s_coming]))]) hD hS hA [3] rfl
          refine va_calli (va_runV (As := [.int 5, .int (wi 5)]) (rest := []) ⟨hx, hb, hml, hown, hwd⟩ (c_keepThose_0 l dC dI tt h0 s_ids s_attributes s_permanent s_glyphs s_glyphCount s_dots s_used s_wishes s_pins s_id s_code s_chosen s_chosenKnown s_left s_coming 5 (wi 5) H.size ) (cwV 2 hwd (gV gd_FontShelf_keepThose wd_2_53 wd_2_55 ws_8 wd_1_5) rfl rfl rfl (by decide +kernel) ⟨Nat.le_of_ble_eq_true rfl, Nat.le_of_ble_eq_true rfl⟩) ⟨fun a U g mk q => by obtain ⟨q0, q1, qP, qK, qD, qF⟩ := q; exact ⟨q0, q1, qP, va_K.moved (u := U) (U := U.calling g mk a) (Vm.Alike.refl U.vm) qK, qD, SF.same (u := U) (U := U.calling g mk a) rfl qF⟩, va_recv hKc hPc (ci := 3) (q0 := 0) rfl rfl, fun U hU hW => ⟨rfl, by rw [hU], by rw [hU]; exact hPc, va_K.moved hW.alike hKc, hDc.weaken (fun _ _ _ _ => trivial), by rw [hU]; exact SF.narrow (SF.moved hW (SF.kept hF (fun a h1 h2 => hS.2.1 a h1 h2))) hFc⟩⟩ rfl rfl hl.1 rfl (lv_room (Nat.le_of_ble_eq_true rfl)) d_FontShelf_choose_193 ⟨Nat.le_of_ble_eq_true rfl, Nat.le_of_ble_eq_true rfl⟩) hS (fun q _ h => hFc q h) hFc ?_
          clear hPc hDc hKc hS
          intro r_27 u_28 t H1 locs ht hvm hw hB hz1 hk1 hS
          obtain ⟨hP1, hK1, hD1⟩ := hB
          rw [ht] at hP1
          have hK1 := va_K.moved hvm.symm hK1
          try dsimp only at hw
          have hJ := va_join (wr := [(s_pins, .inl (cp, 2, .inl pn)), (s_left, .inl (cl, 32, .inl ly)), (s_wishes, .inl (cw, 14, .inl wi))]) (w1 := [(h0, .inr (3, [.ref s_ids, .ref s_attributes, .ref s_permanent, .int 0, .ref s_glyphs, .int s_glyphCount, .ref s_dots, .int s_used, .ref s_wishes, .ref s_pins, .int s_id, .int s_code, .ref s_chosen, .int s_chosenKnown, .ref s_left, .ref s_coming]))]) hP hD [3] [0, 1, 2] rfl rfl (by decide) (by decide) hk1 hFc hP1 hD1
          clear hP hD hk1 hFc hP1 hD1 hz1
          obtain ⟨hP, hD⟩ := hJ
          clear hK1 ht hvm
          generalize H1 = H at hP hS ⊢
          replace hP : va_P (dC, dI) vcl [(s_pins, .inl (cp, 2, .inl pn)), (s_left, .inl (cl, 32, .inl ly)), (s_wishes, .inl (cw, 14, .inl wi)), (h0, .inr (3, [.ref s_ids, .ref s_attributes, .ref s_permanent, .int 0, .ref s_glyphs, .int s_glyphCount, .ref s_dots, .int s_used, .ref s_wishes, .ref s_pins, .int s_id, .int s_code, .ref s_chosen, .int s_chosenKnown, .ref s_left, .ref s_coming]))] H := hP
          replace hD : va_D A [(s_pins, .inl (cp, 2, .inl pn)), (s_left, .inl (cl, 32, .inl ly)), (s_wishes, .inl (cw, 14, .inl wi)), (h0, .inr (3, [.ref s_ids, .ref s_attributes, .ref s_permanent, .int 0, .ref s_glyphs, .int s_glyphCount, .ref s_dots, .int s_used, .ref s_wishes, .ref s_pins, .int s_id, .int s_code, .ref s_chosen, .int s_chosenKnown, .ref s_left, .ref s_coming]))] := hD
          obtain rfl := hw
          refine lv_if_ne (tgt := 217) hx hb d_FontShelf_choose_196 (by decide) (fun c196 => absurd c196 (by decide)) (fun _ => ?_)
          refine lv_aload_n hx hb d_FontShelf_choose_199 rfl (lv_at hl 0 rfl) ?_
          refine lv_iconst (v := 5) hx hb d_FontShelf_choose_200 (by decide) ?_
          refine lv_aload_n hx hb d_FontShelf_choose_201 rfl (lv_at hl 0 rfl) ?_
          refine lv_aload_n hx hb d_FontShelf_choose_202 rfl (lv_at hl 0 rfl) ?_
          refine va_get (D := (dC, dI)) (ci := 3) (v := .ref s_wishes) (C := R_FontShelf) (T := F_FontShelf) (N := 16) hx hb hwd i_FontShelf hown hK hP 3 rfl rfl 8 (by decide) (hwd _ wd_2_109) (fun _ h9 => h9) rfl d_FontShelf_choose_203 ?_
          refine lv_iload_n hx hb d_FontShelf_choose_206 rfl (lv_at hl 2 rfl) ?_
          refine lv_iconst (v := 5) hx hb d_FontShelf_choose_207 (by decide) ?_
          refine lv_iadd hx hb d_FontShelf_choose_208 ?_
          refine lv_topi (fun y_29 ey_29 => ?_)
          obtain rfl : y_29 = (5 : Int32) := ey_29.trans (by decide)
          refine va_iald hx hb hK hP 2 2 rfl rfl (show ¬ ((5 : Int32) < 0 ∨ 14 ≤ (5 : Int32).toNatClampNeg) by decide) d_FontShelf_choose_209 ?_
          refine lv_topi (fun y_30 ey_30 => ?_)
          obtain rfl : y_30 = wi 5 := ey_30.trans (by rw [show (5 : Int32).toNatClampNeg = 5 by decide])
          have hPc := hP.sub (ws' := [(h0, .inr (3, [.ref s_ids, .ref s_attributes, .ref s_permanent, .int 0, .ref s_glyphs, .int s_glyphCount, .ref s_dots, .int s_used, .ref s_wishes, .ref s_pins, .int s_id, .int s_code, .ref s_chosen, .int s_chosenKnown, .ref s_left, .ref s_coming]))]) [3] rfl
          have hDc := hD.sub (ws' := [(h0, .inr (3, [.ref s_ids, .ref s_attributes, .ref s_permanent, .int 0, .ref s_glyphs, .int s_glyphCount, .ref s_dots, .int s_used, .ref s_wishes, .ref s_pins, .int s_id, .int s_code, .ref s_chosen, .int s_chosenKnown, .ref s_left, .ref s_coming]))]) [3] (by decide) rfl
          have hKc := hK.sub (tys' := []) [] rfl
          have hFc := va_free (wc := [(h0, .inr (3, [.ref s_ids, .ref s_attributes, .ref s_permanent, .int 0, .ref s_glyphs, .int s_glyphCount, .ref s_dots, .int s_used, .ref s_wishes, .ref s_pins, .int s_id, .int s_code, .ref s_chosen, .int s_chosenKnown, .ref s_left, .ref s_coming]))]) hD hS hA [3] rfl
          refine va_calli (va_runV (As := [.int (wi 5)]) (rest := [.int 5, .ref h0]) ⟨hx, hb, hml, hown, hwd⟩ (c_bestWeight_0 l dC dI tt h0 s_ids s_attributes s_permanent s_glyphs s_glyphCount s_dots s_used s_wishes s_pins s_id s_code s_chosen s_chosenKnown s_left s_coming (wi 5) H.size ) (cwV 1 hwd (gV gd_FontShelf_bestWeight wd_2_84 wd_2_86 ws_15 wd_1_5) rfl rfl rfl (by decide +kernel) ⟨Nat.le_of_ble_eq_true rfl, Nat.le_of_ble_eq_true rfl⟩) ⟨fun a U g mk q => by obtain ⟨q0, q1, qP, qK, qD, qF⟩ := q; exact ⟨q0, q1, qP, va_K.moved (u := U) (U := U.calling g mk a) (Vm.Alike.refl U.vm) qK, qD, SF.same (u := U) (U := U.calling g mk a) rfl qF⟩, va_recv hKc hPc (ci := 3) (q0 := 0) rfl rfl, fun U hU hW => ⟨rfl, by rw [hU], by rw [hU]; exact hPc, va_K.moved hW.alike hKc, hDc.weaken (fun _ _ _ _ => trivial), by rw [hU]; exact SF.narrow (SF.moved hW (SF.kept hF (fun a h1 h2 => hS.2.1 a h1 h2))) hFc⟩⟩ rfl rfl hl.1 rfl (lv_room (Nat.le_of_ble_eq_true rfl)) d_FontShelf_choose_210 ⟨Nat.le_of_ble_eq_true rfl, Nat.le_of_ble_eq_true rfl⟩) hS (fun q _ h => hFc q h) hFc ?_
          clear hPc hDc hKc hS
          intro r_31 u_32 t H1 locs ht hvm hw hB hz1 hk1 hS
          obtain ⟨hP1, hK1, hD1⟩ := hB
          rw [ht] at hP1
          have hK1 := va_K.moved hvm.symm hK1
          try dsimp only at hw
          have hJ := va_join (wr := [(s_pins, .inl (cp, 2, .inl pn)), (s_left, .inl (cl, 32, .inl ly)), (s_wishes, .inl (cw, 14, .inl wi))]) (w1 := [(h0, .inr (3, [.ref s_ids, .ref s_attributes, .ref s_permanent, .int 0, .ref s_glyphs, .int s_glyphCount, .ref s_dots, .int s_used, .ref s_wishes, .ref s_pins, .int s_id, .int s_code, .ref s_chosen, .int s_chosenKnown, .ref s_left, .ref s_coming]))]) hP hD [3] [0, 1, 2] rfl rfl (by decide) (by decide) hk1 hFc hP1 hD1
          clear hP hD hk1 hFc hP1 hD1 hz1
          obtain ⟨hP, hD⟩ := hJ
          clear hK1 ht hvm
          generalize H1 = H at hP hS ⊢
          replace hP : va_P (dC, dI) vcl [(s_pins, .inl (cp, 2, .inl pn)), (s_left, .inl (cl, 32, .inl ly)), (s_wishes, .inl (cw, 14, .inl wi)), (h0, .inr (3, [.ref s_ids, .ref s_attributes, .ref s_permanent, .int 0, .ref s_glyphs, .int s_glyphCount, .ref s_dots, .int s_used, .ref s_wishes, .ref s_pins, .int s_id, .int s_code, .ref s_chosen, .int s_chosenKnown, .ref s_left, .ref s_coming]))] H := hP
          replace hD : va_D A [(s_pins, .inl (cp, 2, .inl pn)), (s_left, .inl (cl, 32, .inl ly)), (s_wishes, .inl (cw, 14, .inl wi)), (h0, .inr (3, [.ref s_ids, .ref s_attributes, .ref s_permanent, .int 0, .ref s_glyphs, .int s_glyphCount, .ref s_dots, .int s_used, .ref s_wishes, .ref s_pins, .int s_id, .int s_code, .ref s_chosen, .int s_chosenKnown, .ref s_left, .ref s_coming]))] := hD
          obtain rfl := hw
          have hPc := hP.sub (ws' := [(h0, .inr (3, [.ref s_ids, .ref s_attributes, .ref s_permanent, .int 0, .ref s_glyphs, .int s_glyphCount, .ref s_dots, .int s_used, .ref s_wishes, .ref s_pins, .int s_id, .int s_code, .ref s_chosen, .int s_chosenKnown, .ref s_left, .ref s_coming]))]) [3] rfl
          have hDc := hD.sub (ws' := [(h0, .inr (3, [.ref s_ids, .ref s_attributes, .ref s_permanent, .int 0, .ref s_glyphs, .int s_glyphCount, .ref s_dots, .int s_used, .ref s_wishes, .ref s_pins, .int s_id, .int s_code, .ref s_chosen, .int s_chosenKnown, .ref s_left, .ref s_coming]))]) [3] (by decide) rfl
          have hKc := hK.sub (tys' := []) [] rfl
          have hFc := va_free (wc := [(h0, .inr (3, [.ref s_ids, .ref s_attributes, .ref s_permanent, .int 0, .ref s_glyphs, .int s_glyphCount, .ref s_dots, .int s_used, .ref s_wishes, .ref s_pins, .int s_id, .int s_code, .ref s_chosen, .int s_chosenKnown, .ref s_left, .ref s_coming]))]) hD hS hA [3] rfl
          refine va_calli (va_runV (As := [.int 5, .int (wi 5)]) (rest := []) ⟨hx, hb, hml, hown, hwd⟩ (c_keepThose_0 l dC dI tt h0 s_ids s_attributes s_permanent s_glyphs s_glyphCount s_dots s_used s_wishes s_pins s_id s_code s_chosen s_chosenKnown s_left s_coming 5 (wi 5) H.size ) (cwV 2 hwd (gV gd_FontShelf_keepThose wd_2_53 wd_2_55 ws_8 wd_1_5) rfl rfl rfl (by decide +kernel) ⟨Nat.le_of_ble_eq_true rfl, Nat.le_of_ble_eq_true rfl⟩) ⟨fun a U g mk q => by obtain ⟨q0, q1, qP, qK, qD, qF⟩ := q; exact ⟨q0, q1, qP, va_K.moved (u := U) (U := U.calling g mk a) (Vm.Alike.refl U.vm) qK, qD, SF.same (u := U) (U := U.calling g mk a) rfl qF⟩, va_recv hKc hPc (ci := 3) (q0 := 0) rfl rfl, fun U hU hW => ⟨rfl, by rw [hU], by rw [hU]; exact hPc, va_K.moved hW.alike hKc, hDc.weaken (fun _ _ _ _ => trivial), by rw [hU]; exact SF.narrow (SF.moved hW (SF.kept hF (fun a h1 h2 => hS.2.1 a h1 h2))) hFc⟩⟩ rfl rfl hl.1 rfl (lv_room (Nat.le_of_ble_eq_true rfl)) d_FontShelf_choose_213 ⟨Nat.le_of_ble_eq_true rfl, Nat.le_of_ble_eq_true rfl⟩) hS (fun q _ h => hFc q h) hFc ?_
          clear hPc hDc hKc hS
          intro r_33 u_34 t H1 locs ht hvm hw hB hz1 hk1 hS
          obtain ⟨hP1, hK1, hD1⟩ := hB
          rw [ht] at hP1
          have hK1 := va_K.moved hvm.symm hK1
          try dsimp only at hw
          have hJ := va_join (wr := [(s_pins, .inl (cp, 2, .inl pn)), (s_left, .inl (cl, 32, .inl ly)), (s_wishes, .inl (cw, 14, .inl wi))]) (w1 := [(h0, .inr (3, [.ref s_ids, .ref s_attributes, .ref s_permanent, .int 0, .ref s_glyphs, .int s_glyphCount, .ref s_dots, .int s_used, .ref s_wishes, .ref s_pins, .int s_id, .int s_code, .ref s_chosen, .int s_chosenKnown, .ref s_left, .ref s_coming]))]) hP hD [3] [0, 1, 2] rfl rfl (by decide) (by decide) hk1 hFc hP1 hD1
          clear hP hD hk1 hFc hP1 hD1 hz1
          obtain ⟨hP, hD⟩ := hJ
          clear hK1 ht hvm
          generalize H1 = H at hP hS ⊢
          replace hP : va_P (dC, dI) vcl [(s_pins, .inl (cp, 2, .inl pn)), (s_left, .inl (cl, 32, .inl ly)), (s_wishes, .inl (cw, 14, .inl wi)), (h0, .inr (3, [.ref s_ids, .ref s_attributes, .ref s_permanent, .int 0, .ref s_glyphs, .int s_glyphCount, .ref s_dots, .int s_used, .ref s_wishes, .ref s_pins, .int s_id, .int s_code, .ref s_chosen, .int s_chosenKnown, .ref s_left, .ref s_coming]))] H := hP
          replace hD : va_D A [(s_pins, .inl (cp, 2, .inl pn)), (s_left, .inl (cl, 32, .inl ly)), (s_wishes, .inl (cw, 14, .inl wi)), (h0, .inr (3, [.ref s_ids, .ref s_attributes, .ref s_permanent, .int 0, .ref s_glyphs, .int s_glyphCount, .ref s_dots, .int s_used, .ref s_wishes, .ref s_pins, .int s_id, .int s_code, .ref s_chosen, .int s_chosenKnown, .ref s_left, .ref s_coming]))] := hD
          obtain rfl := hw
          refine lv_pop hx hb d_FontShelf_choose_216 rfl ?_
          refine lv_aload_n hx hb d_FontShelf_choose_217 rfl (lv_at hl 0 rfl) ?_
          refine lv_bipush (v := 6) hx hb d_FontShelf_choose_218 (by decide) ?_
          refine lv_aload_n hx hb d_FontShelf_choose_220 rfl (lv_at hl 0 rfl) ?_
          refine va_get (D := (dC, dI)) (ci := 3) (v := .ref s_wishes) (C := R_FontShelf) (T := F_FontShelf) (N := 16) hx hb hwd i_FontShelf hown hK hP 3 rfl rfl 8 (by decide) (hwd _ wd_2_109) (fun _ h9 => h9) rfl d_FontShelf_choose_221 ?_
          refine lv_iload_n hx hb d_FontShelf_choose_224 rfl (lv_at hl 2 rfl) ?_
          refine lv_bipush (v := 6) hx hb d_FontShelf_choose_225 (by decide) ?_
          refine lv_iadd hx hb d_FontShelf_choose_227 ?_
          refine lv_topi (fun y_35 ey_35 => ?_)
          obtain rfl : y_35 = (6 : Int32) := ey_35.trans (by decide)
          refine va_iald hx hb hK hP 2 2 rfl rfl (show ¬ ((6 : Int32) < 0 ∨ 14 ≤ (6 : Int32).toNatClampNeg) by decide) d_FontShelf_choose_228 ?_
          refine lv_topi (fun y_36 ey_36 => ?_)
          obtain rfl : y_36 = wi 6 := ey_36.trans (by rw [show (6 : Int32).toNatClampNeg = 6 by decide])
          have hPc := hP.sub (ws' := [(h0, .inr (3, [.ref s_ids, .ref s_attributes, .ref s_permanent, .int 0, .ref s_glyphs, .int s_glyphCount, .ref s_dots, .int s_used, .ref s_wishes, .ref s_pins, .int s_id, .int s_code, .ref s_chosen, .int s_chosenKnown, .ref s_left, .ref s_coming]))]) [3] rfl
          have hDc := hD.sub (ws' := [(h0, .inr (3, [.ref s_ids, .ref s_attributes, .ref s_permanent, .int 0, .ref s_glyphs, .int s_glyphCount, .ref s_dots, .int s_used, .ref s_wishes, .ref s_pins, .int s_id, .int s_code, .ref s_chosen, .int s_chosenKnown, .ref s_left, .ref s_coming]))]) [3] (by decide) rfl
          have hKc := hK.sub (tys' := []) [] rfl
          have hFc := va_free (wc := [(h0, .inr (3, [.ref s_ids, .ref s_attributes, .ref s_permanent, .int 0, .ref s_glyphs, .int s_glyphCount, .ref s_dots, .int s_used, .ref s_wishes, .ref s_pins, .int s_id, .int s_code, .ref s_chosen, .int s_chosenKnown, .ref s_left, .ref s_coming]))]) hD hS hA [3] rfl
          refine va_calli (va_runV (As := [.int 6, .int (wi 6)]) (rest := []) ⟨hx, hb, hml, hown, hwd⟩ (c_keepThose_0 l dC dI tt h0 s_ids s_attributes s_permanent s_glyphs s_glyphCount s_dots s_used s_wishes s_pins s_id s_code s_chosen s_chosenKnown s_left s_coming 6 (wi 6) H.size ) (cwV 2 hwd (gV gd_FontShelf_keepThose wd_2_53 wd_2_55 ws_8 wd_1_5) rfl rfl rfl (by decide +kernel) ⟨Nat.le_of_ble_eq_true rfl, Nat.le_of_ble_eq_true rfl⟩) ⟨fun a U g mk q => by obtain ⟨q0, q1, qP, qK, qD, qF⟩ := q; exact ⟨q0, q1, qP, va_K.moved (u := U) (U := U.calling g mk a) (Vm.Alike.refl U.vm) qK, qD, SF.same (u := U) (U := U.calling g mk a) rfl qF⟩, va_recv hKc hPc (ci := 3) (q0 := 0) rfl rfl, fun U hU hW => ⟨rfl, by rw [hU], by rw [hU]; exact hPc, va_K.moved hW.alike hKc, hDc.weaken (fun _ _ _ _ => trivial), by rw [hU]; exact SF.narrow (SF.moved hW (SF.kept hF (fun a h1 h2 => hS.2.1 a h1 h2))) hFc⟩⟩ rfl rfl hl.1 rfl (lv_room (Nat.le_of_ble_eq_true rfl)) d_FontShelf_choose_229 ⟨Nat.le_of_ble_eq_true rfl, Nat.le_of_ble_eq_true rfl⟩) hS (fun q _ h => hFc q h) hFc ?_
          clear hPc hDc hKc hS
          intro r_37 u_38 t H1 locs ht hvm hw hB hz1 hk1 hS
          obtain ⟨hP1, hK1, hD1⟩ := hB
          rw [ht] at hP1
          have hK1 := va_K.moved hvm.symm hK1
          try dsimp only at hw
          have hJ := va_join (wr := [(s_pins, .inl (cp, 2, .inl pn)), (s_left, .inl (cl, 32, .inl ly)), (s_wishes, .inl (cw, 14, .inl wi))]) (w1 := [(h0, .inr (3, [.ref s_ids, .ref s_attributes, .ref s_permanent, .int 0, .ref s_glyphs, .int s_glyphCount, .ref s_dots, .int s_used, .ref s_wishes, .ref s_pins, .int s_id, .int s_code, .ref s_chosen, .int s_chosenKnown, .ref s_left, .ref s_coming]))]) hP hD [3] [0, 1, 2] rfl rfl (by decide) (by decide) hk1 hFc hP1 hD1
          clear hP hD hk1 hFc hP1 hD1 hz1
          obtain ⟨hP, hD⟩ := hJ
          clear hK1 ht hvm
          generalize H1 = H at hP hS ⊢
          replace hP : va_P (dC, dI) vcl [(s_pins, .inl (cp, 2, .inl pn)), (s_left, .inl (cl, 32, .inl ly)), (s_wishes, .inl (cw, 14, .inl wi)), (h0, .inr (3, [.ref s_ids, .ref s_attributes, .ref s_permanent, .int 0, .ref s_glyphs, .int s_glyphCount, .ref s_dots, .int s_used, .ref s_wishes, .ref s_pins, .int s_id, .int s_code, .ref s_chosen, .int s_chosenKnown, .ref s_left, .ref s_coming]))] H := hP
          replace hD : va_D A [(s_pins, .inl (cp, 2, .inl pn)), (s_left, .inl (cl, 32, .inl ly)), (s_wishes, .inl (cw, 14, .inl wi)), (h0, .inr (3, [.ref s_ids, .ref s_attributes, .ref s_permanent, .int 0, .ref s_glyphs, .int s_glyphCount, .ref s_dots, .int s_used, .ref s_wishes, .ref s_pins, .int s_id, .int s_code, .ref s_chosen, .int s_chosenKnown, .ref s_left, .ref s_coming]))] := hD
          obtain rfl := hw
          refine lv_pop hx hb d_FontShelf_choose_232 rfl ?_
          refine lv_aload_n hx hb d_FontShelf_choose_233 rfl (lv_at hl 0 rfl) ?_
          have hPc := hP.sub (ws' := [(h0, .inr (3, [.ref s_ids, .ref s_attributes, .ref s_permanent, .int 0, .ref s_glyphs, .int s_glyphCount, .ref s_dots, .int s_used, .ref s_wishes, .ref s_pins, .int s_id, .int s_code, .ref s_chosen, .int s_chosenKnown, .ref s_left, .ref s_coming]))]) [3] rfl
          have hDc := hD.sub (ws' := [(h0, .inr (3, [.ref s_ids, .ref s_attributes, .ref s_permanent, .int 0, .ref s_glyphs, .int s_glyphCount, .ref s_dots, .int s_used, .ref s_wishes, .ref s_pins, .int s_id, .int s_code, .ref s_chosen, .int s_chosenKnown, .ref s_left, .ref s_coming]))]) [3] (by decide) rfl
          have hKc := hK.sub (tys' := []) [] rfl
          have hFc := va_free (wc := [(h0, .inr (3, [.ref s_ids, .ref s_attributes, .ref s_permanent, .int 0, .ref s_glyphs, .int s_glyphCount, .ref s_dots, .int s_used, .ref s_wishes, .ref s_pins, .int s_id, .int s_code, .ref s_chosen, .int s_chosenKnown, .ref s_left, .ref s_coming]))]) hD hS hA [3] rfl
          refine va_calli (va_runV (As := []) (rest := []) ⟨hx, hb, hml, hown, hwd⟩ (c_lastLeft_0 l dC dI tt h0 s_ids s_attributes s_permanent s_glyphs s_glyphCount s_dots s_used s_wishes s_pins s_id s_code s_chosen s_chosenKnown s_left s_coming H.size ) (cwV 0 hwd (gV gd_FontShelf_lastLeft wd_2_94 wd_2_96 ws_17 wd_1_5) rfl rfl rfl (by decide +kernel) ⟨Nat.le_of_ble_eq_true rfl, Nat.le_of_ble_eq_true rfl⟩) ⟨fun a U g mk q => by obtain ⟨q0, q1, qP, qK, qD, qF⟩ := q; exact ⟨q0, q1, qP, va_K.moved (u := U) (U := U.calling g mk a) (Vm.Alike.refl U.vm) qK, qD, SF.same (u := U) (U := U.calling g mk a) rfl qF⟩, va_recv hKc hPc (ci := 3) (q0 := 0) rfl rfl, fun U hU hW => ⟨rfl, by rw [hU], by rw [hU]; exact hPc, va_K.moved hW.alike hKc, hDc.weaken (fun _ _ _ _ => trivial), by rw [hU]; exact SF.narrow (SF.moved hW (SF.kept hF (fun a h1 h2 => hS.2.1 a h1 h2))) hFc⟩⟩ rfl rfl hl.1 rfl (lv_room (Nat.le_of_ble_eq_true rfl)) d_FontShelf_choose_234 ⟨Nat.le_of_ble_eq_true rfl, Nat.le_of_ble_eq_true rfl⟩) hS (fun q _ h => hFc q h) hFc ?_
          clear hPc hDc hKc hS
          intro r_39 u_40 t H1 locs ht hvm hw hB hz1 hk1 hS
          obtain ⟨hP1, hK1, hD1⟩ := hB
          rw [ht] at hP1
          have hK1 := va_K.moved hvm.symm hK1
          try dsimp only at hw
          have hJ := va_join (wr := [(s_pins, .inl (cp, 2, .inl pn)), (s_left, .inl (cl, 32, .inl ly)), (s_wishes, .inl (cw, 14, .inl wi))]) (w1 := [(h0, .inr (3, [.ref s_ids, .ref s_attributes, .ref s_permanent, .int 0, .ref s_glyphs, .int s_glyphCount, .ref s_dots, .int s_used, .ref s_wishes, .ref s_pins, .int s_id, .int s_code, .ref s_chosen, .int s_chosenKnown, .ref s_left, .ref s_coming]))]) hP hD [3] [0, 1, 2] rfl rfl (by decide) (by decide) hk1 hFc hP1 hD1
          clear hP hD hk1 hFc hP1 hD1 hz1
          obtain ⟨hP, hD⟩ := hJ
          clear hK1 ht hvm
          generalize H1 = H at hP hS ⊢
          replace hP : va_P (dC, dI) vcl [(s_pins, .inl (cp, 2, .inl pn)), (s_left, .inl (cl, 32, .inl ly)), (s_wishes, .inl (cw, 14, .inl wi)), (h0, .inr (3, [.ref s_ids, .ref s_attributes, .ref s_permanent, .int 0, .ref s_glyphs, .int s_glyphCount, .ref s_dots, .int s_used, .ref s_wishes, .ref s_pins, .int s_id, .int s_code, .ref s_chosen, .int s_chosenKnown, .ref s_left, .ref s_coming]))] H := hP
          replace hD : va_D A [(s_pins, .inl (cp, 2, .inl pn)), (s_left, .inl (cl, 32, .inl ly)), (s_wishes, .inl (cw, 14, .inl wi)), (h0, .inr (3, [.ref s_ids, .ref s_attributes, .ref s_permanent, .int 0, .ref s_glyphs, .int s_glyphCount, .ref s_dots, .int s_used, .ref s_wishes, .ref s_pins, .int s_id, .int s_code, .ref s_chosen, .int s_chosenKnown, .ref s_left, .ref s_coming]))] := hD
          obtain rfl := hw
          have hP9 := hP.sub (ws' := [(h0, .inr (3, [.ref s_ids, .ref s_attributes, .ref s_permanent, .int 0, .ref s_glyphs, .int s_glyphCount, .ref s_dots, .int s_used, .ref s_wishes, .ref s_pins, .int s_id, .int s_code, .ref s_chosen, .int s_chosenKnown, .ref s_left, .ref s_coming])), (s_pins, .inl (cp, 2, .inl pn)), (s_left, .inl (cl, 32, .inl ly)), (s_wishes, .inl (cw, 14, .inl wi))]) [3, 0, 1, 2] rfl
          have hD9 := hD.sub (ws' := [(h0, .inr (3, [.ref s_ids, .ref s_attributes, .ref s_permanent, .int 0, .ref s_glyphs, .int s_glyphCount, .ref s_dots, .int s_used, .ref s_wishes, .ref s_pins, .int s_id, .int s_code, .ref s_chosen, .int s_chosenKnown, .ref s_left, .ref s_coming])), (s_pins, .inl (cp, 2, .inl pn)), (s_left, .inl (cl, 32, .inl ly)), (s_wishes, .inl (cw, 14, .inl wi))]) [3, 0, 1, 2] (by decide) rfl
          have hK9 := hK.sub (tys' := [(cp, .int), (cl, .boolean), (cw, .int)]) [0, 1, 2] rfl
          exact W.iret (v := (-1)) hx hb hr (fun t ht hW => ⟨⟨(-1), (ly), rfl, (show ((-1) : Int32) = -1 from (by first | exact trivial | rfl | simp [*])), by rw [ht]; exact hP9, va_K.moved hW.alike hK9, hD9⟩, hS.F ht⟩) hS.2.2 d_FontShelf_choose_237
        · refine lv_aload_n hx hb d_FontShelf_choose_126 rfl (lv_at hl 0 rfl) ?_
          have hPc := hP.sub (ws' := [(h0, .inr (3, [.ref s_ids, .ref s_attributes, .ref s_permanent, .int 0, .ref s_glyphs, .int s_glyphCount, .ref s_dots, .int s_used, .ref s_wishes, .ref s_pins, .int s_id, .int s_code, .ref s_chosen, .int s_chosenKnown, .ref s_left, .ref s_coming]))]) [3] rfl
          have hDc := hD.sub (ws' := [(h0, .inr (3, [.ref s_ids, .ref s_attributes, .ref s_permanent, .int 0, .ref s_glyphs, .int s_glyphCount, .ref s_dots, .int s_used, .ref s_wishes, .ref s_pins, .int s_id, .int s_code, .ref s_chosen, .int s_chosenKnown, .ref s_left, .ref s_coming]))]) [3] (by decide) rfl
          have hKc := hK.sub (tys' := []) [] rfl
          have hFc := va_free (wc := [(h0, .inr (3, [.ref s_ids, .ref s_attributes, .ref s_permanent, .int 0, .ref s_glyphs, .int s_glyphCount, .ref s_dots, .int s_used, .ref s_wishes, .ref s_pins, .int s_id, .int s_code, .ref s_chosen, .int s_chosenKnown, .ref s_left, .ref s_coming]))]) hD hS hA [3] rfl
          refine va_calli (va_runV (As := []) (rest := []) ⟨hx, hb, hml, hown, hwd⟩ (c_allLeftEven_0 l dC dI tt h0 s_ids s_attributes s_permanent s_glyphs s_glyphCount s_dots s_used s_wishes s_pins s_id s_code s_chosen s_chosenKnown s_left s_coming H.size ) (cwV 0 hwd (gV gd_FontShelf_allLeftEven wd_2_61 wd_2_63 ws_10 wd_1_5) rfl rfl rfl (by decide +kernel) ⟨Nat.le_of_ble_eq_true rfl, Nat.le_of_ble_eq_true rfl⟩) ⟨fun a U g mk q => by obtain ⟨q0, q1, qP, qK, qD, qF⟩ := q; exact ⟨q0, q1, qP, va_K.moved (u := U) (U := U.calling g mk a) (Vm.Alike.refl U.vm) qK, qD, SF.same (u := U) (U := U.calling g mk a) rfl qF⟩, va_recv hKc hPc (ci := 3) (q0 := 0) rfl rfl, fun U hU hW => ⟨rfl, by rw [hU], by rw [hU]; exact hPc, va_K.moved hW.alike hKc, hDc.weaken (fun _ _ _ _ => trivial), by rw [hU]; exact SF.narrow (SF.moved hW (SF.kept hF (fun a h1 h2 => hS.2.1 a h1 h2))) hFc⟩⟩ rfl rfl hl.1 rfl (lv_room (Nat.le_of_ble_eq_true rfl)) d_FontShelf_choose_127 ⟨Nat.le_of_ble_eq_true rfl, Nat.le_of_ble_eq_true rfl⟩) hS (fun q _ h => hFc q h) hFc ?_
          clear hPc hDc hKc hS
          intro r_41 u_42 t H1 locs ht hvm hw hB hz1 hk1 hS
          obtain ⟨hP1, hK1, hD1⟩ := hB
          rw [ht] at hP1
          have hK1 := va_K.moved hvm.symm hK1
          try dsimp only at hw
          have hJ := va_join (wr := [(s_pins, .inl (cp, 2, .inl pn)), (s_left, .inl (cl, 32, .inl ly)), (s_wishes, .inl (cw, 14, .inl wi))]) (w1 := [(h0, .inr (3, [.ref s_ids, .ref s_attributes, .ref s_permanent, .int 0, .ref s_glyphs, .int s_glyphCount, .ref s_dots, .int s_used, .ref s_wishes, .ref s_pins, .int s_id, .int s_code, .ref s_chosen, .int s_chosenKnown, .ref s_left, .ref s_coming]))]) hP hD [3] [0, 1, 2] rfl rfl (by decide) (by decide) hk1 hFc hP1 hD1
          clear hP hD hk1 hFc hP1 hD1 hz1
          obtain ⟨hP, hD⟩ := hJ
          clear hK1 ht hvm
          generalize H1 = H at hP hS ⊢
          replace hP : va_P (dC, dI) vcl [(s_pins, .inl (cp, 2, .inl pn)), (s_left, .inl (cl, 32, .inl ly)), (s_wishes, .inl (cw, 14, .inl wi)), (h0, .inr (3, [.ref s_ids, .ref s_attributes, .ref s_permanent, .int 0, .ref s_glyphs, .int s_glyphCount, .ref s_dots, .int s_used, .ref s_wishes, .ref s_pins, .int s_id, .int s_code, .ref s_chosen, .int s_chosenKnown, .ref s_left, .ref s_coming]))] H := hP
          replace hD : va_D A [(s_pins, .inl (cp, 2, .inl pn)), (s_left, .inl (cl, 32, .inl ly)), (s_wishes, .inl (cw, 14, .inl wi)), (h0, .inr (3, [.ref s_ids, .ref s_attributes, .ref s_permanent, .int 0, .ref s_glyphs, .int s_glyphCount, .ref s_dots, .int s_used, .ref s_wishes, .ref s_pins, .int s_id, .int s_code, .ref s_chosen, .int s_chosenKnown, .ref s_left, .ref s_coming]))] := hD
          obtain rfl := hw
          refine lv_if_eq (tgt := 151) hx hb d_FontShelf_choose_130 (by decide) (fun c130 => absurd c130 (by decide)) (fun _ => ?_)
          refine lv_aload_n hx hb d_FontShelf_choose_133 rfl (lv_at hl 0 rfl) ?_
          refine lv_iconst (v := 2) hx hb d_FontShelf_choose_134 (by decide) ?_
          refine lv_aload_n hx hb d_FontShelf_choose_135 rfl (lv_at hl 0 rfl) ?_
          refine lv_aload_n hx hb d_FontShelf_choose_136 rfl (lv_at hl 0 rfl) ?_
          refine va_get (D := (dC, dI)) (ci := 3) (v := .ref s_wishes) (C := R_FontShelf) (T := F_FontShelf) (N := 16) hx hb hwd i_FontShelf hown hK hP 3 rfl rfl 8 (by decide) (hwd _ wd_2_109) (fun _ h9 => h9) rfl d_FontShelf_choose_137 ?_
          refine lv_iload_n hx hb d_FontShelf_choose_140 rfl (lv_at hl 2 rfl) ?_
          refine lv_iconst (v := 2) hx hb d_FontShelf_choose_141 (by decide) ?_
          refine lv_iadd hx hb d_FontShelf_choose_142 ?_
          refine lv_topi (fun y_43 ey_43 => ?_)
          obtain rfl : y_43 = (2 : Int32) := ey_43.trans (by decide)
          refine va_iald hx hb hK hP 2 2 rfl rfl (show ¬ ((2 : Int32) < 0 ∨ 14 ≤ (2 : Int32).toNatClampNeg) by decide) d_FontShelf_choose_143 ?_
          refine lv_topi (fun y_44 ey_44 => ?_)
          obtain rfl : y_44 = wi 2 := ey_44.trans (by rw [show (2 : Int32).toNatClampNeg = 2 by decide])
          have hPc := hP.sub (ws' := [(h0, .inr (3, [.ref s_ids, .ref s_attributes, .ref s_permanent, .int 0, .ref s_glyphs, .int s_glyphCount, .ref s_dots, .int s_used, .ref s_wishes, .ref s_pins, .int s_id, .int s_code, .ref s_chosen, .int s_chosenKnown, .ref s_left, .ref s_coming]))]) [3] rfl
          have hDc := hD.sub (ws' := [(h0, .inr (3, [.ref s_ids, .ref s_attributes, .ref s_permanent, .int 0, .ref s_glyphs, .int s_glyphCount, .ref s_dots, .int s_used, .ref s_wishes, .ref s_pins, .int s_id, .int s_code, .ref s_chosen, .int s_chosenKnown, .ref s_left, .ref s_coming]))]) [3] (by decide) rfl
          have hKc := hK.sub (tys' := []) [] rfl
          have hFc := va_free (wc := [(h0, .inr (3, [.ref s_ids, .ref s_attributes, .ref s_permanent, .int 0, .ref s_glyphs, .int s_glyphCount, .ref s_dots, .int s_used, .ref s_wishes, .ref s_pins, .int s_id, .int s_code, .ref s_chosen, .int s_chosenKnown, .ref s_left, .ref s_coming]))]) hD hS hA [3] rfl
          refine va_calli (va_runV (As := [.int (wi 2)]) (rest := [.int 2, .ref h0]) ⟨hx, hb, hml, hown, hwd⟩ (c_bestPitch_0 l dC dI tt h0 s_ids s_attributes s_permanent s_glyphs s_glyphCount s_dots s_used s_wishes s_pins s_id s_code s_chosen s_chosenKnown s_left s_coming (wi 2) H.size ) (cwV 1 hwd (gV gd_FontShelf_bestPitch wd_2_65 wd_2_67 ws_11 wd_1_5) rfl rfl rfl (by decide +kernel) ⟨Nat.le_of_ble_eq_true rfl, Nat.le_of_ble_eq_true rfl⟩) ⟨fun a U g mk q => by obtain ⟨q0, q1, qP, qK, qD, qF⟩ := q; exact ⟨q0, q1, qP, va_K.moved (u := U) (U := U.calling g mk a) (Vm.Alike.refl U.vm) qK, qD, SF.same (u := U) (U := U.calling g mk a) rfl qF⟩, va_recv hKc hPc (ci := 3) (q0 := 0) rfl rfl, fun U hU hW => ⟨rfl, by rw [hU], by rw [hU]; exact hPc, va_K.moved hW.alike hKc, hDc.weaken (fun _ _ _ _ => trivial), by rw [hU]; exact SF.narrow (SF.moved hW (SF.kept hF (fun a h1 h2 => hS.2.1 a h1 h2))) hFc⟩⟩ rfl rfl hl.1 rfl (lv_room (Nat.le_of_ble_eq_true rfl)) d_FontShelf_choose_144 ⟨Nat.le_of_ble_eq_true rfl, Nat.le_of_ble_eq_true rfl⟩) hS (fun q _ h => hFc q h) hFc ?_
          clear hPc hDc hKc hS
          intro r_45 u_46 t H1 locs ht hvm hw hB hz1 hk1 hS
          obtain ⟨hP1, hK1, hD1⟩ := hB
          rw [ht] at hP1
          have hK1 := va_K.moved hvm.symm hK1
          try dsimp only at hw
          have hJ := va_join (wr := [(s_pins, .inl (cp, 2, .inl pn)), (s_left, .inl (cl, 32, .inl ly)), (s_wishes, .inl (cw, 14, .inl wi))]) (w1 := [(h0, .inr (3, [.ref s_ids, .ref s_attributes, .ref s_permanent, .int 0, .ref s_glyphs, .int s_glyphCount, .ref s_dots, .int s_used, .ref s_wishes, .ref s_pins, .int s_id, .int s_code, .ref s_chosen, .int s_chosenKnown, .ref s_left, .ref s_coming]))]) hP hD [3] [0, 1, 2] rfl rfl (by decide) (by decide) hk1 hFc hP1 hD1
          clear hP hD hk1 hFc hP1 hD1 hz1
          obtain ⟨hP, hD⟩ := hJ
          clear hK1 ht hvm
          generalize H1 = H at hP hS ⊢
          replace hP : va_P (dC, dI) vcl [(s_pins, .inl (cp, 2, .inl pn)), (s_left, .inl (cl, 32, .inl ly)), (s_wishes, .inl (cw, 14, .inl wi)), (h0, .inr (3, [.ref s_ids, .ref s_attributes, .ref s_permanent, .int 0, .ref s_glyphs, .int s_glyphCount, .ref s_dots, .int s_used, .ref s_wishes, .ref s_pins, .int s_id, .int s_code, .ref s_chosen, .int s_chosenKnown, .ref s_left, .ref s_coming]))] H := hP
          replace hD : va_D A [(s_pins, .inl (cp, 2, .inl pn)), (s_left, .inl (cl, 32, .inl ly)), (s_wishes, .inl (cw, 14, .inl wi)), (h0, .inr (3, [.ref s_ids, .ref s_attributes, .ref s_permanent, .int 0, .ref s_glyphs, .int s_glyphCount, .ref s_dots, .int s_used, .ref s_wishes, .ref s_pins, .int s_id, .int s_code, .ref s_chosen, .int s_chosenKnown, .ref s_left, .ref s_coming]))] := hD
          obtain rfl := hw
          have hPc := hP.sub (ws' := [(h0, .inr (3, [.ref s_ids, .ref s_attributes, .ref s_permanent, .int 0, .ref s_glyphs, .int s_glyphCount, .ref s_dots, .int s_used, .ref s_wishes, .ref s_pins, .int s_id, .int s_code, .ref s_chosen, .int s_chosenKnown, .ref s_left, .ref s_coming]))]) [3] rfl
          have hDc := hD.sub (ws' := [(h0, .inr (3, [.ref s_ids, .ref s_attributes, .ref s_permanent, .int 0, .ref s_glyphs, .int s_glyphCount, .ref s_dots, .int s_used, .ref s_wishes, .ref s_pins, .int s_id, .int s_code, .ref s_chosen, .int s_chosenKnown, .ref s_left, .ref s_coming]))]) [3] (by decide) rfl
          have hKc := hK.sub (tys' := []) [] rfl
          have hFc := va_free (wc := [(h0, .inr (3, [.ref s_ids, .ref s_attributes, .ref s_permanent, .int 0, .ref s_glyphs, .int s_glyphCount, .ref s_dots, .int s_used, .ref s_wishes, .ref s_pins, .int s_id, .int s_code, .ref s_chosen, .int s_chosenKnown, .ref s_left, .ref s_coming]))]) hD hS hA [3] rfl
          refine va_calli (va_runV (As := [.int 2, .int (-1)]) (rest := []) ⟨hx, hb, hml, hown, hwd⟩ (c_keepThose_0 l dC dI tt h0 s_ids s_attributes s_permanent s_glyphs s_glyphCount s_dots s_used s_wishes s_pins s_id s_code s_chosen s_chosenKnown s_left s_coming 2 (-1) H.size ) (cwV 2 hwd (gV gd_FontShelf_keepThose wd_2_53 wd_2_55 ws_8 wd_1_5) rfl rfl rfl (by decide +kernel) ⟨Nat.le_of_ble_eq_true rfl, Nat.le_of_ble_eq_true rfl⟩) ⟨fun a U g mk q => by obtain ⟨q0, q1, qP, qK, qD, qF⟩ := q; exact ⟨q0, q1, qP, va_K.moved (u := U) (U := U.calling g mk a) (Vm.Alike.refl U.vm) qK, qD, SF.same (u := U) (U := U.calling g mk a) rfl qF⟩, va_recv hKc hPc (ci := 3) (q0 := 0) rfl rfl, fun U hU hW => ⟨rfl, by rw [hU], by rw [hU]; exact hPc, va_K.moved hW.alike hKc, hDc.weaken (fun _ _ _ _ => trivial), by rw [hU]; exact SF.narrow (SF.moved hW (SF.kept hF (fun a h1 h2 => hS.2.1 a h1 h2))) hFc⟩⟩ rfl rfl hl.1 rfl (lv_room (Nat.le_of_ble_eq_true rfl)) d_FontShelf_choose_147 ⟨Nat.le_of_ble_eq_true rfl, Nat.le_of_ble_eq_true rfl⟩) hS (fun q _ h => hFc q h) hFc ?_
          clear hPc hDc hKc hS
          intro r_47 u_48 t H1 locs ht hvm hw hB hz1 hk1 hS
          obtain ⟨hP1, hK1, hD1⟩ := hB
          rw [ht] at hP1
          have hK1 := va_K.moved hvm.symm hK1
          try dsimp only at hw
          have hJ := va_join (wr := [(s_pins, .inl (cp, 2, .inl pn)), (s_left, .inl (cl, 32, .inl ly)), (s_wishes, .inl (cw, 14, .inl wi))]) (w1 := [(h0, .inr (3, [.ref s_ids, .ref s_attributes, .ref s_permanent, .int 0, .ref s_glyphs, .int s_glyphCount, .ref s_dots, .int s_used, .ref s_wishes, .ref s_pins, .int s_id, .int s_code, .ref s_chosen, .int s_chosenKnown, .ref s_left, .ref s_coming]))]) hP hD [3] [0, 1, 2] rfl rfl (by decide) (by decide) hk1 hFc hP1 hD1
          clear hP hD hk1 hFc hP1 hD1 hz1
          obtain ⟨hP, hD⟩ := hJ
          clear hK1 ht hvm
          generalize H1 = H at hP hS ⊢
          replace hP : va_P (dC, dI) vcl [(s_pins, .inl (cp, 2, .inl pn)), (s_left, .inl (cl, 32, .inl ly)), (s_wishes, .inl (cw, 14, .inl wi)), (h0, .inr (3, [.ref s_ids, .ref s_attributes, .ref s_permanent, .int 0, .ref s_glyphs, .int s_glyphCount, .ref s_dots, .int s_used, .ref s_wishes, .ref s_pins, .int s_id, .int s_code, .ref s_chosen, .int s_chosenKnown, .ref s_left, .ref s_coming]))] H := hP
          replace hD : va_D A [(s_pins, .inl (cp, 2, .inl pn)), (s_left, .inl (cl, 32, .inl ly)), (s_wishes, .inl (cw, 14, .inl wi)), (h0, .inr (3, [.ref s_ids, .ref s_attributes, .ref s_permanent, .int 0, .ref s_glyphs, .int s_glyphCount, .ref s_dots, .int s_used, .ref s_wishes, .ref s_pins, .int s_id, .int s_code, .ref s_chosen, .int s_chosenKnown, .ref s_left, .ref s_coming]))] := hD
          obtain rfl := hw
          refine lv_pop hx hb d_FontShelf_choose_150 rfl ?_
          refine lv_aload_n hx hb d_FontShelf_choose_151 rfl (lv_at hl 0 rfl) ?_
          refine lv_iconst (v := 3) hx hb d_FontShelf_choose_152 (by decide) ?_
          refine lv_aload_n hx hb d_FontShelf_choose_153 rfl (lv_at hl 0 rfl) ?_
          refine lv_aload_n hx hb d_FontShelf_choose_154 rfl (lv_at hl 0 rfl) ?_
          refine va_get (D := (dC, dI)) (ci := 3) (v := .ref s_wishes) (C := R_FontShelf) (T := F_FontShelf) (N := 16) hx hb hwd i_FontShelf hown hK hP 3 rfl rfl 8 (by decide) (hwd _ wd_2_109) (fun _ h9 => h9) rfl d_FontShelf_choose_155 ?_
          refine lv_iload_n hx hb d_FontShelf_choose_158 rfl (lv_at hl 2 rfl) ?_
          refine lv_iconst (v := 3) hx hb d_FontShelf_choose_159 (by decide) ?_
          refine lv_iadd hx hb d_FontShelf_choose_160 ?_
          refine lv_topi (fun y_49 ey_49 => ?_)
          obtain rfl : y_49 = (3 : Int32) := ey_49.trans (by decide)
          refine va_iald hx hb hK hP 2 2 rfl rfl (show ¬ ((3 : Int32) < 0 ∨ 14 ≤ (3 : Int32).toNatClampNeg) by decide) d_FontShelf_choose_161 ?_
          refine lv_topi (fun y_50 ey_50 => ?_)
          obtain rfl : y_50 = wi 3 := ey_50.trans (by rw [show (3 : Int32).toNatClampNeg = 3 by decide])
          have hPc := hP.sub (ws' := [(h0, .inr (3, [.ref s_ids, .ref s_attributes, .ref s_permanent, .int 0, .ref s_glyphs, .int s_glyphCount, .ref s_dots, .int s_used, .ref s_wishes, .ref s_pins, .int s_id, .int s_code, .ref s_chosen, .int s_chosenKnown, .ref s_left, .ref s_coming]))]) [3] rfl
          have hDc := hD.sub (ws' := [(h0, .inr (3, [.ref s_ids, .ref s_attributes, .ref s_permanent, .int 0, .ref s_glyphs, .int s_glyphCount, .ref s_dots, .int s_used, .ref s_wishes, .ref s_pins, .int s_id, .int s_code, .ref s_chosen, .int s_chosenKnown, .ref s_left, .ref s_coming]))]) [3] (by decide) rfl
          have hKc := hK.sub (tys' := []) [] rfl
          have hFc := va_free (wc := [(h0, .inr (3, [.ref s_ids, .ref s_attributes, .ref s_permanent, .int 0, .ref s_glyphs, .int s_glyphCount, .ref s_dots, .int s_used, .ref s_wishes, .ref s_pins, .int s_id, .int s_code, .ref s_chosen, .int s_chosenKnown, .ref s_left, .ref s_coming]))]) hD hS hA [3] rfl
          refine va_calli (va_runV (As := [.int (wi 3)]) (rest := [.int 3, .ref h0]) ⟨hx, hb, hml, hown, hwd⟩ (c_nearestHeight_0 l dC dI tt h0 s_ids s_attributes s_permanent s_glyphs s_glyphCount s_dots s_used s_wishes s_pins s_id s_code s_chosen s_chosenKnown s_left s_coming (wi 3) H.size ) (cwV 1 hwd (gV gd_FontShelf_nearestHeight wd_2_79 wd_2_81 ws_14 wd_1_5) rfl rfl rfl (by decide +kernel) ⟨Nat.le_of_ble_eq_true rfl, Nat.le_of_ble_eq_true rfl⟩) ⟨fun a U g mk q => by obtain ⟨q0, q1, qP, qK, qD, qF⟩ := q; exact ⟨q0, q1, qP, va_K.moved (u := U) (U := U.calling g mk a) (Vm.Alike.refl U.vm) qK, qD, SF.same (u := U) (U := U.calling g mk a) rfl qF⟩, va_recv hKc hPc (ci := 3) (q0 := 0) rfl rfl, fun U hU hW => ⟨rfl, by rw [hU], by rw [hU]; exact hPc, va_K.moved hW.alike hKc, hDc.weaken (fun _ _ _ _ => trivial), by rw [hU]; exact SF.narrow (SF.moved hW (SF.kept hF (fun a h1 h2 => hS.2.1 a h1 h2))) hFc⟩⟩ rfl rfl hl.1 rfl (lv_room (Nat.le_of_ble_eq_true rfl)) d_FontShelf_choose_162 ⟨Nat.le_of_ble_eq_true rfl, Nat.le_of_ble_eq_true rfl⟩) hS (fun q _ h => hFc q h) hFc ?_
          clear hPc hDc hKc hS
          intro r_51 u_52 t H1 locs ht hvm hw hB hz1 hk1 hS
          obtain ⟨hP1, hK1, hD1⟩ := hB
          rw [ht] at hP1
          have hK1 := va_K.moved hvm.symm hK1
          try dsimp only at hw
          have hJ := va_join (wr := [(s_pins, .inl (cp, 2, .inl pn)), (s_left, .inl (cl, 32, .inl ly)), (s_wishes, .inl (cw, 14, .inl wi))]) (w1 := [(h0, .inr (3, [.ref s_ids, .ref s_attributes, .ref s_permanent, .int 0, .ref s_glyphs, .int s_glyphCount, .ref s_dots, .int s_used, .ref s_wishes, .ref s_pins, .int s_id, .int s_code, .ref s_chosen, .int s_chosenKnown, .ref s_left, .ref s_coming]))]) hP hD [3] [0, 1, 2] rfl rfl (by decide) (by decide) hk1 hFc hP1 hD1
          clear hP hD hk1 hFc hP1 hD1 hz1
          obtain ⟨hP, hD⟩ := hJ
          clear hK1 ht hvm
          generalize H1 = H at hP hS ⊢
          replace hP : va_P (dC, dI) vcl [(s_pins, .inl (cp, 2, .inl pn)), (s_left, .inl (cl, 32, .inl ly)), (s_wishes, .inl (cw, 14, .inl wi)), (h0, .inr (3, [.ref s_ids, .ref s_attributes, .ref s_permanent, .int 0, .ref s_glyphs, .int s_glyphCount, .ref s_dots, .int s_used, .ref s_wishes, .ref s_pins, .int s_id, .int s_code, .ref s_chosen, .int s_chosenKnown, .ref s_left, .ref s_coming]))] H := hP
          replace hD : va_D A [(s_pins, .inl (cp, 2, .inl pn)), (s_left, .inl (cl, 32, .inl ly)), (s_wishes, .inl (cw, 14, .inl wi)), (h0, .inr (3, [.ref s_ids, .ref s_attributes, .ref s_permanent, .int 0, .ref s_glyphs, .int s_glyphCount, .ref s_dots, .int s_used, .ref s_wishes, .ref s_pins, .int s_id, .int s_code, .ref s_chosen, .int s_chosenKnown, .ref s_left, .ref s_coming]))] := hD
          obtain rfl := hw
          have hPc := hP.sub (ws' := [(h0, .inr (3, [.ref s_ids, .ref s_attributes, .ref s_permanent, .int 0, .ref s_glyphs, .int s_glyphCount, .ref s_dots, .int s_used, .ref s_wishes, .ref s_pins, .int s_id, .int s_code, .ref s_chosen, .int s_chosenKnown, .ref s_left, .ref s_coming]))]) [3] rfl
          have hDc := hD.sub (ws' := [(h0, .inr (3, [.ref s_ids, .ref s_attributes, .ref s_permanent, .int 0, .ref s_glyphs, .int s_glyphCount, .ref s_dots, .int s_used, .ref s_wishes, .ref s_pins, .int s_id, .int s_code, .ref s_chosen, .int s_chosenKnown, .ref s_left, .ref s_coming]))]) [3] (by decide) rfl
          have hKc := hK.sub (tys' := []) [] rfl
          have hFc := va_free (wc := [(h0, .inr (3, [.ref s_ids, .ref s_attributes, .ref s_permanent, .int 0, .ref s_glyphs, .int s_glyphCount, .ref s_dots, .int s_used, .ref s_wishes, .ref s_pins, .int s_id, .int s_code, .ref s_chosen, .int s_chosenKnown, .ref s_left, .ref s_coming]))]) hD hS hA [3] rfl
          refine va_calli (va_runV (As := [.int 3, .int (-1)]) (rest := []) ⟨hx, hb, hml, hown, hwd⟩ (c_keepThose_0 l dC dI tt h0 s_ids s_attributes s_permanent s_glyphs s_glyphCount s_dots s_used s_wishes s_pins s_id s_code s_chosen s_chosenKnown s_left s_coming 3 (-1) H.size ) (cwV 2 hwd (gV gd_FontShelf_keepThose wd_2_53 wd_2_55 ws_8 wd_1_5) rfl rfl rfl (by decide +kernel) ⟨Nat.le_of_ble_eq_true rfl, Nat.le_of_ble_eq_true rfl⟩) ⟨fun a U g mk q => by obtain ⟨q0, q1, qP, qK, qD, qF⟩ := q; exact ⟨q0, q1, qP, va_K.moved (u := U) (U := U.calling g mk a) (Vm.Alike.refl U.vm) qK, qD, SF.same (u := U) (U := U.calling g mk a) rfl qF⟩, va_recv hKc hPc (ci := 3) (q0 := 0) rfl rfl, fun U hU hW => ⟨rfl, by rw [hU], by rw [hU]; exact hPc, va_K.moved hW.alike hKc, hDc.weaken (fun _ _ _ _ => trivial), by rw [hU]; exact SF.narrow (SF.moved hW (SF.kept hF (fun a h1 h2 => hS.2.1 a h1 h2))) hFc⟩⟩ rfl rfl hl.1 rfl (lv_room (Nat.le_of_ble_eq_true rfl)) d_FontShelf_choose_165 ⟨Nat.le_of_ble_eq_true rfl, Nat.le_of_ble_eq_true rfl⟩) hS (fun q _ h => hFc q h) hFc ?_
          clear hPc hDc hKc hS
          intro r_53 u_54 t H1 locs ht hvm hw hB hz1 hk1 hS
          obtain ⟨hP1, hK1, hD1⟩ := hB
          rw [ht] at hP1
          have hK1 := va_K.moved hvm.symm hK1
          try dsimp only at hw
          have hJ := va_join (wr := [(s_pins, .inl (cp, 2, .inl pn)), (s_left, .inl (cl, 32, .inl ly)), (s_wishes, .inl (cw, 14, .inl wi))]) (w1 := [(h0, .inr (3, [.ref s_ids, .ref s_attributes, .ref s_permanent, .int 0, .ref s_glyphs, .int s_glyphCount, .ref s_dots, .int s_used, .ref s_wishes, .ref s_pins, .int s_id, .int s_code, .ref s_chosen, .int s_chosenKnown, .ref s_left, .ref s_coming]))]) hP hD [3] [0, 1, 2] rfl rfl (by decide) (by decide) hk1 hFc hP1 hD1
          clear hP hD hk1 hFc hP1 hD1 hz1
          obtain ⟨hP, hD⟩ := hJ
          clear hK1 ht hvm
          generalize H1 = H at hP hS ⊢
          replace hP : va_P (dC, dI) vcl [(s_pins, .inl (cp, 2, .inl pn)), (s_left, .inl (cl, 32, .inl ly)), (s_wishes, .inl (cw, 14, .inl wi)), (h0, .inr (3, [.ref s_ids, .ref s_attributes, .ref s_permanent, .int 0, .ref s_glyphs, .int s_glyphCount, .ref s_dots, .int s_used, .ref s_wishes, .ref s_pins, .int s_id, .int s_code, .ref s_chosen, .int s_chosenKnown, .ref s_left, .ref s_coming]))] H := hP
          replace hD : va_D A [(s_pins, .inl (cp, 2, .inl pn)), (s_left, .inl (cl, 32, .inl ly)), (s_wishes, .inl (cw, 14, .inl wi)), (h0, .inr (3, [.ref s_ids, .ref s_attributes, .ref s_permanent, .int 0, .ref s_glyphs, .int s_glyphCount, .ref s_dots, .int s_used, .ref s_wishes, .ref s_pins, .int s_id, .int s_code, .ref s_chosen, .int s_chosenKnown, .ref s_left, .ref s_coming]))] := hD
          obtain rfl := hw
          refine lv_pop hx hb d_FontShelf_choose_168 rfl ?_
          refine lv_aload_n hx hb d_FontShelf_choose_169 rfl (lv_at hl 0 rfl) ?_
          refine lv_iconst (v := 4) hx hb d_FontShelf_choose_170 (by decide) ?_
          refine lv_aload_n hx hb d_FontShelf_choose_171 rfl (lv_at hl 0 rfl) ?_
          refine va_get (D := (dC, dI)) (ci := 3) (v := .ref s_wishes) (C := R_FontShelf) (T := F_FontShelf) (N := 16) hx hb hwd i_FontShelf hown hK hP 3 rfl rfl 8 (by decide) (hwd _ wd_2_109) (fun _ h9 => h9) rfl d_FontShelf_choose_172 ?_
          refine lv_iload_n hx hb d_FontShelf_choose_175 rfl (lv_at hl 2 rfl) ?_
          refine lv_iconst (v := 4) hx hb d_FontShelf_choose_176 (by decide) ?_
          refine lv_iadd hx hb d_FontShelf_choose_177 ?_
          refine lv_topi (fun y_55 ey_55 => ?_)
          obtain rfl : y_55 = (4 : Int32) := ey_55.trans (by decide)
          refine va_iald hx hb hK hP 2 2 rfl rfl (show ¬ ((4 : Int32) < 0 ∨ 14 ≤ (4 : Int32).toNatClampNeg) by decide) d_FontShelf_choose_178 ?_
          refine lv_topi (fun y_56 ey_56 => ?_)
          obtain rfl : y_56 = wi 4 := ey_56.trans (by rw [show (4 : Int32).toNatClampNeg = 4 by decide])
          have hPc := hP.sub (ws' := [(h0, .inr (3, [.ref s_ids, .ref s_attributes, .ref s_permanent, .int 0, .ref s_glyphs, .int s_glyphCount, .ref s_dots, .int s_used, .ref s_wishes, .ref s_pins, .int s_id, .int s_code, .ref s_chosen, .int s_chosenKnown, .ref s_left, .ref s_coming]))]) [3] rfl
          have hDc := hD.sub (ws' := [(h0, .inr (3, [.ref s_ids, .ref s_attributes, .ref s_permanent, .int 0, .ref s_glyphs, .int s_glyphCount, .ref s_dots, .int s_used, .ref s_wishes, .ref s_pins, .int s_id, .int s_code, .ref s_chosen, .int s_chosenKnown, .ref s_left, .ref s_coming]))]) [3] (by decide) rfl
          have hKc := hK.sub (tys' := []) [] rfl
          have hFc := va_free (wc := [(h0, .inr (3, [.ref s_ids, .ref s_attributes, .ref s_permanent, .int 0, .ref s_glyphs, .int s_glyphCount, .ref s_dots, .int s_used, .ref s_wishes, .ref s_pins, .int s_id, .int s_code, .ref s_chosen, .int s_chosenKnown, .ref s_left, .ref s_coming]))]) hD hS hA [3] rfl
          refine va_calli (va_runV (As := [.int 4, .int (wi 4)]) (rest := []) ⟨hx, hb, hml, hown, hwd⟩ (c_keepThose_0 l dC dI tt h0 s_ids s_attributes s_permanent s_glyphs s_glyphCount s_dots s_used s_wishes s_pins s_id s_code s_chosen s_chosenKnown s_left s_coming 4 (wi 4) H.size ) (cwV 2 hwd (gV gd_FontShelf_keepThose wd_2_53 wd_2_55 ws_8 wd_1_5) rfl rfl rfl (by decide +kernel) ⟨Nat.le_of_ble_eq_true rfl, Nat.le_of_ble_eq_true rfl⟩) ⟨fun a U g mk q => by obtain ⟨q0, q1, qP, qK, qD, qF⟩ := q; exact ⟨q0, q1, qP, va_K.moved (u := U) (U := U.calling g mk a) (Vm.Alike.refl U.vm) qK, qD, SF.same (u := U) (U := U.calling g mk a) rfl qF⟩, va_recv hKc hPc (ci := 3) (q0 := 0) rfl rfl, fun U hU hW => ⟨rfl, by rw [hU], by rw [hU]; exact hPc, va_K.moved hW.alike hKc, hDc.weaken (fun _ _ _ _ => trivial), by rw [hU]; exact SF.narrow (SF.moved hW (SF.kept hF (fun a h1 h2 => hS.2.1 a h1 h2))) hFc⟩⟩ rfl rfl hl.1 rfl (lv_room (Nat.le_of_ble_eq_true rfl)) d_FontShelf_choose_179 ⟨Nat.le_of_ble_eq_true rfl, Nat.le_of_ble_eq_true rfl⟩) hS (fun q _ h => hFc q h) hFc ?_
          clear hPc hDc hKc hS
          intro r_57 u_58 t H1 locs ht hvm hw hB hz1 hk1 hS
          obtain ⟨hP1, hK1, hD1⟩ := hB
          rw [ht] at hP1
          have hK1 := va_K.moved hvm.symm hK1
          try dsimp only at hw
          have hJ := va_join (wr := [(s_pins, .inl (cp, 2, .inl pn)), (s_left, .inl (cl, 32, .inl ly)), (s_wishes, .inl (cw, 14, .inl wi))]) (w1 := [(h0, .inr (3, [.ref s_ids, .ref s_attributes, .ref s_permanent, .int 0, .ref s_glyphs, .int s_glyphCount, .ref s_dots, .int s_used, .ref s_wishes, .ref s_pins, .int s_id, .int s_code, .ref s_chosen, .int s_chosenKnown, .ref s_left, .ref s_coming]))]) hP hD [3] [0, 1, 2] rfl rfl (by decide) (by decide) hk1 hFc hP1 hD1
          clear hP hD hk1 hFc hP1 hD1 hz1
          obtain ⟨hP, hD⟩ := hJ
          clear hK1 ht hvm
          generalize H1 = H at hP hS ⊢
          replace hP : va_P (dC, dI) vcl [(s_pins, .inl (cp, 2, .inl pn)), (s_left, .inl (cl, 32, .inl ly)), (s_wishes, .inl (cw, 14, .inl wi)), (h0, .inr (3, [.ref s_ids, .ref s_attributes, .ref s_permanent, .int 0, .ref s_glyphs, .int s_glyphCount, .ref s_dots, .int s_used, .ref s_wishes, .ref s_pins, .int s_id, .int s_code, .ref s_chosen, .int s_chosenKnown, .ref s_left, .ref s_coming]))] H := hP
          replace hD : va_D A [(s_pins, .inl (cp, 2, .inl pn)), (s_left, .inl (cl, 32, .inl ly)), (s_wishes, .inl (cw, 14, .inl wi)), (h0, .inr (3, [.ref s_ids, .ref s_attributes, .ref s_permanent, .int 0, .ref s_glyphs, .int s_glyphCount, .ref s_dots, .int s_used, .ref s_wishes, .ref s_pins, .int s_id, .int s_code, .ref s_chosen, .int s_chosenKnown, .ref s_left, .ref s_coming]))] := hD
          obtain rfl := hw
          refine lv_pop hx hb d_FontShelf_choose_182 rfl ?_
          refine lv_aload_n hx hb d_FontShelf_choose_183 rfl (lv_at hl 0 rfl) ?_
          refine lv_iconst (v := 5) hx hb d_FontShelf_choose_184 (by decide) ?_
          refine lv_aload_n hx hb d_FontShelf_choose_185 rfl (lv_at hl 0 rfl) ?_
          refine va_get (D := (dC, dI)) (ci := 3) (v := .ref s_wishes) (C := R_FontShelf) (T := F_FontShelf) (N := 16) hx hb hwd i_FontShelf hown hK hP 3 rfl rfl 8 (by decide) (hwd _ wd_2_109) (fun _ h9 => h9) rfl d_FontShelf_choose_186 ?_
          refine lv_iload_n hx hb d_FontShelf_choose_189 rfl (lv_at hl 2 rfl) ?_
          refine lv_iconst (v := 5) hx hb d_FontShelf_choose_190 (by decide) ?_
          refine lv_iadd hx hb d_FontShelf_choose_191 ?_
          refine lv_topi (fun y_59 ey_59 => ?_)
          obtain rfl : y_59 = (5 : Int32) := ey_59.trans (by decide)
          refine va_iald hx hb hK hP 2 2 rfl rfl (show ¬ ((5 : Int32) < 0 ∨ 14 ≤ (5 : Int32).toNatClampNeg) by decide) d_FontShelf_choose_192 ?_
          refine lv_topi (fun y_60 ey_60 => ?_)
          obtain rfl : y_60 = wi 5 := ey_60.trans (by rw [show (5 : Int32).toNatClampNeg = 5 by decide])
          have hPc := hP.sub (ws' := [(h0, .inr (3, [.ref s_ids, .ref s_attributes, .ref s_permanent, .int 0, .ref s_glyphs, .int s_glyphCount, .ref s_dots, .int s_used, .ref s_wishes, .ref s_pins, .int s_id, .int s_code, .ref s_chosen, .int s_chosenKnown, .ref s_left, .ref s_coming]))]) [3] rfl
          have hDc := hD.sub (ws' := [(h0, .inr (3, [.ref s_ids, .ref s_attributes, .ref s_permanent, .int 0, .ref s_glyphs, .int s_glyphCount, .ref s_dots, .int s_used, .ref s_wishes, .ref s_pins, .int s_id, .int s_code, .ref s_chosen, .int s_chosenKnown, .ref s_left, .ref s_coming]))]) [3] (by decide) rfl
          have hKc := hK.sub (tys' := []) [] rfl
          have hFc := va_free (wc := [(h0, .inr (3, [.ref s_ids, .ref s_attributes, .ref s_permanent, .int 0, .ref s_glyphs, .int s_glyphCount, .ref s_dots, .int s_used, .ref s_wishes, .ref s_pins, .int s_id, .int s_code, .ref s_chosen, .int s_chosenKnown, .ref s_left, .ref s_coming]))]) hD hS hA [3] rfl
          refine va_calli (va_runV (As := [.int 5, .int (wi 5)]) (rest := []) ⟨hx, hb, hml, hown, hwd⟩ (c_keepThose_0 l dC dI tt h0 s_ids s_attributes s_permanent s_glyphs s_glyphCount s_dots s_used s_wishes s_pins s_id s_code s_chosen s_chosenKnown s_left s_coming 5 (wi 5) H.size ) (cwV 2 hwd (gV gd_FontShelf_keepThose wd_2_53 wd_2_55 ws_8 wd_1_5) rfl rfl rfl (by decide +kernel) ⟨Nat.le_of_ble_eq_true rfl, Nat.le_of_ble_eq_true rfl⟩) ⟨fun a U g mk q => by obtain ⟨q0, q1, qP, qK, qD, qF⟩ := q; exact ⟨q0, q1, qP, va_K.moved (u := U) (U := U.calling g mk a) (Vm.Alike.refl U.vm) qK, qD, SF.same (u := U) (U := U.calling g mk a) rfl qF⟩, va_recv hKc hPc (ci := 3) (q0 := 0) rfl rfl, fun U hU hW => ⟨rfl, by rw [hU], by rw [hU]; exact hPc, va_K.moved hW.alike hKc, hDc.weaken (fun _ _ _ _ => trivial), by rw [hU]; exact SF.narrow (SF.moved hW (SF.kept hF (fun a h1 h2 => hS.2.1 a h1 h2))) hFc⟩⟩ rfl rfl hl.1 rfl (lv_room (Nat.le_of_ble_eq_true rfl)) d_FontShelf_choose_193 ⟨Nat.le_of_ble_eq_true rfl, Nat.le_of_ble_eq_true rfl⟩) hS (fun q _ h => hFc q h) hFc ?_
          clear hPc hDc hKc hS
          intro r_61 u_62 t H1 locs ht hvm hw hB hz1 hk1 hS
          obtain ⟨hP1, hK1, hD1⟩ := hB
          rw [ht] at hP1
          have hK1 := va_K.moved hvm.symm hK1
          try dsimp only at hw
          have hJ := va_join (wr := [(s_pins, .inl (cp, 2, .inl pn)), (s_left, .inl (cl, 32, .inl ly)), (s_wishes, .inl (cw, 14, .inl wi))]) (w1 := [(h0, .inr (3, [.ref s_ids, .ref s_attributes, .ref s_permanent, .int 0, .ref s_glyphs, .int s_glyphCount, .ref s_dots, .int s_used, .ref s_wishes, .ref s_pins, .int s_id, .int s_code, .ref s_chosen, .int s_chosenKnown, .ref s_left, .ref s_coming]))]) hP hD [3] [0, 1, 2] rfl rfl (by decide) (by decide) hk1 hFc hP1 hD1
          clear hP hD hk1 hFc hP1 hD1 hz1
          obtain ⟨hP, hD⟩ := hJ
          clear hK1 ht hvm
          generalize H1 = H at hP hS ⊢
          replace hP : va_P (dC, dI) vcl [(s_pins, .inl (cp, 2, .inl pn)), (s_left, .inl (cl, 32, .inl ly)), (s_wishes, .inl (cw, 14, .inl wi)), (h0, .inr (3, [.ref s_ids, .ref s_attributes, .ref s_permanent, .int 0, .ref s_glyphs, .int s_glyphCount, .ref s_dots, .int s_used, .ref s_wishes, .ref s_pins, .int s_id, .int s_code, .ref s_chosen, .int s_chosenKnown, .ref s_left, .ref s_coming]))] H := hP
          replace hD : va_D A [(s_pins, .inl (cp, 2, .inl pn)), (s_left, .inl (cl, 32, .inl ly)), (s_wishes, .inl (cw, 14, .inl wi)), (h0, .inr (3, [.ref s_ids, .ref s_attributes, .ref s_permanent, .int 0, .ref s_glyphs, .int s_glyphCount, .ref s_dots, .int s_used, .ref s_wishes, .ref s_pins, .int s_id, .int s_code, .ref s_chosen, .int s_chosenKnown, .ref s_left, .ref s_coming]))] := hD
          obtain rfl := hw
          refine lv_if_ne (tgt := 217) hx hb d_FontShelf_choose_196 (by decide) (fun c196 => absurd c196 (by decide)) (fun _ => ?_)
          refine lv_aload_n hx hb d_FontShelf_choose_199 rfl (lv_at hl 0 rfl) ?_
          refine lv_iconst (v := 5) hx hb d_FontShelf_choose_200 (by decide) ?_
          refine lv_aload_n hx hb d_FontShelf_choose_201 rfl (lv_at hl 0 rfl) ?_
          refine lv_aload_n hx hb d_FontShelf_choose_202 rfl (lv_at hl 0 rfl) ?_
          refine va_get (D := (dC, dI)) (ci := 3) (v := .ref s_wishes) (C := R_FontShelf) (T := F_FontShelf) (N := 16) hx hb hwd i_FontShelf hown hK hP 3 rfl rfl 8 (by decide) (hwd _ wd_2_109) (fun _ h9 => h9) rfl d_FontShelf_choose_203 ?_
          refine lv_iload_n hx hb d_FontShelf_choose_206 rfl (lv_at hl 2 rfl) ?_
          refine lv_iconst (v := 5) hx hb d_FontShelf_choose_207 (by decide) ?_
          refine lv_iadd hx hb d_FontShelf_choose_208 ?_
          refine lv_topi (fun y_63 ey_63 => ?_)
          obtain rfl : y_63 = (5 : Int32) := ey_63.trans (by decide)
          refine va_iald hx hb hK hP 2 2 rfl rfl (show ¬ ((5 : Int32) < 0 ∨ 14 ≤ (5 : Int32).toNatClampNeg) by decide) d_FontShelf_choose_209 ?_
          refine lv_topi (fun y_64 ey_64 => ?_)
          obtain rfl : y_64 = wi 5 := ey_64.trans (by rw [show (5 : Int32).toNatClampNeg = 5 by decide])
          have hPc := hP.sub (ws' := [(h0, .inr (3, [.ref s_ids, .ref s_attributes, .ref s_permanent, .int 0, .ref s_glyphs, .int s_glyphCount, .ref s_dots, .int s_used, .ref s_wishes, .ref s_pins, .int s_id, .int s_code, .ref s_chosen, .int s_chosenKnown, .ref s_left, .ref s_coming]))]) [3] rfl
          have hDc := hD.sub (ws' := [(h0, .inr (3, [.ref s_ids, .ref s_attributes, .ref s_permanent, .int 0, .ref s_glyphs, .int s_glyphCount, .ref s_dots, .int s_used, .ref s_wishes, .ref s_pins, .int s_id, .int s_code, .ref s_chosen, .int s_chosenKnown, .ref s_left, .ref s_coming]))]) [3] (by decide) rfl
          have hKc := hK.sub (tys' := []) [] rfl
          have hFc := va_free (wc := [(h0, .inr (3, [.ref s_ids, .ref s_attributes, .ref s_permanent, .int 0, .ref s_glyphs, .int s_glyphCount, .ref s_dots, .int s_used, .ref s_wishes, .ref s_pins, .int s_id, .int s_code, .ref s_chosen, .int s_chosenKnown, .ref s_left, .ref s_coming]))]) hD hS hA [3] rfl
          refine va_calli (va_runV (As := [.int (wi 5)]) (rest := [.int 5, .ref h0]) ⟨hx, hb, hml, hown, hwd⟩ (c_bestWeight_0 l dC dI tt h0 s_ids s_attributes s_permanent s_glyphs s_glyphCount s_dots s_used s_wishes s_pins s_id s_code s_chosen s_chosenKnown s_left s_coming (wi 5) H.size ) (cwV 1 hwd (gV gd_FontShelf_bestWeight wd_2_84 wd_2_86 ws_15 wd_1_5) rfl rfl rfl (by decide +kernel) ⟨Nat.le_of_ble_eq_true rfl, Nat.le_of_ble_eq_true rfl⟩) ⟨fun a U g mk q => by obtain ⟨q0, q1, qP, qK, qD, qF⟩ := q; exact ⟨q0, q1, qP, va_K.moved (u := U) (U := U.calling g mk a) (Vm.Alike.refl U.vm) qK, qD, SF.same (u := U) (U := U.calling g mk a) rfl qF⟩, va_recv hKc hPc (ci := 3) (q0 := 0) rfl rfl, fun U hU hW => ⟨rfl, by rw [hU], by rw [hU]; exact hPc, va_K.moved hW.alike hKc, hDc.weaken (fun _ _ _ _ => trivial), by rw [hU]; exact SF.narrow (SF.moved hW (SF.kept hF (fun a h1 h2 => hS.2.1 a h1 h2))) hFc⟩⟩ rfl rfl hl.1 rfl (lv_room (Nat.le_of_ble_eq_true rfl)) d_FontShelf_choose_210 ⟨Nat.le_of_ble_eq_true rfl, Nat.le_of_ble_eq_true rfl⟩) hS (fun q _ h => hFc q h) hFc ?_
          clear hPc hDc hKc hS
          intro r_65 u_66 t H1 locs ht hvm hw hB hz1 hk1 hS
          obtain ⟨hP1, hK1, hD1⟩ := hB
          rw [ht] at hP1
          have hK1 := va_K.moved hvm.symm hK1
          try dsimp only at hw
          have hJ := va_join (wr := [(s_pins, .inl (cp, 2, .inl pn)), (s_left, .inl (cl, 32, .inl ly)), (s_wishes, .inl (cw, 14, .inl wi))]) (w1 := [(h0, .inr (3, [.ref s_ids, .ref s_attributes, .ref s_permanent, .int 0, .ref s_glyphs, .int s_glyphCount, .ref s_dots, .int s_used, .ref s_wishes, .ref s_pins, .int s_id, .int s_code, .ref s_chosen, .int s_chosenKnown, .ref s_left, .ref s_coming]))]) hP hD [3] [0, 1, 2] rfl rfl (by decide) (by decide) hk1 hFc hP1 hD1
          clear hP hD hk1 hFc hP1 hD1 hz1
          obtain ⟨hP, hD⟩ := hJ
          clear hK1 ht hvm
          generalize H1 = H at hP hS ⊢
          replace hP : va_P (dC, dI) vcl [(s_pins, .inl (cp, 2, .inl pn)), (s_left, .inl (cl, 32, .inl ly)), (s_wishes, .inl (cw, 14, .inl wi)), (h0, .inr (3, [.ref s_ids, .ref s_attributes, .ref s_permanent, .int 0, .ref s_glyphs, .int s_glyphCount, .ref s_dots, .int s_used, .ref s_wishes, .ref s_pins, .int s_id, .int s_code, .ref s_chosen, .int s_chosenKnown, .ref s_left, .ref s_coming]))] H := hP
          replace hD : va_D A [(s_pins, .inl (cp, 2, .inl pn)), (s_left, .inl (cl, 32, .inl ly)), (s_wishes, .inl (cw, 14, .inl wi)), (h0, .inr (3, [.ref s_ids, .ref s_attributes, .ref s_permanent, .int 0, .ref s_glyphs, .int s_glyphCount, .ref s_dots, .int s_used, .ref s_wishes, .ref s_pins, .int s_id, .int s_code, .ref s_chosen, .int s_chosenKnown, .ref s_left, .ref s_coming]))] := hD
          obtain rfl := hw
          have hPc := hP.sub (ws' := [(h0, .inr (3, [.ref s_ids, .ref s_attributes, .ref s_permanent, .int 0, .ref s_glyphs, .int s_glyphCount, .ref s_dots, .int s_used, .ref s_wishes, .ref s_pins, .int s_id, .int s_code, .ref s_chosen, .int s_chosenKnown, .ref s_left, .ref s_coming]))]) [3] rfl
          have hDc := hD.sub (ws' := [(h0, .inr (3, [.ref s_ids, .ref s_attributes, .ref s_permanent, .int 0, .ref s_glyphs, .int s_glyphCount, .ref s_dots, .int s_used, .ref s_wishes, .ref s_pins, .int s_id, .int s_code, .ref s_chosen, .int s_chosenKnown, .ref s_left, .ref s_coming]))]) [3] (by decide) rfl
          have hKc := hK.sub (tys' := []) [] rfl
          have hFc := va_free (wc := [(h0, .inr (3, [.ref s_ids, .ref s_attributes, .ref s_permanent, .int 0, .ref s_glyphs, .int s_glyphCount, .ref s_dots, .int s_used, .ref s_wishes, .ref s_pins, .int s_id, .int s_code, .ref s_chosen, .int s_chosenKnown, .ref s_left, .ref s_coming]))]) hD hS hA [3] rfl
          refine va_calli (va_runV (As := [.int 5, .int (wi 5)]) (rest := []) ⟨hx, hb, hml, hown, hwd⟩ (c_keepThose_0 l dC dI tt h0 s_ids s_attributes s_permanent s_glyphs s_glyphCount s_dots s_used s_wishes s_pins s_id s_code s_chosen s_chosenKnown s_left s_coming 5 (wi 5) H.size ) (cwV 2 hwd (gV gd_FontShelf_keepThose wd_2_53 wd_2_55 ws_8 wd_1_5) rfl rfl rfl (by decide +kernel) ⟨Nat.le_of_ble_eq_true rfl, Nat.le_of_ble_eq_true rfl⟩) ⟨fun a U g mk q => by obtain ⟨q0, q1, qP, qK, qD, qF⟩ := q; exact ⟨q0, q1, qP, va_K.moved (u := U) (U := U.calling g mk a) (Vm.Alike.refl U.vm) qK, qD, SF.same (u := U) (U := U.calling g mk a) rfl qF⟩, va_recv hKc hPc (ci := 3) (q0 := 0) rfl rfl, fun U hU hW => ⟨rfl, by rw [hU], by rw [hU]; exact hPc, va_K.moved hW.alike hKc, hDc.weaken (fun _ _ _ _ => trivial), by rw [hU]; exact SF.narrow (SF.moved hW (SF.kept hF (fun a h1 h2 => hS.2.1 a h1 h2))) hFc⟩⟩ rfl rfl hl.1 rfl (lv_room (Nat.le_of_ble_eq_true rfl)) d_FontShelf_choose_213 ⟨Nat.le_of_ble_eq_true rfl, Nat.le_of_ble_eq_true rfl⟩) hS (fun q _ h => hFc q h) hFc ?_
          clear hPc hDc hKc hS
          intro r_67 u_68 t H1 locs ht hvm hw hB hz1 hk1 hS
          obtain ⟨hP1, hK1, hD1⟩ := hB
          rw [ht] at hP1
          have hK1 := va_K.moved hvm.symm hK1
          try dsimp only at hw
          have hJ := va_join (wr := [(s_pins, .inl (cp, 2, .inl pn)), (s_left, .inl (cl, 32, .inl ly)), (s_wishes, .inl (cw, 14, .inl wi))]) (w1 := [(h0, .inr (3, [.ref s_ids, .ref s_attributes, .ref s_permanent, .int 0, .ref s_glyphs, .int s_glyphCount, .ref s_dots, .int s_used, .ref s_wishes, .ref s_pins, .int s_id, .int s_code, .ref s_chosen, .int s_chosenKnown, .ref s_left, .ref s_coming]))]) hP hD [3] [0, 1, 2] rfl rfl (by decide) (by decide) hk1 hFc hP1 hD1
          clear hP hD hk1 hFc hP1 hD1 hz1
          obtain ⟨hP, hD⟩ := hJ
          clear hK1 ht hvm
          generalize H1 = H at hP hS ⊢
          replace hP : va_P (dC, dI) vcl [(s_pins, .inl (cp, 2, .inl pn)), (s_left, .inl (cl, 32, .inl ly)), (s_wishes, .inl (cw, 14, .inl wi)), (h0, .inr (3, [.ref s_ids, .ref s_attributes, .ref s_permanent, .int 0, .ref s_glyphs, .int s_glyphCount, .ref s_dots, .int s_used, .ref s_wishes, .ref s_pins, .int s_id, .int s_code, .ref s_chosen, .int s_chosenKnown, .ref s_left, .ref s_coming]))] H := hP
          replace hD : va_D A [(s_pins, .inl (cp, 2, .inl pn)), (s_left, .inl (cl, 32, .inl ly)), (s_wishes, .inl (cw, 14, .inl wi)), (h0, .inr (3, [.ref s_ids, .ref s_attributes, .ref s_permanent, .int 0, .ref s_glyphs, .int s_glyphCount, .ref s_dots, .int s_used, .ref s_wishes, .ref s_pins, .int s_id, .int s_code, .ref s_chosen, .int s_chosenKnown, .ref s_left, .ref s_coming]))] := hD
          obtain rfl := hw
          refine lv_pop hx hb d_FontShelf_choose_216 rfl ?_
          refine lv_aload_n hx hb d_FontShelf_choose_217 rfl (lv_at hl 0 rfl) ?_
          refine lv_bipush (v := 6) hx hb d_FontShelf_choose_218 (by decide) ?_
          refine lv_aload_n hx hb d_FontShelf_choose_220 rfl (lv_at hl 0 rfl) ?_
          refine va_get (D := (dC, dI)) (ci := 3) (v := .ref s_wishes) (C := R_FontShelf) (T := F_FontShelf) (N := 16) hx hb hwd i_FontShelf hown hK hP 3 rfl rfl 8 (by decide) (hwd _ wd_2_109) (fun _ h9 => h9) rfl d_FontShelf_choose_221 ?_
          refine lv_iload_n hx hb d_FontShelf_choose_224 rfl (lv_at hl 2 rfl) ?_
          refine lv_bipush (v := 6) hx hb d_FontShelf_choose_225 (by decide) ?_
          refine lv_iadd hx hb d_FontShelf_choose_227 ?_
          refine lv_topi (fun y_69 ey_69 => ?_)
          obtain rfl : y_69 = (6 : Int32) := ey_69.trans (by decide)
          refine va_iald hx hb hK hP 2 2 rfl rfl (show ¬ ((6 : Int32) < 0 ∨ 14 ≤ (6 : Int32).toNatClampNeg) by decide) d_FontShelf_choose_228 ?_
          refine lv_topi (fun y_70 ey_70 => ?_)
          obtain rfl : y_70 = wi 6 := ey_70.trans (by rw [show (6 : Int32).toNatClampNeg = 6 by decide])
          have hPc := hP.sub (ws' := [(h0, .inr (3, [.ref s_ids, .ref s_attributes, .ref s_permanent, .int 0, .ref s_glyphs, .int s_glyphCount, .ref s_dots, .int s_used, .ref s_wishes, .ref s_pins, .int s_id, .int s_code, .ref s_chosen, .int s_chosenKnown, .ref s_left, .ref s_coming]))]) [3] rfl
          have hDc := hD.sub (ws' := [(h0, .inr (3, [.ref s_ids, .ref s_attributes, .ref s_permanent, .int 0, .ref s_glyphs, .int s_glyphCount, .ref s_dots, .int s_used, .ref s_wishes, .ref s_pins, .int s_id, .int s_code, .ref s_chosen, .int s_chosenKnown, .ref s_left, .ref s_coming]))]) [3] (by decide) rfl
          have hKc := hK.sub (tys' := []) [] rfl
          have hFc := va_free (wc := [(h0, .inr (3, [.ref s_ids, .ref s_attributes, .ref s_permanent, .int 0, .ref s_glyphs, .int s_glyphCount, .ref s_dots, .int s_used, .ref s_wishes, .ref s_pins, .int s_id, .int s_code, .ref s_chosen, .int s_chosenKnown, .ref s_left, .ref s_coming]))]) hD hS hA [3] rfl
          refine va_calli (va_runV (As := [.int 6, .int (wi 6)]) (rest := []) ⟨hx, hb, hml, hown, hwd⟩ (c_keepThose_0 l dC dI tt h0 s_ids s_attributes s_permanent s_glyphs s_glyphCount s_dots s_used s_wishes s_pins s_id s_code s_chosen s_chosenKnown s_left s_coming 6 (wi 6) H.size ) (cwV 2 hwd (gV gd_FontShelf_keepThose wd_2_53 wd_2_55 ws_8 wd_1_5) rfl rfl rfl (by decide +kernel) ⟨Nat.le_of_ble_eq_true rfl, Nat.le_of_ble_eq_true rfl⟩) ⟨fun a U g mk q => by obtain ⟨q0, q1, qP, qK, qD, qF⟩ := q; exact ⟨q0, q1, qP, va_K.moved (u := U) (U := U.calling g mk a) (Vm.Alike.refl U.vm) qK, qD, SF.same (u := U) (U := U.calling g mk a) rfl qF⟩, va_recv hKc hPc (ci := 3) (q0 := 0) rfl rfl, fun U hU hW => ⟨rfl, by rw [hU], by rw [hU]; exact hPc, va_K.moved hW.alike hKc, hDc.weaken (fun _ _ _ _ => trivial), by rw [hU]; exact SF.narrow (SF.moved hW (SF.kept hF (fun a h1 h2 => hS.2.1 a h1 h2))) hFc⟩⟩ rfl rfl hl.1 rfl (lv_room (Nat.le_of_ble_eq_true rfl)) d_FontShelf_choose_229 ⟨Nat.le_of_ble_eq_true rfl, Nat.le_of_ble_eq_true rfl⟩) hS (fun q _ h => hFc q h) hFc ?_
          clear hPc hDc hKc hS
          intro r_71 u_72 t H1 locs ht hvm hw hB hz1 hk1 hS
          obtain ⟨hP1, hK1, hD1⟩ := hB
          rw [ht] at hP1
          have hK1 := va_K.moved hvm.symm hK1
          try dsimp only at hw
          have hJ := va_join (wr := [(s_pins, .inl (cp, 2, .inl pn)), (s_left, .inl (cl, 32, .inl ly)), (s_wishes, .inl (cw, 14, .inl wi))]) (w1 := [(h0, .inr (3, [.ref s_ids, .ref s_attributes, .ref s_permanent, .int 0, .ref s_glyphs, .int s_glyphCount, .ref s_dots, .int s_used, .ref s_wishes, .ref s_pins, .int s_id, .int s_code, .ref s_chosen, .int s_chosenKnown, .ref s_left, .ref s_coming]))]) hP hD [3] [0, 1, 2] rfl rfl (by decide) (by decide) hk1 hFc hP1 hD1
          clear hP hD hk1 hFc hP1 hD1 hz1
          obtain ⟨hP, hD⟩ := hJ
          clear hK1 ht hvm
          generalize H1 = H at hP hS ⊢
          replace hP : va_P (dC, dI) vcl [(s_pins, .inl (cp, 2, .inl pn)), (s_left, .inl (cl, 32, .inl ly)), (s_wishes, .inl (cw, 14, .inl wi)), (h0, .inr (3, [.ref s_ids, .ref s_attributes, .ref s_permanent, .int 0, .ref s_glyphs, .int s_glyphCount, .ref s_dots, .int s_used, .ref s_wishes, .ref s_pins, .int s_id, .int s_code, .ref s_chosen, .int s_chosenKnown, .ref s_left, .ref s_coming]))] H := hP
          replace hD : va_D A [(s_pins, .inl (cp, 2, .inl pn)), (s_left, .inl (cl, 32, .inl ly)), (s_wishes, .inl (cw, 14, .inl wi)), (h0, .inr (3, [.ref s_ids, .ref s_attributes, .ref s_permanent, .int 0, .ref s_glyphs, .int s_glyphCount, .ref s_dots, .int s_used, .ref s_wishes, .ref s_pins, .int s_id, .int s_code, .ref s_chosen, .int s_chosenKnown, .ref s_left, .ref s_coming]))] := hD
          obtain rfl := hw
          refine lv_pop hx hb d_FontShelf_choose_232 rfl ?_
          refine lv_aload_n hx hb d_FontShelf_choose_233 rfl (lv_at hl 0 rfl) ?_
          have hPc := hP.sub (ws' := [(h0, .inr (3, [.ref s_ids, .ref s_attributes, .ref s_permanent, .int 0, .ref s_glyphs, .int s_glyphCount, .ref s_dots, .int s_used, .ref s_wishes, .ref s_pins, .int s_id, .int s_code, .ref s_chosen, .int s_chosenKnown, .ref s_left, .ref s_coming]))]) [3] rfl
          have hDc := hD.sub (ws' := [(h0, .inr (3, [.ref s_ids, .ref s_attributes, .ref s_permanent, .int 0, .ref s_glyphs, .int s_glyphCount, .ref s_dots, .int s_used, .ref s_wishes, .ref s_pins, .int s_id, .int s_code, .ref s_chosen, .int s_chosenKnown, .ref s_left, .ref s_coming]))]) [3] (by decide) rfl
          have hKc := hK.sub (tys' := []) [] rfl
          have hFc := va_free (wc := [(h0, .inr (3, [.ref s_ids, .ref s_attributes, .ref s_permanent, .int 0, .ref s_glyphs, .int s_glyphCount, .ref s_dots, .int s_used, .ref s_wishes, .ref s_pins, .int s_id, .int s_code, .ref s_chosen, .int s_chosenKnown, .ref s_left, .ref s_coming]))]) hD hS hA [3] rfl
          refine va_calli (va_runV (As := []) (rest := []) ⟨hx, hb, hml, hown, hwd⟩ (c_lastLeft_0 l dC dI tt h0 s_ids s_attributes s_permanent s_glyphs s_glyphCount s_dots s_used s_wishes s_pins s_id s_code s_chosen s_chosenKnown s_left s_coming H.size ) (cwV 0 hwd (gV gd_FontShelf_lastLeft wd_2_94 wd_2_96 ws_17 wd_1_5) rfl rfl rfl (by decide +kernel) ⟨Nat.le_of_ble_eq_true rfl, Nat.le_of_ble_eq_true rfl⟩) ⟨fun a U g mk q => by obtain ⟨q0, q1, qP, qK, qD, qF⟩ := q; exact ⟨q0, q1, qP, va_K.moved (u := U) (U := U.calling g mk a) (Vm.Alike.refl U.vm) qK, qD, SF.same (u := U) (U := U.calling g mk a) rfl qF⟩, va_recv hKc hPc (ci := 3) (q0 := 0) rfl rfl, fun U hU hW => ⟨rfl, by rw [hU], by rw [hU]; exact hPc, va_K.moved hW.alike hKc, hDc.weaken (fun _ _ _ _ => trivial), by rw [hU]; exact SF.narrow (SF.moved hW (SF.kept hF (fun a h1 h2 => hS.2.1 a h1 h2))) hFc⟩⟩ rfl rfl hl.1 rfl (lv_room (Nat.le_of_ble_eq_true rfl)) d_FontShelf_choose_234 ⟨Nat.le_of_ble_eq_true rfl, Nat.le_of_ble_eq_true rfl⟩) hS (fun q _ h => hFc q h) hFc ?_
          clear hPc hDc hKc hS
          intro r_73 u_74 t H1 locs ht hvm hw hB hz1 hk1 hS
          obtain ⟨hP1, hK1, hD1⟩ := hB
          rw [ht] at hP1
          have hK1 := va_K.moved hvm.symm hK1
          try dsimp only at hw
          have hJ := va_join (wr := [(s_pins, .inl (cp, 2, .inl pn)), (s_left, .inl (cl, 32, .inl ly)), (s_wishes, .inl (cw, 14, .inl wi))]) (w1 := [(h0, .inr (3, [.ref s_ids, .ref s_attributes, .ref s_permanent, .int 0, .ref s_glyphs, .int s_glyphCount, .ref s_dots, .int s_used, .ref s_wishes, .ref s_pins, .int s_id, .int s_code, .ref s_chosen, .int s_chosenKnown, .ref s_left, .ref s_coming]))]) hP hD [3] [0, 1, 2] rfl rfl (by decide) (by decide) hk1 hFc hP1 hD1
          clear hP hD hk1 hFc hP1 hD1 hz1
          obtain ⟨hP, hD⟩ := hJ
          clear hK1 ht hvm
          generalize H1 = H at hP hS ⊢
          replace hP : va_P (dC, dI) vcl [(s_pins, .inl (cp, 2, .inl pn)), (s_left, .inl (cl, 32, .inl ly)), (s_wishes, .inl (cw, 14, .inl wi)), (h0, .inr (3, [.ref s_ids, .ref s_attributes, .ref s_permanent, .int 0, .ref s_glyphs, .int s_glyphCount, .ref s_dots, .int s_used, .ref s_wishes, .ref s_pins, .int s_id, .int s_code, .ref s_chosen, .int s_chosenKnown, .ref s_left, .ref s_coming]))] H := hP
          replace hD : va_D A [(s_pins, .inl (cp, 2, .inl pn)), (s_left, .inl (cl, 32, .inl ly)), (s_wishes, .inl (cw, 14, .inl wi)), (h0, .inr (3, [.ref s_ids, .ref s_attributes, .ref s_permanent, .int 0, .ref s_glyphs, .int s_glyphCount, .ref s_dots, .int s_used, .ref s_wishes, .ref s_pins, .int s_id, .int s_code, .ref s_chosen, .int s_chosenKnown, .ref s_left, .ref s_coming]))] := hD
          obtain rfl := hw
          have hP9 := hP.sub (ws' := [(h0, .inr (3, [.ref s_ids, .ref s_attributes, .ref s_permanent, .int 0, .ref s_glyphs, .int s_glyphCount, .ref s_dots, .int s_used, .ref s_wishes, .ref s_pins, .int s_id, .int s_code, .ref s_chosen, .int s_chosenKnown, .ref s_left, .ref s_coming])), (s_pins, .inl (cp, 2, .inl pn)), (s_left, .inl (cl, 32, .inl ly)), (s_wishes, .inl (cw, 14, .inl wi))]) [3, 0, 1, 2] rfl
          have hD9 := hD.sub (ws' := [(h0, .inr (3, [.ref s_ids, .ref s_attributes, .ref s_permanent, .int 0, .ref s_glyphs, .int s_glyphCount, .ref s_dots, .int s_used, .ref s_wishes, .ref s_pins, .int s_id, .int s_code, .ref s_chosen, .int s_chosenKnown, .ref s_left, .ref s_coming])), (s_pins, .inl (cp, 2, .inl pn)), (s_left, .inl (cl, 32, .inl ly)), (s_wishes, .inl (cw, 14, .inl wi))]) [3, 0, 1, 2] (by decide) rfl
          have hK9 := hK.sub (tys' := [(cp, .int), (cl, .boolean), (cw, .int)]) [0, 1, 2] rfl
          exact W.iret (v := (-1)) hx hb hr (fun t ht hW => ⟨⟨(-1), (ly), rfl, (show ((-1) : Int32) = -1 from (by first | exact trivial | rfl | simp [*])), by rw [ht]; exact hP9, va_K.moved hW.alike hK9, hD9⟩, hS.F ht⟩) hS.2.2 d_FontShelf_choose_237
      · have hlt : ii < 32 := by
          rcases Nat.lt_or_ge ii 32 with q9 | q9
          · exact q9
          · exact absurd (by rw [exx]; exact nI_le (a := 32) q9 (by omega)) c46
        refine lv_aload_n hx hb d_FontShelf_choose_49 rfl (lv_at hl 0 rfl) ?_
        refine va_get (D := (dC, dI)) (ci := 3) (v := .ref s_left) (C := R_FontShelf) (T := F_FontShelf) (N := 16) hx hb hwd i_FontShelf hown hK hP 0 rfl rfl 14 (by decide) (hwd _ wd_2_115) (fun _ h9 => h9) rfl d_FontShelf_choose_50 ?_
        refine lv_iload hx hb d_FontShelf_choose_53 (lv_at hl 3 rfl) ?_
        refine lv_iload hx hb d_FontShelf_choose_55 (lv_at hl 3 rfl) ?_
        refine lv_aload_n hx hb d_FontShelf_choose_57 rfl (lv_at hl 0 rfl) ?_
        refine va_get (D := (dC, dI)) (ci := 3) (v := .int 0) (C := R_FontShelf) (T := F_FontShelf) (N := 16) hx hb hwd i_FontShelf hown hK hP 0 rfl rfl 3 (by decide) (hwd _ wd_2_101) (fun _ h9 => h9) rfl d_FontShelf_choose_58 ?_
        refine lv_icmp_ge (tgt := 68) hx hb d_FontShelf_choose_61 (by decide) (fun c61 => ?_) (fun c61 => absurd (by rw [exx]; exact nI_pos' (by omega)) c61)
        refine lv_iconst (v := 0) hx hb d_FontShelf_choose_68 (by decide) ?_
        refine va_zast hx hb hK hP hD hS 2 1 rfl rfl (by rw [exx]; exact vp_in_nI hlt (by omega)) d_FontShelf_choose_69 ?_
        clear hP hD hS
        intro H locs hP hD hS
        rw [show xx.toNatClampNeg = ii from by rw [exx]; exact nI_clamp (by omega)] at hP hD
        rw [show vp_nar .boolean 0 = 0 by decide] at hP hD
        replace hP : va_P (dC, dI) vcl [(h0, .inr (3, [.ref s_ids, .ref s_attributes, .ref s_permanent, .int 0, .ref s_glyphs, .int s_glyphCount, .ref s_dots, .int s_used, .ref s_wishes, .ref s_pins, .int s_id, .int s_code, .ref s_chosen, .int s_chosenKnown, .ref s_left, .ref s_coming])), (s_pins, .inl (cp, 2, .inl pn)), (s_left, .inl (cl, 32, .inl (upd ly ii 0))), (s_wishes, .inl (cw, 14, .inl wi))] H := hP
        replace hD : va_D A [(h0, .inr (3, [.ref s_ids, .ref s_attributes, .ref s_permanent, .int 0, .ref s_glyphs, .int s_glyphCount, .ref s_dots, .int s_used, .ref s_wishes, .ref s_pins, .int s_id, .int s_code, .ref s_chosen, .int s_chosenKnown, .ref s_left, .ref s_coming])), (s_pins, .inl (cp, 2, .inl pn)), (s_left, .inl (cl, 32, .inl (upd ly ii 0))), (s_wishes, .inl (cw, 14, .inl wi))] := hD
        refine lv_iinc (v := xx + 1) (lv' := [(4, .int (xx + 1)), (0, .ref h0), (1, .int 0), (3, .int 0)]) hx hb d_FontShelf_choose_70 hl (k := 3) rfl rfl (by decide) rfl ?_
        clear hl
        intro ls hl
        refine lv_goto (tgt := 39) hx hb d_FontShelf_choose_73 (by decide) ?_
        exact ih (ii + 1) (xx + 1) (upd ly ii 0) (by rw [exx]; exact nI_1 ii) (by omega) (by omega) _ _ _ hK hP hD hS (lv_sub hl [1, 2, 3, 0] rfl)
  exact cut39 (33) 0 0 lf (rfl) (Nat.zero_le _) (by omega) _ _ _ hK hP hD hS (lv_sub hl [3, 4, 1, 0] rfl)

abbrev at_c_choose_0_1 (dC : Nat → ClassId) (dI : Nat → Nat → Nat) (h0 : Nat) (s_ids : Nat) (s_attributes : Nat) (s_permanent : Nat) (s_glyphs : Nat) (s_glyphCount : Int32) (s_dots : Nat) (s_used : Int32) (s_wishes : Nat) (s_pins : Nat) (s_id : Int32) (s_code : Int32) (s_chosen : Nat) (s_chosenKnown : Int32) (s_left : Nat) (s_coming : Nat) (cp : ClassId) (pn : Nat → Int32) (cl : ClassId) (lf : Nat → Int32) (cw : ClassId) (wi : Nat → Int32) (A : Nat → Prop) (u : (Nat → Int32)) (t : State) : Prop := match u with
  | lz => va_P (dC, dI) vcl [(h0, .inr (3, [.ref s_ids, .ref s_attributes, .ref s_permanent, .int 0, .ref s_glyphs, .int s_glyphCount, .ref s_dots, .int s_used, .ref s_wishes, .ref s_pins, .int s_id, .int s_code, .ref s_chosen, .int s_chosenKnown, .ref s_left, .ref s_coming])), (s_pins, .inl (cp, 2, .inl pn)), (s_left, .inl (cl, 32, .inl lz)), (s_wishes, .inl (cw, 14, .inl wi))] t.heap ∧ va_K (dC, dI) vcl [(cp, .int), (cl, .boolean), (cw, .int)] t ∧ va_D A [(h0, .inr (3, [.ref s_ids, .ref s_attributes, .ref s_permanent, .int 0, .ref s_glyphs, .int s_glyphCount, .ref s_dots, .int s_used, .ref s_wishes, .ref s_pins, .int s_id, .int s_code, .ref s_chosen, .int s_chosenKnown, .ref s_left, .ref s_coming])), (s_pins, .inl (cp, 2, .inl pn)), (s_left, .inl (cl, 32, .inl lz)), (s_wishes, .inl (cw, 14, .inl wi))]
abbrev po_c_choose_0_1 (h0 : Nat) (s_ids : Nat) (s_attributes : Nat) (s_permanent : Nat) (s_glyphs : Nat) (s_glyphCount : Int32) (s_dots : Nat) (s_used : Int32) (s_wishes : Nat) (s_pins : Nat) (s_id : Int32) (s_code : Int32) (s_chosen : Nat) (s_chosenKnown : Int32) (s_left : Nat) (s_coming : Nat) (cp : ClassId) (pn : Nat → Int32) (cl : ClassId) (lf : Nat → Int32) (cw : ClassId) (wi : Nat → Int32) (r : Int32) (u : (Nat → Int32)) : Prop := match u with
  | lz => r = -1
abbrev q_c_choose_0_1 (dC : Nat → ClassId) (dI : Nat → Nat → Nat) (h0 : Nat) (s_ids : Nat) (s_attributes : Nat) (s_permanent : Nat) (s_glyphs : Nat) (s_glyphCount : Int32) (s_dots : Nat) (s_used : Int32) (s_wishes : Nat) (s_pins : Nat) (s_id : Int32) (s_code : Int32) (s_chosen : Nat) (s_chosenKnown : Int32) (s_left : Nat) (s_coming : Nat) (cp : ClassId) (pn : Nat → Int32) (cl : ClassId) (lf : Nat → Int32) (cw : ClassId) (wi : Nat → Int32) (A : Nat → Prop) : Array Value → State → Outcome → State → Prop := va_Qi (po_c_choose_0_1 h0 s_ids s_attributes s_permanent s_glyphs s_glyphCount s_dots s_used s_wishes s_pins s_id s_code s_chosen s_chosenKnown s_left s_coming cp pn cl lf cw wi) (at_c_choose_0_1 dC dI h0 s_ids s_attributes s_permanent s_glyphs s_glyphCount s_dots s_used s_wishes s_pins s_id s_code s_chosen s_chosenKnown s_left s_coming cp pn cl lf cw wi A) A
abbrev rm_c_choose_0_1 : Room := { frames := 2, cells := 0, slots := 0, locals := 48 }
set_option maxHeartbeats 4000000 in
set_option maxRecDepth 100000 in
theorem c_choose_0_1 (l : Launch) (dC : Nat → ClassId) (dI : Nat → Nat → Nat) (tt : Nat → Nat) (h0 : Nat) (s_ids : Nat) (s_attributes : Nat) (s_permanent : Nat) (s_glyphs : Nat) (s_glyphCount : Int32) (s_dots : Nat) (s_used : Int32) (s_wishes : Nat) (s_pins : Nat) (s_id : Int32) (s_code : Int32) (s_chosen : Nat) (s_chosenKnown : Int32) (s_left : Nat) (s_coming : Nat) (cp : ClassId) (pn : Nat → Int32) (cl : ClassId) (lf : Nat → Int32) (cw : ClassId) (wi : Nat → Int32) (sz : Nat) (hp : pn 1 = -1) : Met l y_FontShelf_choose w_FontShelf_choose rm_c_choose_0_1 (va_Pc [.ref h0, .int 1] (fun U => U.heap.size = sz ∧ va_P (dC, dI) vcl [(h0, .inr (3, [.ref s_ids, .ref s_attributes, .ref s_permanent, .int 0, .ref s_glyphs, .int s_glyphCount, .ref s_dots, .int s_used, .ref s_wishes, .ref s_pins, .int s_id, .int s_code, .ref s_chosen, .int s_chosenKnown, .ref s_left, .ref s_coming])), (s_pins, .inl (cp, 2, .inl pn)), (s_left, .inl (cl, 32, .inl lf)), (s_wishes, .inl (cw, 14, .inl wi))] U.heap ∧ va_K (dC, dI) vcl [(cp, .int), (cl, .boolean), (cw, .int)] U ∧ va_D (fun _ => True) [(h0, .inr (3, [.ref s_ids, .ref s_attributes, .ref s_permanent, .int 0, .ref s_glyphs, .int s_glyphCount, .ref s_dots, .int s_used, .ref s_wishes, .ref s_pins, .int s_id, .int s_code, .ref s_chosen, .int s_chosenKnown, .ref s_left, .ref s_coming])), (s_pins, .inl (cp, 2, .inl pn)), (s_left, .inl (cl, 32, .inl lf)), (s_wishes, .inl (cw, 14, .inl wi))] ∧ SF tt (va_A [(h0, .inr (3, [.ref s_ids, .ref s_attributes, .ref s_permanent, .int 0, .ref s_glyphs, .int s_glyphCount, .ref s_dots, .int s_used, .ref s_wishes, .ref s_pins, .int s_id, .int s_code, .ref s_chosen, .int s_chosenKnown, .ref s_left, .ref s_coming])), (s_pins, .inl (cp, 2, .inl pn)), (s_left, .inl (cl, 32, .inl lf)), (s_wishes, .inl (cw, 14, .inl wi))] sz) U U.heap)) (q_c_choose_0_1 dC dI h0 s_ids s_attributes s_permanent s_glyphs s_glyphCount s_dots s_used s_wishes s_pins s_id s_code s_chosen s_chosenKnown s_left s_coming cp pn cl lf cw wi (va_A [(h0, .inr (3, [.ref s_ids, .ref s_attributes, .ref s_permanent, .int 0, .ref s_glyphs, .int s_glyphCount, .ref s_dots, .int s_used, .ref s_wishes, .ref s_pins, .int s_id, .int s_code, .ref s_chosen, .int s_chosenKnown, .ref s_left, .ref s_coming])), (s_pins, .inl (cp, 2, .inl pn)), (s_left, .inl (cl, 32, .inl lf)), (s_wishes, .inl (cw, 14, .inl wi))] sz)) 0 0 (va_A [(h0, .inr (3, [.ref s_ids, .ref s_attributes, .ref s_permanent, .int 0, .ref s_glyphs, .int s_glyphCount, .ref s_dots, .int s_used, .ref s_wishes, .ref s_pins, .int s_id, .int s_code, .ref s_chosen, .int s_chosenKnown, .ref s_left, .ref s_coming])), (s_pins, .inl (cp, 2, .inl pn)), (s_left, .inl (cl, 32, .inl lf)), (s_wishes, .inl (cw, 14, .inl wi))] sz) := by
  refine Met.ofW (cc := b_FontShelf_choose) (maxL := 5) (ret := (some .int)) (by decide) rfl ?_
  intro p e s m args below meth c s₁ B hml hv
  obtain ⟨rfl, hsz, hP, hK, hD0, hF⟩ := hv
  have hx := B.exec
  have hb := B.bytes
  have hr := B.returns
  have hwd : ∀ w ∈ gT, w.before _ s = true := fun w h => atoms_spec (ws := w_FontShelf_choose) B.pre w (List.mem_cons_of_mem _ h)
  have hown : s.vm.findClass R_FontShelf = some m.cls := findClass_of_methodNamed B.named
  have hlocks := B.notSynchronized
  subst hsz
  have hD := hD0.self (sz := s.heap.size)
  generalize hAe : va_A [(h0, .inr (3, [.ref s_ids, .ref s_attributes, .ref s_permanent, .int 0, .ref s_glyphs, .int s_glyphCount, .ref s_dots, .int s_used, .ref s_wishes, .ref s_pins, .int s_id, .int s_code, .ref s_chosen, .int s_chosenKnown, .ref s_left, .ref s_coming])), (s_pins, .inl (cp, 2, .inl pn)), (s_left, .inl (cl, 32, .inl lf)), (s_wishes, .inl (cw, 14, .inl wi))] s.heap.size = A at hD hF ⊢
  have hA : ∀ q : Nat, s.heap.size ≤ q → A q := fun q h => by rw [← hAe]; exact Or.inr h
  have hS : va_S A s.heap s.heap [] := va_S.rf
  have hP : va_P (dC, dI) vcl [(h0, .inr (3, [.ref s_ids, .ref s_attributes, .ref s_permanent, .int 0, .ref s_glyphs, .int s_glyphCount, .ref s_dots, .int s_used, .ref s_wishes, .ref s_pins, .int s_id, .int s_code, .ref s_chosen, .int s_chosenKnown, .ref s_left, .ref s_coming])), (s_pins, .inl (cp, 2, .inl pn)), (s_left, .inl (cl, 32, .inl lf)), (s_wishes, .inl (cw, 14, .inl wi))] s.heap := hP
  have hl := lv_entry ([.ref h0, .int 1]) (n := 5) (Nat.le_of_ble_eq_true rfl)
  rw [lg_entry_eq]
  generalize (lg_sl ([.ref h0, .int 1]) ++ List.replicate (5 - (lg_sl ([.ref h0, .int 1])).length) Slot.unset).toArray = ls at hl ⊢
  have hl : lv_has ls 5 [(0, .ref h0), (1, .int 1)] := hl
  refine lv_aload_n hx hb d_FontShelf_choose_0 rfl (lv_at hl 0 rfl) ?_
  refine va_get (D := (dC, dI)) (ci := 3) (v := .ref s_pins) (C := R_FontShelf) (T := F_FontShelf) (N := 16) hx hb hwd i_FontShelf hown hK hP 0 rfl rfl 9 (by decide) (hwd _ wd_2_110) (fun _ h9 => h9) rfl d_FontShelf_choose_1 ?_
  refine lv_iload_n hx hb d_FontShelf_choose_4 rfl (lv_at hl 1 rfl) ?_
  refine va_iald hx hb hK hP 1 0 rfl rfl (show ¬ ((1 : Int32) < 0 ∨ 2 ≤ (1 : Int32).toNatClampNeg) by decide) d_FontShelf_choose_5 ?_
  refine lv_topi (fun y_1 ey_1 => ?_)
  obtain rfl : y_1 = pn 1 := ey_1.trans (by rw [show (1 : Int32).toNatClampNeg = 1 by decide])
  refine lv_iconst (v := (-1)) hx hb d_FontShelf_choose_6 (by decide) ?_
  refine lv_icmp_ne (tgt := 14) hx hb d_FontShelf_choose_7 (by decide) (fun c7 => absurd c7 (fun h => h hp)) (fun c7 => ?_)
  refine lv_iconst (v := (-1)) hx hb d_FontShelf_choose_10 (by decide) ?_
  refine lv_goto (tgt := 24) hx hb d_FontShelf_choose_11 (by decide) ?_
  refine lv_istore_n (lv' := [(2, .int (-1)), (0, .ref h0), (1, .int 1)]) hx hb d_FontShelf_choose_24 rfl hl (by decide) rfl ?_
  clear hl
  intro ls hl
  refine lv_iload_n hx hb d_FontShelf_choose_25 rfl (lv_at hl 0 rfl) ?_
  refine lv_if_lt (tgt := 31) hx hb d_FontShelf_choose_26 (by decide) (fun _ => ?_) (fun c26 => absurd (by decide) c26)
  refine lv_iload_n hx hb d_FontShelf_choose_31 rfl (lv_at hl 2 rfl) ?_
  refine lv_bipush (v := 7) hx hb d_FontShelf_choose_32 (by decide) ?_
  refine lv_imul hx hb d_FontShelf_choose_34 ?_
  refine lv_topi (fun y_2 ey_2 => ?_)
  obtain rfl : y_2 = (7 : Int32) := ey_2.trans (by decide)
  refine lv_istore_n (lv' := [(3, .int 7), (2, .int (-1)), (0, .ref h0), (1, .int 1)]) hx hb d_FontShelf_choose_35 rfl hl (by decide) rfl ?_
  clear hl
  intro ls hl
  refine lv_iconst (v := 0) hx hb d_FontShelf_choose_36 (by decide) ?_
  refine lv_istore (lv' := [(4, .int 0), (3, .int 7), (2, .int (-1)), (0, .ref h0), (1, .int 1)]) hx hb d_FontShelf_choose_37 hl (by decide) rfl ?_
  clear hl
  intro ls hl
  have cut39 : ∀ (n : Nat) (ii : Nat) (xx : Int32) (ly : Nat → Int32), (xx = nI ii) → (ii ≤ 32) → (32 < ii + n) → ∀ (H : Heap) (locs : List Loc) (ls : Array Slot), va_K (dC, dI) vcl [(cp, .int), (cl, .boolean), (cw, .int)] s → va_P (dC, dI) vcl [(h0, .inr (3, [.ref s_ids, .ref s_attributes, .ref s_permanent, .int 0, .ref s_glyphs, .int s_glyphCount, .ref s_dots, .int s_used, .ref s_wishes, .ref s_pins, .int s_id, .int s_code, .ref s_chosen, .int s_chosenKnown, .ref s_left, .ref s_coming])), (s_pins, .inl (cp, 2, .inl pn)), (s_left, .inl (cl, 32, .inl ly)), (s_wishes, .inl (cw, 14, .inl wi))] H → va_D A [(h0, .inr (3, [.ref s_ids, .ref s_attributes, .ref s_permanent, .int 0, .ref s_glyphs, .int s_glyphCount, .ref s_dots, .int s_used, .ref s_wishes, .ref s_pins, .int s_id, .int s_code, .ref s_chosen, .int s_chosenKnown, .ref s_left, .ref s_coming])), (s_pins, .inl (cp, 2, .inl pn)), (s_left, .inl (cl, 32, .inl ly)), (s_wishes, .inl (cw, 14, .inl wi))] → va_S A s.heap H locs → lv_has ls 5 [(0, .ref h0), (1, .int 1), (3, .int 7), (4, .int xx)] → W p l e (headSpec w_FontShelf_choose rm_c_choose_0_1).room s m (List.toArray [.ref h0, .int 1]) below meth c H locs 0 0 (MQ below (q_c_choose_0_1 dC dI h0 s_ids s_attributes s_permanent s_glyphs s_glyphCount s_dots s_used s_wishes s_pins s_id s_code s_chosen s_chosenKnown s_left s_coming cp pn cl lf cw wi A) (List.toArray [.ref h0, .int 1]) s 0 0 A) (F0 m 39 ls []) := by
    intro n
    induction n with
    | zero =>
      intro ii xx ly exx hii hm
      exact absurd hm (by omega)
    | succ n ih =>
      intro ii xx ly exx hii hm H locs ls hK hP hD hS hl
      refine lv_iload hx hb d_FontShelf_choose_39 (lv_at hl 3 rfl) ?_
      refine lv_aload_n hx hb d_FontShelf_choose_41 rfl (lv_at hl 0 rfl) ?_
      refine va_get (D := (dC, dI)) (ci := 3) (v := .ref s_left) (C := R_FontShelf) (T := F_FontShelf) (N := 16) hx hb hwd i_FontShelf hown hK hP 0 rfl rfl 14 (by decide) (hwd _ wd_2_115) (fun _ h9 => h9) rfl d_FontShelf_choose_42 ?_
      refine va_alen (v := 32) hx hb hK hP 2 1 rfl rfl rfl d_FontShelf_choose_45 ?_
      refine lv_icmp_ge (tgt := 76) hx hb d_FontShelf_choose_46 (by decide) (fun c46 => ?_) (fun c46 => ?_)
      · refine lv_aload_n hx hb d_FontShelf_choose_76 rfl (lv_at hl 0 rfl) ?_
        refine lv_iconst (v := 0) hx hb d_FontShelf_choose_77 (by decide) ?_
        refine lv_aload_n hx hb d_FontShelf_choose_78 rfl (lv_at hl 0 rfl) ?_
        refine va_get (D := (dC, dI)) (ci := 3) (v := .ref s_wishes) (C := R_FontShelf) (T := F_FontShelf) (N := 16) hx hb hwd i_FontShelf hown hK hP 0 rfl rfl 8 (by decide) (hwd _ wd_2_109) (fun _ h9 => h9) rfl d_FontShelf_choose_79 ?_
        refine lv_iload_n hx hb d_FontShelf_choose_82 rfl (lv_at hl 2 rfl) ?_
        refine lv_iconst (v := 0) hx hb d_FontShelf_choose_83 (by decide) ?_
        refine lv_iadd hx hb d_FontShelf_choose_84 ?_
        refine lv_topi (fun y_3 ey_3 => ?_)
        obtain rfl : y_3 = (7 : Int32) := ey_3.trans (by decide)
        refine va_iald hx hb hK hP 3 2 rfl rfl (show ¬ ((7 : Int32) < 0 ∨ 14 ≤ (7 : Int32).toNatClampNeg) by decide) d_FontShelf_choose_85 ?_
        refine lv_topi (fun y_4 ey_4 => ?_)
        obtain rfl : y_4 = wi 7 := ey_4.trans (by rw [show (7 : Int32).toNatClampNeg = 7 by decide])
        have hPc := hP.sub (ws' := [(h0, .inr (3, [.ref s_ids, .ref s_attributes, .ref s_permanent, .int 0, .ref s_glyphs, .int s_glyphCount, .ref s_dots, .int s_used, .ref s_wishes, .ref s_pins, .int s_id, .int s_code, .ref s_chosen, .int s_chosenKnown, .ref s_left, .ref s_coming]))]) [0] rfl
        have hDc := hD.sub (ws' := [(h0, .inr (3, [.ref s_ids, .ref s_attributes, .ref s_permanent, .int 0, .ref s_glyphs, .int s_glyphCount, .ref s_dots, .int s_used, .ref s_wishes, .ref s_pins, .int s_id, .int s_code, .ref s_chosen, .int s_chosenKnown, .ref s_left, .ref s_coming]))]) [0] (by decide) rfl
        have hKc := hK.sub (tys' := []) [] rfl
        have hFc := va_free (wc := [(h0, .inr (3, [.ref s_ids, .ref s_attributes, .ref s_permanent, .int 0, .ref s_glyphs, .int s_glyphCount, .ref s_dots, .int s_used, .ref s_wishes, .ref s_pins, .int s_id, .int s_code, .ref s_chosen, .int s_chosenKnown, .ref s_left, .ref s_coming]))]) hD hS hA [0] rfl
        refine va_calli (va_runV (As := [.int 0, .int (wi 7)]) (rest := []) ⟨hx, hb, hml, hown, hwd⟩ (c_keepThose_0 l dC dI tt h0 s_ids s_attributes s_permanent s_glyphs s_glyphCount s_dots s_used s_wishes s_pins s_id s_code s_chosen s_chosenKnown s_left s_coming 0 (wi 7) H.size ) (cwV 2 hwd (gV gd_FontShelf_keepThose wd_2_53 wd_2_55 ws_8 wd_1_5) rfl rfl rfl (by decide +kernel) ⟨Nat.le_of_ble_eq_true rfl, Nat.le_of_ble_eq_true rfl⟩) ⟨fun a U g mk q => by obtain ⟨q0, q1, qP, qK, qD, qF⟩ := q; exact ⟨q0, q1, qP, va_K.moved (u := U) (U := U.calling g mk a) (Vm.Alike.refl U.vm) qK, qD, SF.same (u := U) (U := U.calling g mk a) rfl qF⟩, va_recv hKc hPc (ci := 3) (q0 := 0) rfl rfl, fun U hU hW => ⟨rfl, by rw [hU], by rw [hU]; exact hPc, va_K.moved hW.alike hKc, hDc.weaken (fun _ _ _ _ => trivial), by rw [hU]; exact SF.narrow (SF.moved hW (SF.kept hF (fun a h1 h2 => hS.2.1 a h1 h2))) hFc⟩⟩ rfl rfl hl.1 rfl (lv_room (Nat.le_of_ble_eq_true rfl)) d_FontShelf_choose_86 ⟨Nat.le_of_ble_eq_true rfl, Nat.le_of_ble_eq_true rfl⟩) hS (fun q _ h => hFc q h) hFc ?_
        clear hPc hDc hKc hS
        intro r_5 u_6 t H1 locs ht hvm hw hB hz1 hk1 hS
        obtain ⟨hP1, hK1, hD1⟩ := hB
        rw [ht] at hP1
        have hK1 := va_K.moved hvm.symm hK1
        try dsimp only at hw
        have hJ := va_join (wr := [(s_pins, .inl (cp, 2, .inl pn)), (s_left, .inl (cl, 32, .inl ly)), (s_wishes, .inl (cw, 14, .inl wi))]) (w1 := [(h0, .inr (3, [.ref s_ids, .ref s_attributes, .ref s_permanent, .int 0, .ref s_glyphs, .int s_glyphCount, .ref s_dots, .int s_used, .ref s_wishes, .ref s_pins, .int s_id, .int s_code, .ref s_chosen, .int s_chosenKnown, .ref s_left, .ref s_coming]))]) hP hD [0] [1, 2, 3] rfl rfl (by decide) (by decide) hk1 hFc hP1 hD1
        clear hP hD hk1 hFc hP1 hD1 hz1
        obtain ⟨hP, hD⟩ := hJ
        clear hK1 ht hvm
        generalize H1 = H at hP hS ⊢
        replace hP : va_P (dC, dI) vcl [(s_pins, .inl (cp, 2, .inl pn)), (s_left, .inl (cl, 32, .inl ly)), (s_wishes, .inl (cw, 14, .inl wi)), (h0, .inr (3, [.ref s_ids, .ref s_attributes, .ref s_permanent, .int 0, .ref s_glyphs, .int s_glyphCount, .ref s_dots, .int s_used, .ref s_wishes, .ref s_pins, .int s_id, .int s_code, .ref s_chosen, .int s_chosenKnown, .ref s_left, .ref s_coming]))] H := hP
        replace hD : va_D A [(s_pins, .inl (cp, 2, .inl pn)), (s_left, .inl (cl, 32, .inl ly)), (s_wishes, .inl (cw, 14, .inl wi)), (h0, .inr (3, [.ref s_ids, .ref s_attributes, .ref s_permanent, .int 0, .ref s_glyphs, .int s_glyphCount, .ref s_dots, .int s_used, .ref s_wishes, .ref s_pins, .int s_id, .int s_code, .ref s_chosen, .int s_chosenKnown, .ref s_left, .ref s_coming]))] := hD
        obtain rfl := hw
        refine lv_if_ne (tgt := 101) hx hb d_FontShelf_choose_89 (by decide) (fun c89 => absurd c89 (by decide)) (fun _ => ?_)
        refine lv_aload_n hx hb d_FontShelf_choose_92 rfl (lv_at hl 0 rfl) ?_
        refine lv_iconst (v := 0) hx hb d_FontShelf_choose_93 (by decide) ?_
        refine lv_sipush (v := 277) hx hb d_FontShelf_choose_94 (by decide) ?_
        have hPc := hP.sub (ws' := [(h0, .inr (3, [.ref s_ids, .ref s_attributes, .ref s_permanent, .int 0, .ref s_glyphs, .int s_glyphCount, .ref s_dots, .int s_used, .ref s_wishes, .ref s_pins, .int s_id, .int s_code, .ref s_chosen, .int s_chosenKnown, .ref s_left, .ref s_coming]))]) [3] rfl
        have hDc := hD.sub (ws' := [(h0, .inr (3, [.ref s_ids, .ref s_attributes, .ref s_permanent, .int 0, .ref s_glyphs, .int s_glyphCount, .ref s_dots, .int s_used, .ref s_wishes, .ref s_pins, .int s_id, .int s_code, .ref s_chosen, .int s_chosenKnown, .ref s_left, .ref s_coming]))]) [3] (by decide) rfl
        have hKc := hK.sub (tys' := []) [] rfl
        have hFc := va_free (wc := [(h0, .inr (3, [.ref s_ids, .ref s_attributes, .ref s_permanent, .int 0, .ref s_glyphs, .int s_glyphCount, .ref s_dots, .int s_used, .ref s_wishes, .ref s_pins, .int s_id, .int s_code, .ref s_chosen, .int s_chosenKnown, .ref s_left, .ref s_coming]))]) hD hS hA [3] rfl
        refine va_calli (va_runV (As := [.int 0, .int 277]) (rest := []) ⟨hx, hb, hml, hown, hwd⟩ (c_keepThose_0 l dC dI tt h0 s_ids s_attributes s_permanent s_glyphs s_glyphCount s_dots s_used s_wishes s_pins s_id s_code s_chosen s_chosenKnown s_left s_coming 0 277 H.size ) (cwV 2 hwd (gV gd_FontShelf_keepThose wd_2_53 wd_2_55 ws_8 wd_1_5) rfl rfl rfl (by decide +kernel) ⟨Nat.le_of_ble_eq_true rfl, Nat.le_of_ble_eq_true rfl⟩) ⟨fun a U g mk q => by obtain ⟨q0, q1, qP, qK, qD, qF⟩ := q; exact ⟨q0, q1, qP, va_K.moved (u := U) (U := U.calling g mk a) (Vm.Alike.refl U.vm) qK, qD, SF.same (u := U) (U := U.calling g mk a) rfl qF⟩, va_recv hKc hPc (ci := 3) (q0 := 0) rfl rfl, fun U hU hW => ⟨rfl, by rw [hU], by rw [hU]; exact hPc, va_K.moved hW.alike hKc, hDc.weaken (fun _ _ _ _ => trivial), by rw [hU]; exact SF.narrow (SF.moved hW (SF.kept hF (fun a h1 h2 => hS.2.1 a h1 h2))) hFc⟩⟩ rfl rfl hl.1 rfl (lv_room (Nat.le_of_ble_eq_true rfl)) d_FontShelf_choose_97 ⟨Nat.le_of_ble_eq_true rfl, Nat.le_of_ble_eq_true rfl⟩) hS (fun q _ h => hFc q h) hFc ?_
        clear hPc hDc hKc hS
        intro r_7 u_8 t H1 locs ht hvm hw hB hz1 hk1 hS
        obtain ⟨hP1, hK1, hD1⟩ := hB
        rw [ht] at hP1
        have hK1 := va_K.moved hvm.symm hK1
        try dsimp only at hw
        have hJ := va_join (wr := [(s_pins, .inl (cp, 2, .inl pn)), (s_left, .inl (cl, 32, .inl ly)), (s_wishes, .inl (cw, 14, .inl wi))]) (w1 := [(h0, .inr (3, [.ref s_ids, .ref s_attributes, .ref s_permanent, .int 0, .ref s_glyphs, .int s_glyphCount, .ref s_dots, .int s_used, .ref s_wishes, .ref s_pins, .int s_id, .int s_code, .ref s_chosen, .int s_chosenKnown, .ref s_left, .ref s_coming]))]) hP hD [3] [0, 1, 2] rfl rfl (by decide) (by decide) hk1 hFc hP1 hD1
        clear hP hD hk1 hFc hP1 hD1 hz1
        obtain ⟨hP, hD⟩ := hJ
        clear hK1 ht hvm
        generalize H1 = H at hP hS ⊢
        replace hP : va_P (dC, dI) vcl [(s_pins, .inl (cp, 2, .inl pn)), (s_left, .inl (cl, 32, .inl ly)), (s_wishes, .inl (cw, 14, .inl wi)), (h0, .inr (3, [.ref s_ids, .ref s_attributes, .ref s_permanent, .int 0, .ref s_glyphs, .int s_glyphCount, .ref s_dots, .int s_used, .ref s_wishes, .ref s_pins, .int s_id, .int s_code, .ref s_chosen, .int s_chosenKnown, .ref s_left, .ref s_coming]))] H := hP
        replace hD : va_D A [(s_pins, .inl (cp, 2, .inl pn)), (s_left, .inl (cl, 32, .inl ly)), (s_wishes, .inl (cw, 14, .inl wi)), (h0, .inr (3, [.ref s_ids, .ref s_attributes, .ref s_permanent, .int 0, .ref s_glyphs, .int s_glyphCount, .ref s_dots, .int s_used, .ref s_wishes, .ref s_pins, .int s_id, .int s_code, .ref s_chosen, .int s_chosenKnown, .ref s_left, .ref s_coming]))] := hD
        obtain rfl := hw
        refine lv_pop hx hb d_FontShelf_choose_100 rfl ?_
        refine lv_aload_n hx hb d_FontShelf_choose_101 rfl (lv_at hl 0 rfl) ?_
        refine lv_iconst (v := 1) hx hb d_FontShelf_choose_102 (by decide) ?_
        refine lv_aload_n hx hb d_FontShelf_choose_103 rfl (lv_at hl 0 rfl) ?_
        refine va_get (D := (dC, dI)) (ci := 3) (v := .ref s_wishes) (C := R_FontShelf) (T := F_FontShelf) (N := 16) hx hb hwd i_FontShelf hown hK hP 3 rfl rfl 8 (by decide) (hwd _ wd_2_109) (fun _ h9 => h9) rfl d_FontShelf_choose_104 ?_
        refine lv_iload_n hx hb d_FontShelf_choose_107 rfl (lv_at hl 2 rfl) ?_
        refine lv_iconst (v := 1) hx hb d_FontShelf_choose_108 (by decide) ?_
        refine lv_iadd hx hb d_FontShelf_choose_109 ?_
        refine lv_topi (fun y_9 ey_9 => ?_)
        obtain rfl : y_9 = (8 : Int32) := ey_9.trans (by decide)
        refine va_iald hx hb hK hP 2 2 rfl rfl (show ¬ ((8 : Int32) < 0 ∨ 14 ≤ (8 : Int32).toNatClampNeg) by decide) d_FontShelf_choose_110 ?_
        refine lv_topi (fun y_10 ey_10 => ?_)
        obtain rfl : y_10 = wi 8 := ey_10.trans (by rw [show (8 : Int32).toNatClampNeg = 8 by decide])
        have hPc := hP.sub (ws' := [(h0, .inr (3, [.ref s_ids, .ref s_attributes, .ref s_permanent, .int 0, .ref s_glyphs, .int s_glyphCount, .ref s_dots, .int s_used, .ref s_wishes, .ref s_pins, .int s_id, .int s_code, .ref s_chosen, .int s_chosenKnown, .ref s_left, .ref s_coming]))]) [3] rfl
        have hDc := hD.sub (ws' := [(h0, .inr (3, [.ref s_ids, .ref s_attributes, .ref s_permanent, .int 0, .ref s_glyphs, .int s_glyphCount, .ref s_dots, .int s_used, .ref s_wishes, .ref s_pins, .int s_id, .int s_code, .ref s_chosen, .int s_chosenKnown, .ref s_left, .ref s_coming]))]) [3] (by decide) rfl
        have hKc := hK.sub (tys' := []) [] rfl
        have hFc := va_free (wc := [(h0, .inr (3, [.ref s_ids, .ref s_attributes, .ref s_permanent, .int 0, .ref s_glyphs, .int s_glyphCount, .ref s_dots, .int s_used, .ref s_wishes, .ref s_pins, .int s_id, .int s_code, .ref s_chosen, .int s_chosenKnown, .ref s_left, .ref s_coming]))]) hD hS hA [3] rfl
        refine va_calli (va_runV (As := [.int 1, .int (wi 8)]) (rest := []) ⟨hx, hb, hml, hown, hwd⟩ (c_keepThose_0 l dC dI tt h0 s_ids s_attributes s_permanent s_glyphs s_glyphCount s_dots s_used s_wishes s_pins s_id s_code s_chosen s_chosenKnown s_left s_coming 1 (wi 8) H.size ) (cwV 2 hwd (gV gd_FontShelf_keepThose wd_2_53 wd_2_55 ws_8 wd_1_5) rfl rfl rfl (by decide +kernel) ⟨Nat.le_of_ble_eq_true rfl, Nat.le_of_ble_eq_true rfl⟩) ⟨fun a U g mk q => by obtain ⟨q0, q1, qP, qK, qD, qF⟩ := q; exact ⟨q0, q1, qP, va_K.moved (u := U) (U := U.calling g mk a) (Vm.Alike.refl U.vm) qK, qD, SF.same (u := U) (U := U.calling g mk a) rfl qF⟩, va_recv hKc hPc (ci := 3) (q0 := 0) rfl rfl, fun U hU hW => ⟨rfl, by rw [hU], by rw [hU]; exact hPc, va_K.moved hW.alike hKc, hDc.weaken (fun _ _ _ _ => trivial), by rw [hU]; exact SF.narrow (SF.moved hW (SF.kept hF (fun a h1 h2 => hS.2.1 a h1 h2))) hFc⟩⟩ rfl rfl hl.1 rfl (lv_room (Nat.le_of_ble_eq_true rfl)) d_FontShelf_choose_111 ⟨Nat.le_of_ble_eq_true rfl, Nat.le_of_ble_eq_true rfl⟩) hS (fun q _ h => hFc q h) hFc ?_
        clear hPc hDc hKc hS
        intro r_11 u_12 t H1 locs ht hvm hw hB hz1 hk1 hS
        obtain ⟨hP1, hK1, hD1⟩ := hB
        rw [ht] at hP1
        have hK1 := va_K.moved hvm.symm hK1
        try dsimp only at hw
        have hJ := va_join (wr := [(s_pins, .inl (cp, 2, .inl pn)), (s_left, .inl (cl, 32, .inl ly)), (s_wishes, .inl (cw, 14, .inl wi))]) (w1 := [(h0, .inr (3, [.ref s_ids, .ref s_attributes, .ref s_permanent, .int 0, .ref s_glyphs, .int s_glyphCount, .ref s_dots, .int s_used, .ref s_wishes, .ref s_pins, .int s_id, .int s_code, .ref s_chosen, .int s_chosenKnown, .ref s_left, .ref s_coming]))]) hP hD [3] [0, 1, 2] rfl rfl (by decide) (by decide) hk1 hFc hP1 hD1
        clear hP hD hk1 hFc hP1 hD1 hz1
        obtain ⟨hP, hD⟩ := hJ
        clear hK1 ht hvm
        generalize H1 = H at hP hS ⊢
        replace hP : va_P (dC, dI) vcl [(s_pins, .inl (cp, 2, .inl pn)), (s_left, .inl (cl, 32, .inl ly)), (s_wishes, .inl (cw, 14, .inl wi)), (h0, .inr (3, [.ref s_ids, .ref s_attributes, .ref s_permanent, .int 0, .ref s_glyphs, .int s_glyphCount, .ref s_dots, .int s_used, .ref s_wishes, .ref s_pins, .int s_id, .int s_code, .ref s_chosen, .int s_chosenKnown, .ref s_left, .ref s_coming]))] H := hP
        replace hD : va_D A [(s_pins, .inl (cp, 2, .inl pn)), (s_left, .inl (cl, 32, .inl ly)), (s_wishes, .inl (cw, 14, .inl wi)), (h0, .inr (3, [.ref s_ids, .ref s_attributes, .ref s_permanent, .int 0, .ref s_glyphs, .int s_glyphCount, .ref s_dots, .int s_used, .ref s_wishes, .ref s_pins, .int s_id, .int s_code, .ref s_chosen, .int s_chosenKnown, .ref s_left, .ref s_coming]))] := hD
        obtain rfl := hw
        refine lv_pop hx hb d_FontShelf_choose_114 rfl ?_
        refine lv_aload_n hx hb d_FontShelf_choose_115 rfl (lv_at hl 0 rfl) ?_
        refine va_get (D := (dC, dI)) (ci := 3) (v := .ref s_wishes) (C := R_FontShelf) (T := F_FontShelf) (N := 16) hx hb hwd i_FontShelf hown hK hP 3 rfl rfl 8 (by decide) (hwd _ wd_2_109) (fun _ h9 => h9) rfl d_FontShelf_choose_116 ?_
        refine lv_iload_n hx hb d_FontShelf_choose_119 rfl (lv_at hl 2 rfl) ?_
        refine lv_iconst (v := 1) hx hb d_FontShelf_choose_120 (by decide) ?_
        refine lv_iadd hx hb d_FontShelf_choose_121 ?_
        refine lv_topi (fun y_13 ey_13 => ?_)
        obtain rfl : y_13 = (8 : Int32) := ey_13.trans (by decide)
        refine va_iald hx hb hK hP 2 2 rfl rfl (show ¬ ((8 : Int32) < 0 ∨ 14 ≤ (8 : Int32).toNatClampNeg) by decide) d_FontShelf_choose_122 ?_
        refine lv_topi (fun y_14 ey_14 => ?_)
        obtain rfl : y_14 = wi 8 := ey_14.trans (by rw [show (8 : Int32).toNatClampNeg = 8 by decide])
        refine lv_if_ne (tgt := 151) hx hb d_FontShelf_choose_123 (by decide) (fun c123 => ?_) (fun c123 => ?_)
        · refine lv_aload_n hx hb d_FontShelf_choose_151 rfl (lv_at hl 0 rfl) ?_
          refine lv_iconst (v := 3) hx hb d_FontShelf_choose_152 (by decide) ?_
          refine lv_aload_n hx hb d_FontShelf_choose_153 rfl (lv_at hl 0 rfl) ?_
          refine lv_aload_n hx hb d_FontShelf_choose_154 rfl (lv_at hl 0 rfl) ?_
          refine va_get (D := (dC, dI)) (ci := 3) (v := .ref s_wishes) (C := R_FontShelf) (T := F_FontShelf) (N := 16) hx hb hwd i_FontShelf hown hK hP 3 rfl rfl 8 (by decide) (hwd _ wd_2_109) (fun _ h9 => h9) rfl d_FontShelf_choose_155 ?_
          refine lv_iload_n hx hb d_FontShelf_choose_158 rfl (lv_at hl 2 rfl) ?_
          refine lv_iconst (v := 3) hx hb d_FontShelf_choose_159 (by decide) ?_
          refine lv_iadd hx hb d_FontShelf_choose_160 ?_
          refine lv_topi (fun y_15 ey_15 => ?_)
          obtain rfl : y_15 = (10 : Int32) := ey_15.trans (by decide)
          refine va_iald hx hb hK hP 2 2 rfl rfl (show ¬ ((10 : Int32) < 0 ∨ 14 ≤ (10 : Int32).toNatClampNeg) by decide) d_FontShelf_choose_161 ?_
          refine lv_topi (fun y_16 ey_16 => ?_)
          obtain rfl : y_16 = wi 10 := ey_16.trans (by rw [show (10 : Int32).toNatClampNeg = 10 by decide])
          have hPc := hP.sub (ws' := [(h0, .inr (3, [.ref s_ids, .ref s_attributes, .ref s_permanent, .int 0, .ref s_glyphs, .int s_glyphCount, .ref s_dots, .int s_used, .ref s_wishes, .ref s_pins, .int s_id, .int s_code, .ref s_chosen, .int s_chosenKnown, .ref s_left, .ref s_coming]))]) [3] rfl
          have hDc := hD.sub (ws' := [(h0, .inr (3, [.ref s_ids, .ref s_attributes, .ref s_permanent, .int 0, .ref s_glyphs, .int s_glyphCount, .ref s_dots, .int s_used, .ref s_wishes, .ref s_pins, .int s_id, .int s_code, .ref s_chosen, .int s_chosenKnown, .ref s_left, .ref s_coming]))]) [3] (by decide) rfl
          have hKc := hK.sub (tys' := []) [] rfl
          have hFc := va_free (wc := [(h0, .inr (3, [.ref s_ids, .ref s_attributes, .ref s_permanent, .int 0, .ref s_glyphs, .int s_glyphCount, .ref s_dots, .int s_used, .ref s_wishes, .ref s_pins, .int s_id, .int s_code, .ref s_chosen, .int s_chosenKnown, .ref s_left, .ref s_coming]))]) hD hS hA [3] rfl
          refine va_calli (va_runV (As := [.int (wi 10)]) (rest := [.int 3, .ref h0]) ⟨hx, hb, hml, hown, hwd⟩ (c_nearestHeight_0 l dC dI tt h0 s_ids s_attributes s_permanent s_glyphs s_glyphCount s_dots s_used s_wishes s_pins s_id s_code s_chosen s_chosenKnown s_left s_coming (wi 10) H.size ) (cwV 1 hwd (gV gd_FontShelf_nearestHeight wd_2_79 wd_2_81 ws_14 wd_1_5) rfl rfl rfl (by decide +kernel) ⟨Nat.le_of_ble_eq_true rfl, Nat.le_of_ble_eq_true rfl⟩) ⟨fun a U g mk q => by obtain ⟨q0, q1, qP, qK, qD, qF⟩ := q; exact ⟨q0, q1, qP, va_K.moved (u := U) (U := U.calling g mk a) (Vm.Alike.refl U.vm) qK, qD, SF.same (u := U) (U := U.calling g mk a) rfl qF⟩, va_recv hKc hPc (ci := 3) (q0 := 0) rfl rfl, fun U hU hW => ⟨rfl, by rw [hU], by rw [hU]; exact hPc, va_K.moved hW.alike hKc, hDc.weaken (fun _ _ _ _ => trivial), by rw [hU]; exact SF.narrow (SF.moved hW (SF.kept hF (fun a h1 h2 => hS.2.1 a h1 h2))) hFc⟩⟩ rfl rfl hl.1 rfl (lv_room (Nat.le_of_ble_eq_true rfl)) d_FontShelf_choose_162 ⟨Nat.le_of_ble_eq_true rfl, Nat.le_of_ble_eq_true rfl⟩) hS (fun q _ h => hFc q h) hFc ?_
          clear hPc hDc hKc hS
          intro r_17 u_18 t H1 locs ht hvm hw hB hz1 hk1 hS
          obtain ⟨hP1, hK1, hD1⟩ := hB
          rw [ht] at hP1
          have hK1 := va_K.moved hvm.symm hK1
          try dsimp only at hw
          have hJ := va_join (wr := [(s_pins, .inl (cp, 2, .inl pn)), (s_left, .inl (cl, 32, .inl ly)), (s_wishes, .inl (cw, 14, .inl wi))]) (w1 := [(h0, .inr (3, [.ref s_ids, .ref s_attributes, .ref s_permanent, .int 0, .ref s_glyphs, .int s_glyphCount, .ref s_dots, .int s_used, .ref s_wishes, .ref s_pins, .int s_id, .int s_code, .ref s_chosen, .int s_chosenKnown, .ref s_left, .ref s_coming]))]) hP hD [3] [0, 1, 2] rfl rfl (by decide) (by decide) hk1 hFc hP1 hD1
          clear hP hD hk1 hFc hP1 hD1 hz1
          obtain ⟨hP, hD⟩ := hJ
          clear hK1 ht hvm
          generalize H1 = H at hP hS ⊢
          replace hP : va_P (dC, dI) vcl [(s_pins, .inl (cp, 2, .inl pn)), (s_left, .inl (cl, 32, .inl ly)), (s_wishes, .inl (cw, 14, .inl wi)), (h0, .inr (3, [.ref s_ids, .ref s_attributes, .ref s_permanent, .int 0, .ref s_glyphs, .int s_glyphCount, .ref s_dots, .int s_used, .ref s_wishes, .ref s_pins, .int s_id, .int s_code, .ref s_chosen, .int s_chosenKnown, .ref s_left, .ref s_coming]))] H := hP
          replace hD : va_D A [(s_pins, .inl (cp, 2, .inl pn)), (s_left, .inl (cl, 32, .inl ly)), (s_wishes, .inl (cw, 14, .inl wi)), (h0, .inr (3, [.ref s_ids, .ref s_attributes, .ref s_permanent, .int 0, .ref s_glyphs, .int s_glyphCount, .ref s_dots, .int s_used, .ref s_wishes, .ref s_pins, .int s_id, .int s_code, .ref s_chosen, .int s_chosenKnown, .ref s_left, .ref s_coming]))] := hD
          obtain rfl := hw
          have hPc := hP.sub (ws' := [(h0, .inr (3, [.ref s_ids, .ref s_attributes, .ref s_permanent, .int 0, .ref s_glyphs, .int s_glyphCount, .ref s_dots, .int s_used, .ref s_wishes, .ref s_pins, .int s_id, .int s_code, .ref s_chosen, .int s_chosenKnown, .ref s_left, .ref s_coming]))]) [3] rfl
          have hDc := hD.sub (ws' := [(h0, .inr (3, [.ref s_ids, .ref s_attributes, .ref s_permanent, .int 0, .ref s_glyphs, .int s_glyphCount, .ref s_dots, .int s_used, .ref s_wishes, .ref s_pins, .int s_id, .int s_code, .ref s_chosen, .int s_chosenKnown, .ref s_left, .ref s_coming]))]) [3] (by decide) rfl
          have hKc := hK.sub (tys' := []) [] rfl
          have hFc := va_free (wc := [(h0, .inr (3, [.ref s_ids, .ref s_attributes, .ref s_permanent, .int 0, .ref s_glyphs, .int s_glyphCount, .ref s_dots, .int s_used, .ref s_wishes, .ref s_pins, .int s_id, .int s_code, .ref s_chosen, .int s_chosenKnown, .ref s_left, .ref s_coming]))]) hD hS hA [3] rfl
          refine va_calli (va_runV (As := [.int 3, .int (-1)]) (rest := []) ⟨hx, hb, hml, hown, hwd⟩ (c_keepThose_0 l dC dI tt h0 s_ids s_attributes s_permanent s_glyphs s_glyphCount s_dots s_used s_wishes s_pins s_id s_code s_chosen s_chosenKnown s_left s_coming 3 (-1) H.size ) (cwV 2 hwd (gV gd_FontShelf_keepThose wd_2_53 wd_2_55 ws_8 wd_1_5) rfl rfl rfl (by decide +kernel) ⟨Nat.le_of_ble_eq_true rfl, Nat.le_of_ble_eq_true rfl⟩) ⟨fun a U g mk q => by obtain ⟨q0, q1, qP, qK, qD, qF⟩ := q; exact ⟨q0, q1, qP, va_K.moved (u := U) (U := U.calling g mk a) (Vm.Alike.refl U.vm) qK, qD, SF.same (u := U) (U := U.calling g mk a) rfl qF⟩, va_recv hKc hPc (ci := 3) (q0 := 0) rfl rfl, fun U hU hW => ⟨rfl, by rw [hU], by rw [hU]; exact hPc, va_K.moved hW.alike hKc, hDc.weaken (fun _ _ _ _ => trivial), by rw [hU]; exact SF.narrow (SF.moved hW (SF.kept hF (fun a h1 h2 => hS.2.1 a h1 h2))) hFc⟩⟩ rfl rfl hl.1 rfl (lv_room (Nat.le_of_ble_eq_true rfl)) d_FontShelf_choose_165 ⟨Nat.le_of_ble_eq_true rfl, Nat.le_of_ble_eq_true rfl⟩) hS (fun q _ h => hFc q h) hFc ?_
          clear hPc hDc hKc hS
          intro r_19 u_20 t H1 locs ht hvm hw hB hz1 hk1 hS
          obtain ⟨hP1, hK1, hD1⟩ := hB
          rw [ht] at hP1
          have hK1 := va_K.moved hvm.symm hK1
          try dsimp only at hw
          have hJ := va_join (wr := [(s_pins, .inl (cp, 2, .inl pn)), (s_left, .inl (cl, 32, .inl ly)), (s_wishes, .inl (cw, 14, .inl wi))]) (w1 := [(h0, .inr (3, [.ref s_ids, .ref s_attributes, .ref s_permanent, .int 0, .ref s_glyphs, .int s_glyphCount, .ref s_dots, .int s_used, .ref s_wishes, .ref s_pins, .int s_id, .int s_code, .ref s_chosen, .int s_chosenKnown, .ref s_left, .ref s_coming]))]) hP hD [3] [0, 1, 2] rfl rfl (by decide) (by decide) hk1 hFc hP1 hD1
          clear hP hD hk1 hFc hP1 hD1 hz1
          obtain ⟨hP, hD⟩ := hJ
          clear hK1 ht hvm
          generalize H1 = H at hP hS ⊢
          replace hP : va_P (dC, dI) vcl [(s_pins, .inl (cp, 2, .inl pn)), (s_left, .inl (cl, 32, .inl ly)), (s_wishes, .inl (cw, 14, .inl wi)), (h0, .inr (3, [.ref s_ids, .ref s_attributes, .ref s_permanent, .int 0, .ref s_glyphs, .int s_glyphCount, .ref s_dots, .int s_used, .ref s_wishes, .ref s_pins, .int s_id, .int s_code, .ref s_chosen, .int s_chosenKnown, .ref s_left, .ref s_coming]))] H := hP
          replace hD : va_D A [(s_pins, .inl (cp, 2, .inl pn)), (s_left, .inl (cl, 32, .inl ly)), (s_wishes, .inl (cw, 14, .inl wi)), (h0, .inr (3, [.ref s_ids, .ref s_attributes, .ref s_permanent, .int 0, .ref s_glyphs, .int s_glyphCount, .ref s_dots, .int s_used, .ref s_wishes, .ref s_pins, .int s_id, .int s_code, .ref s_chosen, .int s_chosenKnown, .ref s_left, .ref s_coming]))] := hD
          obtain rfl := hw
          refine lv_pop hx hb d_FontShelf_choose_168 rfl ?_
          refine lv_aload_n hx hb d_FontShelf_choose_169 rfl (lv_at hl 0 rfl) ?_
          refine lv_iconst (v := 4) hx hb d_FontShelf_choose_170 (by decide) ?_
          refine lv_aload_n hx hb d_FontShelf_choose_171 rfl (lv_at hl 0 rfl) ?_
          refine va_get (D := (dC, dI)) (ci := 3) (v := .ref s_wishes) (C := R_FontShelf) (T := F_FontShelf) (N := 16) hx hb hwd i_FontShelf hown hK hP 3 rfl rfl 8 (by decide) (hwd _ wd_2_109) (fun _ h9 => h9) rfl d_FontShelf_choose_172 ?_
          refine lv_iload_n hx hb d_FontShelf_choose_175 rfl (lv_at hl 2 rfl) ?_
          refine lv_iconst (v := 4) hx hb d_FontShelf_choose_176 (by decide) ?_
          refine lv_iadd hx hb d_FontShelf_choose_177 ?_
          refine lv_topi (fun y_21 ey_21 => ?_)
          obtain rfl : y_21 = (11 : Int32) := ey_21.trans (by decide)
          refine va_iald hx hb hK hP 2 2 rfl rfl (show ¬ ((11 : Int32) < 0 ∨ 14 ≤ (11 : Int32).toNatClampNeg) by decide) d_FontShelf_choose_178 ?_
          refine lv_topi (fun y_22 ey_22 => ?_)
          obtain rfl : y_22 = wi 11 := ey_22.trans (by rw [show (11 : Int32).toNatClampNeg = 11 by decide])
          have hPc := hP.sub (ws' := [(h0, .inr (3, [.ref s_ids, .ref s_attributes, .ref s_permanent, .int 0, .ref s_glyphs, .int s_glyphCount, .ref s_dots, .int s_used, .ref s_wishes, .ref s_pins, .int s_id, .int s_code, .ref s_chosen, .int s_chosenKnown, .ref s_left, .ref s_coming]))]) [3] rfl
          have hDc := hD.sub (ws' := [(h0, .inr (3, [.ref s_ids, .ref s_attributes, .ref s_permanent, .int 0, .ref s_glyphs, .int s_glyphCount, .ref s_dots, .int s_used, .ref s_wishes, .ref s_pins, .int s_id, .int s_code, .ref s_chosen, .int s_chosenKnown, .ref s_left, .ref s_coming]))]) [3] (by decide) rfl
          have hKc := hK.sub (tys' := []) [] rfl
          have hFc := va_free (wc := [(h0, .inr (3, [.ref s_ids, .ref s_attributes, .ref s_permanent, .int 0, .ref s_glyphs, .int s_glyphCount, .ref s_dots, .int s_used, .ref s_wishes, .ref s_pins, .int s_id, .int s_code, .ref s_chosen, .int s_chosenKnown, .ref s_left, .ref s_coming]))]) hD hS hA [3] rfl
          refine va_calli (va_runV (As := [.int 4, .int (wi 11)]) (rest := []) ⟨hx, hb, hml, hown, hwd⟩ (c_keepThose_0 l dC dI tt h0 s_ids s_attributes s_permanent s_glyphs s_glyphCount s_dots s_used s_wishes s_pins s_id s_code s_chosen s_chosenKnown s_left s_coming 4 (wi 11) H.size ) (cwV 2 hwd (gV gd_FontShelf_keepThose wd_2_53 wd_2_55 ws_8 wd_1_5) rfl rfl rfl (by decide +kernel) ⟨Nat.le_of_ble_eq_true rfl, Nat.le_of_ble_eq_true rfl⟩) ⟨fun a U g mk q => by obtain ⟨q0, q1, qP, qK, qD, qF⟩ := q; exact ⟨q0, q1, qP, va_K.moved (u := U) (U := U.calling g mk a) (Vm.Alike.refl U.vm) qK, qD, SF.same (u := U) (U := U.calling g mk a) rfl qF⟩, va_recv hKc hPc (ci := 3) (q0 := 0) rfl rfl, fun U hU hW => ⟨rfl, by rw [hU], by rw [hU]; exact hPc, va_K.moved hW.alike hKc, hDc.weaken (fun _ _ _ _ => trivial), by rw [hU]; exact SF.narrow (SF.moved hW (SF.kept hF (fun a h1 h2 => hS.2.1 a h1 h2))) hFc⟩⟩ rfl rfl hl.1 rfl (lv_room (Nat.le_of_ble_eq_true rfl)) d_FontShelf_choose_179 ⟨Nat.le_of_ble_eq_true rfl, Nat.le_of_ble_eq_true rfl⟩) hS (fun q _ h => hFc q h) hFc ?_
          clear hPc hDc hKc hS
          intro r_23 u_24 t H1 locs ht hvm hw hB hz1 hk1 hS
          obtain ⟨hP1, hK1, hD1⟩ := hB
          rw [ht] at hP1
          have hK1 := va_K.moved hvm.symm hK1
          try dsimp only at hw
          have hJ := va_join (wr := [(s_pins, .inl (cp, 2, .inl pn)), (s_left, .inl (cl, 32, .inl ly)), (s_wishes, .inl (cw, 14, .inl wi))]) (w1 := [(h0, .inr (3, [.ref s_ids, .ref s_attributes, .ref s_permanent, .int 0, .ref s_glyphs, .int s_glyphCount, .ref s_dots, .int s_used, .ref s_wishes, .ref s_pins, .int s_id, .int s_code, .ref s_chosen, .int s_chosenKnown, .ref s_left, .ref s_coming]))]) hP hD [3] [0, 1, 2] rfl rfl (by decide) (by decide) hk1 hFc hP1 hD1
          clear hP hD hk1 hFc hP1 hD1 hz1
          obtain ⟨hP, hD⟩ := hJ
          clear hK1 ht hvm
          generalize H1 = H at hP hS ⊢
          replace hP : va_P (dC, dI) vcl [(s_pins, .inl (cp, 2, .inl pn)), (s_left, .inl (cl, 32, .inl ly)), (s_wishes, .inl (cw, 14, .inl wi)), (h0, .inr (3, [.ref s_ids, .ref s_attributes, .ref s_permanent, .int 0, .ref s_glyphs, .int s_glyphCount, .ref s_dots, .int s_used, .ref s_wishes, .ref s_pins, .int s_id, .int s_code, .ref s_chosen, .int s_chosenKnown, .ref s_left, .ref s_coming]))] H := hP
          replace hD : va_D A [(s_pins, .inl (cp, 2, .inl pn)), (s_left, .inl (cl, 32, .inl ly)), (s_wishes, .inl (cw, 14, .inl wi)), (h0, .inr (3, [.ref s_ids, .ref s_attributes, .ref s_permanent, .int 0, .ref s_glyphs, .int s_glyphCount, .ref s_dots, .int s_used, .ref s_wishes, .ref s_pins, .int s_id, .int s_code, .ref s_chosen, .int s_chosenKnown, .ref s_left, .ref s_coming]))] := hD
          obtain rfl := hw
          refine lv_pop hx hb d_FontShelf_choose_182 rfl ?_
          refine lv_aload_n hx hb d_FontShelf_choose_183 rfl (lv_at hl 0 rfl) ?_
          refine lv_iconst (v := 5) hx hb d_FontShelf_choose_184 (by decide) ?_
          refine lv_aload_n hx hb d_FontShelf_choose_185 rfl (lv_at hl 0 rfl) ?_
          refine va_get (D := (dC, dI)) (ci := 3) (v := .ref s_wishes) (C := R_FontShelf) (T := F_FontShelf) (N := 16) hx hb hwd i_FontShelf hown hK hP 3 rfl rfl 8 (by decide) (hwd _ wd_2_109) (fun _ h9 => h9) rfl d_FontShelf_choose_186 ?_
          refine lv_iload_n hx hb d_FontShelf_choose_189 rfl (lv_at hl 2 rfl) ?_
          refine lv_iconst (v := 5) hx hb d_FontShelf_choose_190 (by decide) ?_
          refine lv_iadd hx hb d_FontShelf_choose_191 ?_
          refine lv_topi (fun y_25 ey_25 => ?_)
          obtain rfl : y_25 = (12 : Int32) := ey_25.trans (by decide)
          refine va_iald hx hb hK hP 2 2 rfl rfl (show ¬ ((12 : Int32) < 0 ∨ 14 ≤ (12 : Int32).toNatClampNeg) by decide) d_FontShelf_choose_192 ?_
          refine lv_topi (fun y_26 ey_26 => ?_)
          obtain rfl : y_26 = wi 12 := ey_26.trans (by rw [show (12 : Int32).toNatClampNeg = 12 by decide])
          have hPc := hP.sub (ws' := [(h0, .inr (3, [.ref s_ids, .ref s_attributes, .ref s_permanent, .int 0, .ref s_glyphs, .int s_glyphCount, .ref s_dots, .int s_used, .ref s_wishes, .ref s_pins, .int s_id, .int s_code, .ref s_chosen, .int s_chosenKnown, .ref s_left, .ref s_coming]))]) [3] rfl
          have hDc := hD.sub (ws' := [(h0, .inr (3, [.ref s_ids, .ref s_attributes, .ref s_permanent, .int 0, .ref s_glyphs, .int s_glyphCount, .ref s_dots, .int s_used, .ref s_wishes, .ref s_pins, .int s_id, .int s_code, .ref s_chosen, .int s_chosenKnown, .ref s_left, .ref s_coming]))]) [3] (by decide) rfl
          have hKc := hK.sub (tys' := []) [] rfl
          have hFc := va_free (wc := [(h0, .inr (3, [.ref s_ids, .ref s_attributes, .ref s_permanent, .int 0, .ref s_glyphs, .int s_glyphCount, .ref s_dots, .int s_used, .ref s_wishes, .ref s_pins, .int s_id, .int s_code, .ref s_chosen, .int s_chosenKnown, .ref s_left, .ref s_coming]))]) hD hS hA [3] rfl
          refine va_calli (va_runV (As := [.int 5, .int (wi 12)]) (rest := []) ⟨hx, hb, hml, hown, hwd⟩ (c_keepThose_0 l dC dI tt h0 s_ids s_attributes s_permanent s_glyphs s_glyphCount s_dots s_used s_wishes s_pins s_id s_code s_chosen s_chosenKnown s_left s_coming 5 (wi 12) H.size ) (cwV 2 hwd (gV gd_FontShelf_keepThose wd_2_53 wd_2_55 ws_8 wd_1_5) rfl rfl rfl (by decide +kernel) ⟨Nat.le_of_ble_eq_true rfl, Nat.le_of_ble_eq_true rfl⟩) ⟨fun a U g mk q => by obtain ⟨q0, q1, qP, qK, qD, qF⟩ := q; exact ⟨q0, q1, qP, va_K.moved (u := U) (U := U.calling g mk a) (Vm.Alike.refl U.vm) qK, qD, SF.same (u := U) (U := U.calling g mk a) rfl qF⟩, va_recv hKc hPc (ci := 3) (q0 := 0) rfl rfl, fun U hU hW => ⟨rfl, by rw [hU], by rw [hU]; exact hPc, va_K.moved hW.alike hKc, hDc.weaken (fun _ _ _ _ => trivial), by rw [hU]; exact SF.narrow (SF.moved hW (SF.kept hF (fun a h1 h2 => hS.2.1 a h1 h2))) hFc⟩⟩ rfl rfl hl.1 rfl (lv_room (Nat.le_of_ble_eq_true rfl)) d_FontShelf_choose_193 ⟨Nat.le_of_ble_eq_true rfl, Nat.le_of_ble_eq_true rfl⟩) hS (fun q _ h => hFc q h) hFc ?_
          clear hPc hDc hKc hS
          intro r_27 u_28 t H1 locs ht hvm hw hB hz1 hk1 hS
          obtain ⟨hP1, hK1, hD1⟩ := hB
          rw [ht] at hP1
          have hK1 := va_K.moved hvm.symm hK1
          try dsimp only at hw
          have hJ := va_join (wr := [(s_pins, .inl (cp, 2, .inl pn)), (s_left, .inl (cl, 32, .inl ly)), (s_wishes, .inl (cw, 14, .inl wi))]) (w1 := [(h0, .inr (3, [.ref s_ids, .ref s_attributes, .ref s_permanent, .int 0, .ref s_glyphs, .int s_glyphCount, .ref s_dots, .int s_used, .ref s_wishes, .ref s_pins, .int s_id, .int s_code, .ref s_chosen, .int s_chosenKnown, .ref s_left, .ref s_coming]))]) hP hD [3] [0, 1, 2] rfl rfl (by decide) (by decide) hk1 hFc hP1 hD1
          clear hP hD hk1 hFc hP1 hD1 hz1
          obtain ⟨hP, hD⟩ := hJ
          clear hK1 ht hvm
          generalize H1 = H at hP hS ⊢
          replace hP : va_P (dC, dI) vcl [(s_pins, .inl (cp, 2, .inl pn)), (s_left, .inl (cl, 32, .inl ly)), (s_wishes, .inl (cw, 14, .inl wi)), (h0, .inr (3, [.ref s_ids, .ref s_attributes, .ref s_permanent, .int 0, .ref s_glyphs, .int s_glyphCount, .ref s_dots, .int s_used, .ref s_wishes, .ref s_pins, .int s_id, .int s_code, .ref s_chosen, .int s_chosenKnown, .ref s_left, .ref s_coming]))] H := hP
          replace hD : va_D A [(s_pins, .inl (cp, 2, .inl pn)), (s_left, .inl (cl, 32, .inl ly)), (s_wishes, .inl (cw, 14, .inl wi)), (h0, .inr (3, [.ref s_ids, .ref s_attributes, .ref s_permanent, .int 0, .ref s_glyphs, .int s_glyphCount, .ref s_dots, .int s_used, .ref s_wishes, .ref s_pins, .int s_id, .int s_code, .ref s_chosen, .int s_chosenKnown, .ref s_left, .ref s_coming]))] := hD
          obtain rfl := hw
          refine lv_if_ne (tgt := 217) hx hb d_FontShelf_choose_196 (by decide) (fun c196 => absurd c196 (by decide)) (fun _ => ?_)
          refine lv_aload_n hx hb d_FontShelf_choose_199 rfl (lv_at hl 0 rfl) ?_
          refine lv_iconst (v := 5) hx hb d_FontShelf_choose_200 (by decide) ?_
          refine lv_aload_n hx hb d_FontShelf_choose_201 rfl (lv_at hl 0 rfl) ?_
          refine lv_aload_n hx hb d_FontShelf_choose_202 rfl (lv_at hl 0 rfl) ?_
          refine va_get (D := (dC, dI)) (ci := 3) (v := .ref s_wishes) (C := R_FontShelf) (T := F_FontShelf) (N := 16) hx hb hwd i_FontShelf hown hK hP 3 rfl rfl 8 (by decide) (hwd _ wd_2_109) (fun _ h9 => h9) rfl d_FontShelf_choose_203 ?_
          refine lv_iload_n hx hb d_FontShelf_choose_206 rfl (lv_at hl 2 rfl) ?_
          refine lv_iconst (v := 5) hx hb d_FontShelf_choose_207 (by decide) ?_
          refine lv_iadd hx hb d_FontShelf_choose_208 ?_
          refine lv_topi (fun y_29 ey_29 => ?_)
          obtain rfl : y_29 = (12 : Int32) := ey_29.trans (by decide)
          refine va_iald hx hb hK hP 2 2 rfl rfl (show ¬ ((12 : Int32) < 0 ∨ 14 ≤ (12 : Int32).toNatClampNeg) by decide) d_FontShelf_choose_209 ?_
          refine lv_topi (fun y_30 ey_30 => ?_)
          obtain rfl : y_30 = wi 12 := ey_30.trans (by rw [show (12 : Int32).toNatClampNeg = 12 by decide])
          have hPc := hP.sub (ws' := [(h0, .inr (3, [.ref s_ids, .ref s_attributes, .ref s_permanent, .int 0, .ref s_glyphs, .int s_glyphCount, .ref s_dots, .int s_used, .ref s_wishes, .ref s_pins, .int s_id, .int s_code, .ref s_chosen, .int s_chosenKnown, .ref s_left, .ref s_coming]))]) [3] rfl
          have hDc := hD.sub (ws' := [(h0, .inr (3, [.ref s_ids, .ref s_attributes, .ref s_permanent, .int 0, .ref s_glyphs, .int s_glyphCount, .ref s_dots, .int s_used, .ref s_wishes, .ref s_pins, .int s_id, .int s_code, .ref s_chosen, .int s_chosenKnown, .ref s_left, .ref s_coming]))]) [3] (by decide) rfl
          have hKc := hK.sub (tys' := []) [] rfl
          have hFc := va_free (wc := [(h0, .inr (3, [.ref s_ids, .ref s_attributes, .ref s_permanent, .int 0, .ref s_glyphs, .int s_glyphCount, .ref s_dots, .int s_used, .ref s_wishes, .ref s_pins, .int s_id, .int s_code, .ref s_chosen, .int s_chosenKnown, .ref s_left, .ref s_coming]))]) hD hS hA [3] rfl
          refine va_calli (va_runV (As := [.int (wi 12)]) (rest := [.int 5, .ref h0]) ⟨hx, hb, hml, hown, hwd⟩ (c_bestWeight_0 l dC dI tt h0 s_ids s_attributes s_permanent s_glyphs s_glyphCount s_dots s_used s_wishes s_pins s_id s_code s_chosen s_chosenKnown s_left s_coming (wi 12) H.size ) (cwV 1 hwd (gV gd_FontShelf_bestWeight wd_2_84 wd_2_86 ws_15 wd_1_5) rfl rfl rfl (by decide +kernel) ⟨Nat.le_of_ble_eq_true rfl, Nat.le_of_ble_eq_true rfl⟩) ⟨fun a U g mk q => by obtain ⟨q0, q1, qP, qK, qD, qF⟩ := q; exact ⟨q0, q1, qP, va_K.moved (u := U) (U := U.calling g mk a) (Vm.Alike.refl U.vm) qK, qD, SF.same (u := U) (U := U.calling g mk a) rfl qF⟩, va_recv hKc hPc (ci := 3) (q0 := 0) rfl rfl, fun U hU hW => ⟨rfl, by rw [hU], by rw [hU]; exact hPc, va_K.moved hW.alike hKc, hDc.weaken (fun _ _ _ _ => trivial), by rw [hU]; exact SF.narrow (SF.moved hW (SF.kept hF (fun a h1 h2 => hS.2.1 a h1 h2))) hFc⟩⟩ rfl rfl hl.1 rfl (lv_room (Nat.le_of_ble_eq_true rfl)) d_FontShelf_choose_210 ⟨Nat.le_of_ble_eq_true rfl, Nat.le_of_ble_eq_true rfl⟩) hS (fun q _ h => hFc q h) hFc ?_
          clear hPc hDc hKc hS
          intro r_31 u_32 t H1 locs ht hvm hw hB hz1 hk1 hS
          obtain ⟨hP1, hK1, hD1⟩ := hB
          rw [ht] at hP1
          have hK1 := va_K.moved hvm.symm hK1
          try dsimp only at hw
          have hJ := va_join (wr := [(s_pins, .inl (cp, 2, .inl pn)), (s_left, .inl (cl, 32, .inl ly)), (s_wishes, .inl (cw, 14, .inl wi))]) (w1 := [(h0, .inr (3, [.ref s_ids, .ref s_attributes, .ref s_permanent, .int 0, .ref s_glyphs, .int s_glyphCount, .ref s_dots, .int s_used, .ref s_wishes, .ref s_pins, .int s_id, .int s_code, .ref s_chosen, .int s_chosenKnown, .ref s_left, .ref s_coming]))]) hP hD [3] [0, 1, 2] rfl rfl (by decide) (by decide) hk1 hFc hP1 hD1
          clear hP hD hk1 hFc hP1 hD1 hz1
          obtain ⟨hP, hD⟩ := hJ
          clear hK1 ht hvm
          generalize H1 = H at hP hS ⊢
          replace hP : va_P (dC, dI) vcl [(s_pins, .inl (cp, 2, .inl pn)), (s_left, .inl (cl, 32, .inl ly)), (s_wishes, .inl (cw, 14, .inl wi)), (h0, .inr (3, [.ref s_ids, .ref s_attributes, .ref s_permanent, .int 0, .ref s_glyphs, .int s_glyphCount, .ref s_dots, .int s_used, .ref s_wishes, .ref s_pins, .int s_id, .int s_code, .ref s_chosen, .int s_chosenKnown, .ref s_left, .ref s_coming]))] H := hP
          replace hD : va_D A [(s_pins, .inl (cp, 2, .inl pn)), (s_left, .inl (cl, 32, .inl ly)), (s_wishes, .inl (cw, 14, .inl wi)), (h0, .inr (3, [.ref s_ids, .ref s_attributes, .ref s_permanent, .int 0, .ref s_glyphs, .int s_glyphCount, .ref s_dots, .int s_used, .ref s_wishes, .ref s_pins, .int s_id, .int s_code, .ref s_chosen, .int s_chosenKnown, .ref s_left, .ref s_coming]))] := hD
          obtain rfl := hw
          have hPc := hP.sub (ws' := [(h0, .inr (3, [.ref s_ids, .ref s_attributes, .ref s_permanent, .int 0, .ref s_glyphs, .int s_glyphCount, .ref s_dots, .int s_used, .ref s_wishes, .ref s_pins, .int s_id, .int s_code, .ref s_chosen, .int s_chosenKnown, .ref s_left, .ref s_coming]))]) [3] rfl
          have hDc := hD.sub (ws' := [(h0, .inr (3, [.ref s_ids, .ref s_attributes, .ref s_permanent, .int 0, .ref s_glyphs, .int s_glyphCount, .ref s_dots, .int s_used, .ref s_wishes, .ref s_pins, .int s_id, .int s_code, .ref s_chosen, .int s_chosenKnown, .ref s_left, .ref s_coming]))]) [3] (by decide) rfl
          have hKc := hK.sub (tys' := []) [] rfl
          have hFc := va_free (wc := [(h0, .inr (3, [.ref s_ids, .ref s_attributes, .ref s_permanent, .int 0, .ref s_glyphs, .int s_glyphCount, .ref s_dots, .int s_used, .ref s_wishes, .ref s_pins, .int s_id, .int s_code, .ref s_chosen, .int s_chosenKnown, .ref s_left, .ref s_coming]))]) hD hS hA [3] rfl
          refine va_calli (va_runV (As := [.int 5, .int (wi 12)]) (rest := []) ⟨hx, hb, hml, hown, hwd⟩ (c_keepThose_0 l dC dI tt h0 s_ids s_attributes s_permanent s_glyphs s_glyphCount s_dots s_used s_wishes s_pins s_id s_code s_chosen s_chosenKnown s_left s_coming 5 (wi 12) H.size ) (cwV 2 hwd (gV gd_FontShelf_keepThose wd_2_53 wd_2_55 ws_8 wd_1_5) rfl rfl rfl (by decide +kernel) ⟨Nat.le_of_ble_eq_true rfl, Nat.le_of_ble_eq_true rfl⟩) ⟨fun a U g mk q => by obtain ⟨q0, q1, qP, qK, qD, qF⟩ := q; exact ⟨q0, q1, qP, va_K.moved (u := U) (U := U.calling g mk a) (Vm.Alike.refl U.vm) qK, qD, SF.same (u := U) (U := U.calling g mk a) rfl qF⟩, va_recv hKc hPc (ci := 3) (q0 := 0) rfl rfl, fun U hU hW => ⟨rfl, by rw [hU], by rw [hU]; exact hPc, va_K.moved hW.alike hKc, hDc.weaken (fun _ _ _ _ => trivial), by rw [hU]; exact SF.narrow (SF.moved hW (SF.kept hF (fun a h1 h2 => hS.2.1 a h1 h2))) hFc⟩⟩ rfl rfl hl.1 rfl (lv_room (Nat.le_of_ble_eq_true rfl)) d_FontShelf_choose_213 ⟨Nat.le_of_ble_eq_true rfl, Nat.le_of_ble_eq_true rfl⟩) hS (fun q _ h => hFc q h) hFc ?_
          clear hPc hDc hKc hS
          intro r_33 u_34 t H1 locs ht hvm hw hB hz1 hk1 hS
          obtain ⟨hP1, hK1, hD1⟩ := hB
          rw [ht] at hP1
          have hK1 := va_K.moved hvm.symm hK1
          try dsimp only at hw
          have hJ := va_join (wr := [(s_pins, .inl (cp, 2, .inl pn)), (s_left, .inl (cl, 32, .inl ly)), (s_wishes, .inl (cw, 14, .inl wi))]) (w1 := [(h0, .inr (3, [.ref s_ids, .ref s_attributes, .ref s_permanent, .int 0, .ref s_glyphs, .int s_glyphCount, .ref s_dots, .int s_used, .ref s_wishes, .ref s_pins, .int s_id, .int s_code, .ref s_chosen, .int s_chosenKnown, .ref s_left, .ref s_coming]))]) hP hD [3] [0, 1, 2] rfl rfl (by decide) (by decide) hk1 hFc hP1 hD1
          clear hP hD hk1 hFc hP1 hD1 hz1
          obtain ⟨hP, hD⟩ := hJ
          clear hK1 ht hvm
          generalize H1 = H at hP hS ⊢
          replace hP : va_P (dC, dI) vcl [(s_pins, .inl (cp, 2, .inl pn)), (s_left, .inl (cl, 32, .inl ly)), (s_wishes, .inl (cw, 14, .inl wi)), (h0, .inr (3, [.ref s_ids, .ref s_attributes, .ref s_permanent, .int 0, .ref s_glyphs, .int s_glyphCount, .ref s_dots, .int s_used, .ref s_wishes, .ref s_pins, .int s_id, .int s_code, .ref s_chosen, .int s_chosenKnown, .ref s_left, .ref s_coming]))] H := hP
          replace hD : va_D A [(s_pins, .inl (cp, 2, .inl pn)), (s_left, .inl (cl, 32, .inl ly)), (s_wishes, .inl (cw, 14, .inl wi)), (h0, .inr (3, [.ref s_ids, .ref s_attributes, .ref s_permanent, .int 0, .ref s_glyphs, .int s_glyphCount, .ref s_dots, .int s_used, .ref s_wishes, .ref s_pins, .int s_id, .int s_code, .ref s_chosen, .int s_chosenKnown, .ref s_left, .ref s_coming]))] := hD
          obtain rfl := hw
          refine lv_pop hx hb d_FontShelf_choose_216 rfl ?_
          refine lv_aload_n hx hb d_FontShelf_choose_217 rfl (lv_at hl 0 rfl) ?_
          refine lv_bipush (v := 6) hx hb d_FontShelf_choose_218 (by decide) ?_
          refine lv_aload_n hx hb d_FontShelf_choose_220 rfl (lv_at hl 0 rfl) ?_
          refine va_get (D := (dC, dI)) (ci := 3) (v := .ref s_wishes) (C := R_FontShelf) (T := F_FontShelf) (N := 16) hx hb hwd i_FontShelf hown hK hP 3 rfl rfl 8 (by decide) (hwd _ wd_2_109) (fun _ h9 => h9) rfl d_FontShelf_choose_221 ?_
          refine lv_iload_n hx hb d_FontShelf_choose_224 rfl (lv_at hl 2 rfl) ?_
          refine lv_bipush (v := 6) hx hb d_FontShelf_choose_225 (by decide) ?_
          refine lv_iadd hx hb d_FontShelf_choose_227 ?_
          refine lv_topi (fun y_35 ey_35 => ?_)
          obtain rfl : y_35 = (13 : Int32) := ey_35.trans (by decide)
          refine va_iald hx hb hK hP 2 2 rfl rfl (show ¬ ((13 : Int32) < 0 ∨ 14 ≤ (13 : Int32).toNatClampNeg) by decide) d_FontShelf_choose_228 ?_
          refine lv_topi (fun y_36 ey_36 => ?_)
          obtain rfl : y_36 = wi 13 := ey_36.trans (by rw [show (13 : Int32).toNatClampNeg = 13 by decide])
          have hPc := hP.sub (ws' := [(h0, .inr (3, [.ref s_ids, .ref s_attributes, .ref s_permanent, .int 0, .ref s_glyphs, .int s_glyphCount, .ref s_dots, .int s_used, .ref s_wishes, .ref s_pins, .int s_id, .int s_code, .ref s_chosen, .int s_chosenKnown, .ref s_left, .ref s_coming]))]) [3] rfl
          have hDc := hD.sub (ws' := [(h0, .inr (3, [.ref s_ids, .ref s_attributes, .ref s_permanent, .int 0, .ref s_glyphs, .int s_glyphCount, .ref s_dots, .int s_used, .ref s_wishes, .ref s_pins, .int s_id, .int s_code, .ref s_chosen, .int s_chosenKnown, .ref s_left, .ref s_coming]))]) [3] (by decide) rfl
          have hKc := hK.sub (tys' := []) [] rfl
          have hFc := va_free (wc := [(h0, .inr (3, [.ref s_ids, .ref s_attributes, .ref s_permanent, .int 0, .ref s_glyphs, .int s_glyphCount, .ref s_dots, .int s_used, .ref s_wishes, .ref s_pins, .int s_id, .int s_code, .ref s_chosen, .int s_chosenKnown, .ref s_left, .ref s_coming]))]) hD hS hA [3] rfl
          refine va_calli (va_runV (As := [.int 6, .int (wi 13)]) (rest := []) ⟨hx, hb, hml, hown, hwd⟩ (c_keepThose_0 l dC dI tt h0 s_ids s_attributes s_permanent s_glyphs s_glyphCount s_dots s_used s_wishes s_pins s_id s_code s_chosen s_chosenKnown s_left s_coming 6 (wi 13) H.size ) (cwV 2 hwd (gV gd_FontShelf_keepThose wd_2_53 wd_2_55 ws_8 wd_1_5) rfl rfl rfl (by decide +kernel) ⟨Nat.le_of_ble_eq_true rfl, Nat.le_of_ble_eq_true rfl⟩) ⟨fun a U g mk q => by obtain ⟨q0, q1, qP, qK, qD, qF⟩ := q; exact ⟨q0, q1, qP, va_K.moved (u := U) (U := U.calling g mk a) (Vm.Alike.refl U.vm) qK, qD, SF.same (u := U) (U := U.calling g mk a) rfl qF⟩, va_recv hKc hPc (ci := 3) (q0 := 0) rfl rfl, fun U hU hW => ⟨rfl, by rw [hU], by rw [hU]; exact hPc, va_K.moved hW.alike hKc, hDc.weaken (fun _ _ _ _ => trivial), by rw [hU]; exact SF.narrow (SF.moved hW (SF.kept hF (fun a h1 h2 => hS.2.1 a h1 h2))) hFc⟩⟩ rfl rfl hl.1 rfl (lv_room (Nat.le_of_ble_eq_true rfl)) d_FontShelf_choose_229 ⟨Nat.le_of_ble_eq_true rfl, Nat.le_of_ble_eq_true rfl⟩) hS (fun q _ h => hFc q h) hFc ?_
          clear hPc hDc hKc hS
          intro r_37 u_38 t H1 locs ht hvm hw hB hz1 hk1 hS
          obtain ⟨hP1, hK1, hD1⟩ := hB
          rw [ht] at hP1
          have hK1 := va_K.moved hvm.symm hK1
          try dsimp only at hw
          have hJ := va_join (wr := [(s_pins, .inl (cp, 2, .inl pn)), (s_left, .inl (cl, 32, .inl ly)), (s_wishes, .inl (cw, 14, .inl wi))]) (w1 := [(h0, .inr (3, [.ref s_ids, .ref s_attributes, .ref s_permanent, .int 0, .ref s_glyphs, .int s_glyphCount, .ref s_dots, .int s_used, .ref s_wishes, .ref s_pins, .int s_id, .int s_code, .ref s_chosen, .int s_chosenKnown, .ref s_left, .ref s_coming]))]) hP hD [3] [0, 1, 2] rfl rfl (by decide) (by decide) hk1 hFc hP1 hD1
          clear hP hD hk1 hFc hP1 hD1 hz1
          obtain ⟨hP, hD⟩ := hJ
          clear hK1 ht hvm
          generalize H1 = H at hP hS ⊢
          replace hP : va_P (dC, dI) vcl [(s_pins, .inl (cp, 2, .inl pn)), (s_left, .inl (cl, 32, .inl ly)), (s_wishes, .inl (cw, 14, .inl wi)), (h0, .inr (3, [.ref s_ids, .ref s_attributes, .ref s_permanent, .int 0, .ref s_glyphs, .int s_glyphCount, .ref s_dots, .int s_used, .ref s_wishes, .ref s_pins, .int s_id, .int s_code, .ref s_chosen, .int s_chosenKnown, .ref s_left, .ref s_coming]))] H := hP
          replace hD : va_D A [(s_pins, .inl (cp, 2, .inl pn)), (s_left, .inl (cl, 32, .inl ly)), (s_wishes, .inl (cw, 14, .inl wi)), (h0, .inr (3, [.ref s_ids, .ref s_attributes, .ref s_permanent, .int 0, .ref s_glyphs, .int s_glyphCount, .ref s_dots, .int s_used, .ref s_wishes, .ref s_pins, .int s_id, .int s_code, .ref s_chosen, .int s_chosenKnown, .ref s_left, .ref s_coming]))] := hD
          obtain rfl := hw
          refine lv_pop hx hb d_FontShelf_choose_232 rfl ?_
          refine lv_aload_n hx hb d_FontShelf_choose_233 rfl (lv_at hl 0 rfl) ?_
          have hPc := hP.sub (ws' := [(h0, .inr (3, [.ref s_ids, .ref s_attributes, .ref s_permanent, .int 0, .ref s_glyphs, .int s_glyphCount, .ref s_dots, .int s_used, .ref s_wishes, .ref s_pins, .int s_id, .int s_code, .ref s_chosen, .int s_chosenKnown, .ref s_left, .ref s_coming]))]) [3] rfl
          have hDc := hD.sub (ws' := [(h0, .inr (3, [.ref s_ids, .ref s_attributes, .ref s_permanent, .int 0, .ref s_glyphs, .int s_glyphCount, .ref s_dots, .int s_used, .ref s_wishes, .ref s_pins, .int s_id, .int s_code, .ref s_chosen, .int s_chosenKnown, .ref s_left, .ref s_coming]))]) [3] (by decide) rfl
          have hKc := hK.sub (tys' := []) [] rfl
          have hFc := va_free (wc := [(h0, .inr (3, [.ref s_ids, .ref s_attributes, .ref s_permanent, .int 0, .ref s_glyphs, .int s_glyphCount, .ref s_dots, .int s_used, .ref s_wishes, .ref s_pins, .int s_id, .int s_code, .ref s_chosen, .int s_chosenKnown, .ref s_left, .ref s_coming]))]) hD hS hA [3] rfl
          refine va_calli (va_runV (As := []) (rest := []) ⟨hx, hb, hml, hown, hwd⟩ (c_lastLeft_0 l dC dI tt h0 s_ids s_attributes s_permanent s_glyphs s_glyphCount s_dots s_used s_wishes s_pins s_id s_code s_chosen s_chosenKnown s_left s_coming H.size ) (cwV 0 hwd (gV gd_FontShelf_lastLeft wd_2_94 wd_2_96 ws_17 wd_1_5) rfl rfl rfl (by decide +kernel) ⟨Nat.le_of_ble_eq_true rfl, Nat.le_of_ble_eq_true rfl⟩) ⟨fun a U g mk q => by obtain ⟨q0, q1, qP, qK, qD, qF⟩ := q; exact ⟨q0, q1, qP, va_K.moved (u := U) (U := U.calling g mk a) (Vm.Alike.refl U.vm) qK, qD, SF.same (u := U) (U := U.calling g mk a) rfl qF⟩, va_recv hKc hPc (ci := 3) (q0 := 0) rfl rfl, fun U hU hW => ⟨rfl, by rw [hU], by rw [hU]; exact hPc, va_K.moved hW.alike hKc, hDc.weaken (fun _ _ _ _ => trivial), by rw [hU]; exact SF.narrow (SF.moved hW (SF.kept hF (fun a h1 h2 => hS.2.1 a h1 h2))) hFc⟩⟩ rfl rfl hl.1 rfl (lv_room (Nat.le_of_ble_eq_true rfl)) d_FontShelf_choose_234 ⟨Nat.le_of_ble_eq_true rfl, Nat.le_of_ble_eq_true rfl⟩) hS (fun q _ h => hFc q h) hFc ?_
          clear hPc hDc hKc hS
          intro r_39 u_40 t H1 locs ht hvm hw hB hz1 hk1 hS
          obtain ⟨hP1, hK1, hD1⟩ := hB
          rw [ht] at hP1
          have hK1 := va_K.moved hvm.symm hK1
          try dsimp only at hw
          have hJ := va_join (wr := [(s_pins, .inl (cp, 2, .inl pn)), (s_left, .inl (cl, 32, .inl ly)), (s_wishes, .inl (cw, 14, .inl wi))]) (w1 := [(h0, .inr (3, [.ref s_ids, .ref s_attributes, .ref s_permanent, .int 0, .ref s_glyphs, .int s_glyphCount, .ref s_dots, .int s_used, .ref s_wishes, .ref s_pins, .int s_id, .int s_code, .ref s_chosen, .int s_chosenKnown, .ref s_left, .ref s_coming]))]) hP hD [3] [0, 1, 2] rfl rfl (by decide) (by decide) hk1 hFc hP1 hD1
          clear hP hD hk1 hFc hP1 hD1 hz1
          obtain ⟨hP, hD⟩ := hJ
          clear hK1 ht hvm
          generalize H1 = H at hP hS ⊢
          replace hP : va_P (dC, dI) vcl [(s_pins, .inl (cp, 2, .inl pn)), (s_left, .inl (cl, 32, .inl ly)), (s_wishes, .inl (cw, 14, .inl wi)), (h0, .inr (3, [.ref s_ids, .ref s_attributes, .ref s_permanent, .int 0, .ref s_glyphs, .int s_glyphCount, .ref s_dots, .int s_used, .ref s_wishes, .ref s_pins, .int s_id, .int s_code, .ref s_chosen, .int s_chosenKnown, .ref s_left, .ref s_coming]))] H := hP
          replace hD : va_D A [(s_pins, .inl (cp, 2, .inl pn)), (s_left, .inl (cl, 32, .inl ly)), (s_wishes, .inl (cw, 14, .inl wi)), (h0, .inr (3, [.ref s_ids, .ref s_attributes, .ref s_permanent, .int 0, .ref s_glyphs, .int s_glyphCount, .ref s_dots, .int s_used, .ref s_wishes, .ref s_pins, .int s_id, .int s_code, .ref s_chosen, .int s_chosenKnown, .ref s_left, .ref s_coming]))] := hD
          obtain rfl := hw
          have hP9 := hP.sub (ws' := [(h0, .inr (3, [.ref s_ids, .ref s_attributes, .ref s_permanent, .int 0, .ref s_glyphs, .int s_glyphCount, .ref s_dots, .int s_used, .ref s_wishes, .ref s_pins, .int s_id, .int s_code, .ref s_chosen, .int s_chosenKnown, .ref s_left, .ref s_coming])), (s_pins, .inl (cp, 2, .inl pn)), (s_left, .inl (cl, 32, .inl ly)), (s_wishes, .inl (cw, 14, .inl wi))]) [3, 0, 1, 2] rfl
          have hD9 := hD.sub (ws' := [(h0, .inr (3, [.ref s_ids, .ref s_attributes, .ref s_permanent, .int 0, .ref s_glyphs, .int s_glyphCount, .ref s_dots, .int s_used, .ref s_wishes, .ref s_pins, .int s_id, .int s_code, .ref s_chosen, .int s_chosenKnown, .ref s_left, .ref s_coming])), (s_pins, .inl (cp, 2, .inl pn)), (s_left, .inl (cl, 32, .inl ly)), (s_wishes, .inl (cw, 14, .inl wi))]) [3, 0, 1, 2] (by decide) rfl
          have hK9 := hK.sub (tys' := [(cp, .int), (cl, .boolean), (cw, .int)]) [0, 1, 2] rfl
          exact W.iret (v := (-1)) hx hb hr (fun t ht hW => ⟨⟨(-1), (ly), rfl, (show ((-1) : Int32) = -1 from (by first | exact trivial | rfl | simp [*])), by rw [ht]; exact hP9, va_K.moved hW.alike hK9, hD9⟩, hS.F ht⟩) hS.2.2 d_FontShelf_choose_237
        · refine lv_aload_n hx hb d_FontShelf_choose_126 rfl (lv_at hl 0 rfl) ?_
          have hPc := hP.sub (ws' := [(h0, .inr (3, [.ref s_ids, .ref s_attributes, .ref s_permanent, .int 0, .ref s_glyphs, .int s_glyphCount, .ref s_dots, .int s_used, .ref s_wishes, .ref s_pins, .int s_id, .int s_code, .ref s_chosen, .int s_chosenKnown, .ref s_left, .ref s_coming]))]) [3] rfl
          have hDc := hD.sub (ws' := [(h0, .inr (3, [.ref s_ids, .ref s_attributes, .ref s_permanent, .int 0, .ref s_glyphs, .int s_glyphCount, .ref s_dots, .int s_used, .ref s_wishes, .ref s_pins, .int s_id, .int s_code, .ref s_chosen, .int s_chosenKnown, .ref s_left, .ref s_coming]))]) [3] (by decide) rfl
          have hKc := hK.sub (tys' := []) [] rfl
          have hFc := va_free (wc := [(h0, .inr (3, [.ref s_ids, .ref s_attributes, .ref s_permanent, .int 0, .ref s_glyphs, .int s_glyphCount, .ref s_dots, .int s_used, .ref s_wishes, .ref s_pins, .int s_id, .int s_code, .ref s_chosen, .int s_chosenKnown, .ref s_left, .ref s_coming]))]) hD hS hA [3] rfl
          refine va_calli (va_runV (As := []) (rest := []) ⟨hx, hb, hml, hown, hwd⟩ (c_allLeftEven_0 l dC dI tt h0 s_ids s_attributes s_permanent s_glyphs s_glyphCount s_dots s_used s_wishes s_pins s_id s_code s_chosen s_chosenKnown s_left s_coming H.size ) (cwV 0 hwd (gV gd_FontShelf_allLeftEven wd_2_61 wd_2_63 ws_10 wd_1_5) rfl rfl rfl (by decide +kernel) ⟨Nat.le_of_ble_eq_true rfl, Nat.le_of_ble_eq_true rfl⟩) ⟨fun a U g mk q => by obtain ⟨q0, q1, qP, qK, qD, qF⟩ := q; exact ⟨q0, q1, qP, va_K.moved (u := U) (U := U.calling g mk a) (Vm.Alike.refl U.vm) qK, qD, SF.same (u := U) (U := U.calling g mk a) rfl qF⟩, va_recv hKc hPc (ci := 3) (q0 := 0) rfl rfl, fun U hU hW => ⟨rfl, by rw [hU], by rw [hU]; exact hPc, va_K.moved hW.alike hKc, hDc.weaken (fun _ _ _ _ => trivial), by rw [hU]; exact SF.narrow (SF.moved hW (SF.kept hF (fun a h1 h2 => hS.2.1 a h1 h2))) hFc⟩⟩ rfl rfl hl.1 rfl (lv_room (Nat.le_of_ble_eq_true rfl)) d_FontShelf_choose_127 ⟨Nat.le_of_ble_eq_true rfl, Nat.le_of_ble_eq_true rfl⟩) hS (fun q _ h => hFc q h) hFc ?_
          clear hPc hDc hKc hS
          intro r_41 u_42 t H1 locs ht hvm hw hB hz1 hk1 hS
          obtain ⟨hP1, hK1, hD1⟩ := hB
          rw [ht] at hP1
          have hK1 := va_K.moved hvm.symm hK1
          try dsimp only at hw
          have hJ := va_join (wr := [(s_pins, .inl (cp, 2, .inl pn)), (s_left, .inl (cl, 32, .inl ly)), (s_wishes, .inl (cw, 14, .inl wi))]) (w1 := [(h0, .inr (3, [.ref s_ids, .ref s_attributes, .ref s_permanent, .int 0, .ref s_glyphs, .int s_glyphCount, .ref s_dots, .int s_used, .ref s_wishes, .ref s_pins, .int s_id, .int s_code, .ref s_chosen, .int s_chosenKnown, .ref s_left, .ref s_coming]))]) hP hD [3] [0, 1, 2] rfl rfl (by decide) (by decide) hk1 hFc hP1 hD1
          clear hP hD hk1 hFc hP1 hD1 hz1
          obtain ⟨hP, hD⟩ := hJ
          clear hK1 ht hvm
          generalize H1 = H at hP hS ⊢
          replace hP : va_P (dC, dI) vcl [(s_pins, .inl (cp, 2, .inl pn)), (s_left, .inl (cl, 32, .inl ly)), (s_wishes, .inl (cw, 14, .inl wi)), (h0, .inr (3, [.ref s_ids, .ref s_attributes, .ref s_permanent, .int 0, .ref s_glyphs, .int s_glyphCount, .ref s_dots, .int s_used, .ref s_wishes, .ref s_pins, .int s_id, .int s_code, .ref s_chosen, .int s_chosenKnown, .ref s_left, .ref s_coming]))] H := hP
          replace hD : va_D A [(s_pins, .inl (cp, 2, .inl pn)), (s_left, .inl (cl, 32, .inl ly)), (s_wishes, .inl (cw, 14, .inl wi)), (h0, .inr (3, [.ref s_ids, .ref s_attributes, .ref s_permanent, .int 0, .ref s_glyphs, .int s_glyphCount, .ref s_dots, .int s_used, .ref s_wishes, .ref s_pins, .int s_id, .int s_code, .ref s_chosen, .int s_chosenKnown, .ref s_left, .ref s_coming]))] := hD
          obtain rfl := hw
          refine lv_if_eq (tgt := 151) hx hb d_FontShelf_choose_130 (by decide) (fun c130 => absurd c130 (by decide)) (fun _ => ?_)
          refine lv_aload_n hx hb d_FontShelf_choose_133 rfl (lv_at hl 0 rfl) ?_
          refine lv_iconst (v := 2) hx hb d_FontShelf_choose_134 (by decide) ?_
          refine lv_aload_n hx hb d_FontShelf_choose_135 rfl (lv_at hl 0 rfl) ?_
          refine lv_aload_n hx hb d_FontShelf_choose_136 rfl (lv_at hl 0 rfl) ?_
          refine va_get (D := (dC, dI)) (ci := 3) (v := .ref s_wishes) (C := R_FontShelf) (T := F_FontShelf) (N := 16) hx hb hwd i_FontShelf hown hK hP 3 rfl rfl 8 (by decide) (hwd _ wd_2_109) (fun _ h9 => h9) rfl d_FontShelf_choose_137 ?_
          refine lv_iload_n hx hb d_FontShelf_choose_140 rfl (lv_at hl 2 rfl) ?_
          refine lv_iconst (v := 2) hx hb d_FontShelf_choose_141 (by decide) ?_
          refine lv_iadd hx hb d_FontShelf_choose_142 ?_
          refine lv_topi (fun y_43 ey_43 => ?_)
          obtain rfl : y_43 = (9 : Int32) := ey_43.trans (by decide)
          refine va_iald hx hb hK hP 2 2 rfl rfl (show ¬ ((9 : Int32) < 0 ∨ 14 ≤ (9 : Int32).toNatClampNeg) by decide) d_FontShelf_choose_143 ?_
          refine lv_topi (fun y_44 ey_44 => ?_)
          obtain rfl : y_44 = wi 9 := ey_44.trans (by rw [show (9 : Int32).toNatClampNeg = 9 by decide])
          have hPc := hP.sub (ws' := [(h0, .inr (3, [.ref s_ids, .ref s_attributes, .ref s_permanent, .int 0, .ref s_glyphs, .int s_glyphCount, .ref s_dots, .int s_used, .ref s_wishes, .ref s_pins, .int s_id, .int s_code, .ref s_chosen, .int s_chosenKnown, .ref s_left, .ref s_coming]))]) [3] rfl
          have hDc := hD.sub (ws' := [(h0, .inr (3, [.ref s_ids, .ref s_attributes, .ref s_permanent, .int 0, .ref s_glyphs, .int s_glyphCount, .ref s_dots, .int s_used, .ref s_wishes, .ref s_pins, .int s_id, .int s_code, .ref s_chosen, .int s_chosenKnown, .ref s_left, .ref s_coming]))]) [3] (by decide) rfl
          have hKc := hK.sub (tys' := []) [] rfl
          have hFc := va_free (wc := [(h0, .inr (3, [.ref s_ids, .ref s_attributes, .ref s_permanent, .int 0, .ref s_glyphs, .int s_glyphCount, .ref s_dots, .int s_used, .ref s_wishes, .ref s_pins, .int s_id, .int s_code, .ref s_chosen, .int s_chosenKnown, .ref s_left, .ref s_coming]))]) hD hS hA [3] rfl
          refine va_calli (va_runV (As := [.int (wi 9)]) (rest := [.int 2, .ref h0]) ⟨hx, hb, hml, hown, hwd⟩ (c_bestPitch_0 l dC dI tt h0 s_ids s_attributes s_permanent s_glyphs s_glyphCount s_dots s_used s_wishes s_pins s_id s_code s_chosen s_chosenKnown s_left s_coming (wi 9) H.size ) (cwV 1 hwd (gV gd_FontShelf_bestPitch wd_2_65 wd_2_67 ws_11 wd_1_5) rfl rfl rfl (by decide +kernel) ⟨Nat.le_of_ble_eq_true rfl, Nat.le_of_ble_eq_true rfl⟩) ⟨fun a U g mk q => by obtain ⟨q0, q1, qP, qK, qD, qF⟩ := q; exact ⟨q0, q1, qP, va_K.moved (u := U) (U := U.calling g mk a) (Vm.Alike.refl U.vm) qK, qD, SF.same (u := U) (U := U.calling g mk a) rfl qF⟩, va_recv hKc hPc (ci := 3) (q0 := 0) rfl rfl, fun U hU hW => ⟨rfl, by rw [hU], by rw [hU]; exact hPc, va_K.moved hW.alike hKc, hDc.weaken (fun _ _ _ _ => trivial), by rw [hU]; exact SF.narrow (SF.moved hW (SF.kept hF (fun a h1 h2 => hS.2.1 a h1 h2))) hFc⟩⟩ rfl rfl hl.1 rfl (lv_room (Nat.le_of_ble_eq_true rfl)) d_FontShelf_choose_144 ⟨Nat.le_of_ble_eq_true rfl, Nat.le_of_ble_eq_true rfl⟩) hS (fun q _ h => hFc q h) hFc ?_
          clear hPc hDc hKc hS
          intro r_45 u_46 t H1 locs ht hvm hw hB hz1 hk1 hS
          obtain ⟨hP1, hK1, hD1⟩ := hB
          rw [ht] at hP1
          have hK1 := va_K.moved hvm.symm hK1
          try dsimp only at hw
          have hJ := va_join (wr := [(s_pins, .inl (cp, 2, .inl pn)), (s_left, .inl (cl, 32, .inl ly)), (s_wishes, .inl (cw, 14, .inl wi))]) (w1 := [(h0, .inr (3, [.ref s_ids, .ref s_attributes, .ref s_permanent, .int 0, .ref s_glyphs, .int s_glyphCount, .ref s_dots, .int s_used, .ref s_wishes, .ref s_pins, .int s_id, .int s_code, .ref s_chosen, .int s_chosenKnown, .ref s_left, .ref s_coming]))]) hP hD [3] [0, 1, 2] rfl rfl (by decide) (by decide) hk1 hFc hP1 hD1
          clear hP hD hk1 hFc hP1 hD1 hz1
          obtain ⟨hP, hD⟩ := hJ
          clear hK1 ht hvm
          generalize H1 = H at hP hS ⊢
          replace hP : va_P (dC, dI) vcl [(s_pins, .inl (cp, 2, .inl pn)), (s_left, .inl (cl, 32, .inl ly)), (s_wishes, .inl (cw, 14, .inl wi)), (h0, .inr (3, [.ref s_ids, .ref s_attributes, .ref s_permanent, .int 0, .ref s_glyphs, .int s_glyphCount, .ref s_dots, .int s_used, .ref s_wishes, .ref s_pins, .int s_id, .int s_code, .ref s_chosen, .int s_chosenKnown, .ref s_left, .ref s_coming]))] H := hP
          replace hD : va_D A [(s_pins, .inl (cp, 2, .inl pn)), (s_left, .inl (cl, 32, .inl ly)), (s_wishes, .inl (cw, 14, .inl wi)), (h0, .inr (3, [.ref s_ids, .ref s_attributes, .ref s_permanent, .int 0, .ref s_glyphs, .int s_glyphCount, .ref s_dots, .int s_used, .ref s_wishes, .ref s_pins, .int s_id, .int s_code, .ref s_chosen, .int s_chosenKnown, .ref s_left, .ref s_coming]))] := hD
          obtain rfl := hw
          have hPc := hP.sub (ws' := [(h0, .inr (3, [.ref s_ids, .ref s_attributes, .ref s_permanent, .int 0, .ref s_glyphs, .int s_glyphCount, .ref s_dots, .int s_used, .ref s_wishes, .ref s_pins, .int s_id, .int s_code, .ref s_chosen, .int s_chosenKnown, .ref s_left, .ref s_coming]))]) [3] rfl
          have hDc := hD.sub (ws' := [(h0, .inr (3, [.ref s_ids, .ref s_attributes, .ref s_permanent, .int 0, .ref s_glyphs, .int s_glyphCount, .ref s_dots, .int s_used, .ref s_wishes, .ref s_pins, .int s_id, .int s_code, .ref s_chosen, .int s_chosenKnown, .ref s_left, .ref s_coming]))]) [3] (by decide) rfl
          have hKc := hK.sub (tys' := []) [] rfl
          have hFc := va_free (wc := [(h0, .inr (3, [.ref s_ids, .ref s_attributes, .ref s_permanent, .int 0, .ref s_glyphs, .int s_glyphCount, .ref s_dots, .int s_used, .ref s_wishes, .ref s_pins, .int s_id, .int s_code, .ref s_chosen, .int s_chosenKnown, .ref s_left, .ref s_coming]))]) hD hS hA [3] rfl
          refine va_calli (va_runV (As := [.int 2, .int (-1)]) (rest := []) ⟨hx, hb, hml, hown, hwd⟩ (c_keepThose_0 l dC dI tt h0 s_ids s_attributes s_permanent s_glyphs s_glyphCount s_dots s_used s_wishes s_pins s_id s_code s_chosen s_chosenKnown s_left s_coming 2 (-1) H.size ) (cwV 2 hwd (gV gd_FontShelf_keepThose wd_2_53 wd_2_55 ws_8 wd_1_5) rfl rfl rfl (by decide +kernel) ⟨Nat.le_of_ble_eq_true rfl, Nat.le_of_ble_eq_true rfl⟩) ⟨fun a U g mk q => by obtain ⟨q0, q1, qP, qK, qD, qF⟩ := q; exact ⟨q0, q1, qP, va_K.moved (u := U) (U := U.calling g mk a) (Vm.Alike.refl U.vm) qK, qD, SF.same (u := U) (U := U.calling g mk a) rfl qF⟩, va_recv hKc hPc (ci := 3) (q0 := 0) rfl rfl, fun U hU hW => ⟨rfl, by rw [hU], by rw [hU]; exact hPc, va_K.moved hW.alike hKc, hDc.weaken (fun _ _ _ _ => trivial), by rw [hU]; exact SF.narrow (SF.moved hW (SF.kept hF (fun a h1 h2 => hS.2.1 a h1 h2))) hFc⟩⟩ rfl rfl hl.1 rfl (lv_room (Nat.le_of_ble_eq_true rfl)) d_FontShelf_choose_147 ⟨Nat.le_of_ble_eq_true rfl, Nat.le_of_ble_eq_true rfl⟩) hS (fun q _ h => hFc q h) hFc ?_
          clear hPc hDc hKc hS
          intro r_47 u_48 t H1 locs ht hvm hw hB hz1 hk1 hS
          obtain ⟨hP1, hK1, hD1⟩ := hB
          rw [ht] at hP1
          have hK1 := va_K.moved hvm.symm hK1
          try dsimp only at hw
          have hJ := va_join (wr := [(s_pins, .inl (cp, 2, .inl pn)), (s_left, .inl (cl, 32, .inl ly)), (s_wishes, .inl (cw, 14, .inl wi))]) (w1 := [(h0, .inr (3, [.ref s_ids, .ref s_attributes, .ref s_permanent, .int 0, .ref s_glyphs, .int s_glyphCount, .ref s_dots, .int s_used, .ref s_wishes, .ref s_pins, .int s_id, .int s_code, .ref s_chosen, .int s_chosenKnown, .ref s_left, .ref s_coming]))]) hP hD [3] [0, 1, 2] rfl rfl (by decide) (by decide) hk1 hFc hP1 hD1
          clear hP hD hk1 hFc hP1 hD1 hz1
          obtain ⟨hP, hD⟩ := hJ
          clear hK1 ht hvm
          generalize H1 = H at hP hS ⊢
          replace hP : va_P (dC, dI) vcl [(s_pins, .inl (cp, 2, .inl pn)), (s_left, .inl (cl, 32, .inl ly)), (s_wishes, .inl (cw, 14, .inl wi)), (h0, .inr (3, [.ref s_ids, .ref s_attributes, .ref s_permanent, .int 0, .ref s_glyphs, .int s_glyphCount, .ref s_dots, .int s_used, .ref s_wishes, .ref s_pins, .int s_id, .int s_code, .ref s_chosen, .int s_chosenKnown, .ref s_left, .ref s_coming]))] H := hP
          replace hD : va_D A [(s_pins, .inl (cp, 2, .inl pn)), (s_left, .inl (cl, 32, .inl ly)), (s_wishes, .inl (cw, 14, .inl wi)), (h0, .inr (3, [.ref s_ids, .ref s_attributes, .ref s_permanent, .int 0, .ref s_glyphs, .int s_glyphCount, .ref s_dots, .int s_used, .ref s_wishes, .ref s_pins, .int s_id, .int s_code, .ref s_chosen, .int s_chosenKnown, .ref s_left, .ref s_coming]))] := hD
          obtain rfl := hw
          refine lv_pop hx hb d_FontShelf_choose_150 rfl ?_
          refine lv_aload_n hx hb d_FontShelf_choose_151 rfl (lv_at hl 0 rfl) ?_
          refine lv_iconst (v := 3) hx hb d_FontShelf_choose_152 (by decide) ?_
          refine lv_aload_n hx hb d_FontShelf_choose_153 rfl (lv_at hl 0 rfl) ?_
          refine lv_aload_n hx hb d_FontShelf_choose_154 rfl (lv_at hl 0 rfl) ?_
          refine va_get (D := (dC, dI)) (ci := 3) (v := .ref s_wishes) (C := R_FontShelf) (T := F_FontShelf) (N := 16) hx hb hwd i_FontShelf hown hK hP 3 rfl rfl 8 (by decide) (hwd _ wd_2_109) (fun _ h9 => h9) rfl d_FontShelf_choose_155 ?_
          refine lv_iload_n hx hb d_FontShelf_choose_158 rfl (lv_at hl 2 rfl) ?_
          refine lv_iconst (v := 3) hx hb d_FontShelf_choose_159 (by decide) ?_
          refine lv_iadd hx hb d_FontShelf_choose_160 ?_
          refine lv_topi (fun y_49 ey_49 => ?_)
          obtain rfl : y_49 = (10 : Int32) := ey_49.trans (by decide)
          refine va_iald hx hb hK hP 2 2 rfl rfl (show ¬ ((10 : Int32) < 0 ∨ 14 ≤ (10 : Int32).toNatClampNeg) by decide) d_FontShelf_choose_161 ?_
          refine lv_topi (fun y_50 ey_50 => ?_)
          obtain rfl : y_50 = wi 10 := ey_50.trans (by rw [show (10 : Int32).toNatClampNeg = 10 by decide])
          have hPc := hP.sub (ws' := [(h0, .inr (3, [.ref s_ids, .ref s_attributes, .ref s_permanent, .int 0, .ref s_glyphs, .int s_glyphCount, .ref s_dots, .int s_used, .ref s_wishes, .ref s_pins, .int s_id, .int s_code, .ref s_chosen, .int s_chosenKnown, .ref s_left, .ref s_coming]))]) [3] rfl
          have hDc := hD.sub (ws' := [(h0, .inr (3, [.ref s_ids, .ref s_attributes, .ref s_permanent, .int 0, .ref s_glyphs, .int s_glyphCount, .ref s_dots, .int s_used, .ref s_wishes, .ref s_pins, .int s_id, .int s_code, .ref s_chosen, .int s_chosenKnown, .ref s_left, .ref s_coming]))]) [3] (by decide) rfl
          have hKc := hK.sub (tys' := []) [] rfl
          have hFc := va_free (wc := [(h0, .inr (3, [.ref s_ids, .ref s_attributes, .ref s_permanent, .int 0, .ref s_glyphs, .int s_glyphCount, .ref s_dots, .int s_used, .ref s_wishes, .ref s_pins, .int s_id, .int s_code, .ref s_chosen, .int s_chosenKnown, .ref s_left, .ref s_coming]))]) hD hS hA [3] rfl
          refine va_calli (va_runV (As := [.int (wi 10)]) (rest := [.int 3, .ref h0]) ⟨hx, hb, hml, hown, hwd⟩ (c_nearestHeight_0 l dC dI tt h0 s_ids s_attributes s_permanent s_glyphs s_glyphCount s_dots s_used s_wishes s_pins s_id s_code s_chosen s_chosenKnown s_left s_coming (wi 10) H.size ) (cwV 1 hwd (gV gd_FontShelf_nearestHeight wd_2_79 wd_2_81 ws_14 wd_1_5) rfl rfl rfl (by decide +kernel) ⟨Nat.le_of_ble_eq_true rfl, Nat.le_of_ble_eq_true rfl⟩) ⟨fun a U g mk q => by obtain ⟨q0, q1, qP, qK, qD, qF⟩ := q; exact ⟨q0, q1, qP, va_K.moved (u := U) (U := U.calling g mk a) (Vm.Alike.refl U.vm) qK, qD, SF.same (u := U) (U := U.calling g mk a) rfl qF⟩, va_recv hKc hPc (ci := 3) (q0 := 0) rfl rfl, fun U hU hW => ⟨rfl, by rw [hU], by rw [hU]; exact hPc, va_K.moved hW.alike hKc, hDc.weaken (fun _ _ _ _ => trivial), by rw [hU]; exact SF.narrow (SF.moved hW (SF.kept hF (fun a h1 h2 => hS.2.1 a h1 h2))) hFc⟩⟩ rfl rfl hl.1 rfl (lv_room (Nat.le_of_ble_eq_true rfl)) d_FontShelf_choose_162 ⟨Nat.le_of_ble_eq_true rfl, Nat.le_of_ble_eq_true rfl⟩) hS (fun q _ h => hFc q h) hFc ?_
          clear hPc hDc hKc hS
          intro r_51 u_52 t H1 locs ht hvm hw hB hz1 hk1 hS
          obtain ⟨hP1, hK1, hD1⟩ := hB
          rw [ht] at hP1
          have hK1 := va_K.moved hvm.symm hK1
          try dsimp only at hw
          have hJ := va_join (wr := [(s_pins, .inl (cp, 2, .inl pn)), (s_left, .inl (cl, 32, .inl ly)), (s_wishes, .inl (cw, 14, .inl wi))]) (w1 := [(h0, .inr (3, [.ref s_ids, .ref s_attributes, .ref s_permanent, .int 0, .ref s_glyphs, .int s_glyphCount, .ref s_dots, .int s_used, .ref s_wishes, .ref s_pins, .int s_id, .int s_code, .ref s_chosen, .int s_chosenKnown, .ref s_left, .ref s_coming]))]) hP hD [3] [0, 1, 2] rfl rfl (by decide) (by decide) hk1 hFc hP1 hD1
          clear hP hD hk1 hFc hP1 hD1 hz1
          obtain ⟨hP, hD⟩ := hJ
          clear hK1 ht hvm
          generalize H1 = H at hP hS ⊢
          replace hP : va_P (dC, dI) vcl [(s_pins, .inl (cp, 2, .inl pn)), (s_left, .inl (cl, 32, .inl ly)), (s_wishes, .inl (cw, 14, .inl wi)), (h0, .inr (3, [.ref s_ids, .ref s_attributes, .ref s_permanent, .int 0, .ref s_glyphs, .int s_glyphCount, .ref s_dots, .int s_used, .ref s_wishes, .ref s_pins, .int s_id, .int s_code, .ref s_chosen, .int s_chosenKnown, .ref s_left, .ref s_coming]))] H := hP
          replace hD : va_D A [(s_pins, .inl (cp, 2, .inl pn)), (s_left, .inl (cl, 32, .inl ly)), (s_wishes, .inl (cw, 14, .inl wi)), (h0, .inr (3, [.ref s_ids, .ref s_attributes, .ref s_permanent, .int 0, .ref s_glyphs, .int s_glyphCount, .ref s_dots, .int s_used, .ref s_wishes, .ref s_pins, .int s_id, .int s_code, .ref s_chosen, .int s_chosenKnown, .ref s_left, .ref s_coming]))] := hD
          obtain rfl := hw
          have hPc := hP.sub (ws' := [(h0, .inr (3, [.ref s_ids, .ref s_attributes, .ref s_permanent, .int 0, .ref s_glyphs, .int s_glyphCount, .ref s_dots, .int s_used, .ref s_wishes, .ref s_pins, .int s_id, .int s_code, .ref s_chosen, .int s_chosenKnown, .ref s_left, .ref s_coming]))]) [3] rfl
          have hDc := hD.sub (ws' := [(h0, .inr (3, [.ref s_ids, .ref s_attributes, .ref s_permanent, .int 0, .ref s_glyphs, .int s_glyphCount, .ref s_dots, .int s_used, .ref s_wishes, .ref s_pins, .int s_id, .int s_code, .ref s_chosen, .int s_chosenKnown, .ref s_left, .ref s_coming]))]) [3] (by decide) rfl
          have hKc := hK.sub (tys' := []) [] rfl
          have hFc := va_free (wc := [(h0, .inr (3, [.ref s_ids, .ref s_attributes, .ref s_permanent, .int 0, .ref s_glyphs, .int s_glyphCount, .ref s_dots, .int s_used, .ref s_wishes, .ref s_pins, .int s_id, .int s_code, .ref s_chosen, .int s_chosenKnown, .ref s_left, .ref s_coming]))]) hD hS hA [3] rfl
          refine va_calli (va_runV (As := [.int 3, .int (-1)]) (rest := []) ⟨hx, hb, hml, hown, hwd⟩ (c_keepThose_0 l dC dI tt h0 s_ids s_attributes s_permanent s_glyphs s_glyphCount s_dots s_used s_wishes s_pins s_id s_code s_chosen s_chosenKnown s_left s_coming 3 (-1) H.size ) (cwV 2 hwd (gV gd_FontShelf_keepThose wd_2_53 wd_2_55 ws_8 wd_1_5) rfl rfl rfl (by decide +kernel) ⟨Nat.le_of_ble_eq_true rfl, Nat.le_of_ble_eq_true rfl⟩) ⟨fun a U g mk q => by obtain ⟨q0, q1, qP, qK, qD, qF⟩ := q; exact ⟨q0, q1, qP, va_K.moved (u := U) (U := U.calling g mk a) (Vm.Alike.refl U.vm) qK, qD, SF.same (u := U) (U := U.calling g mk a) rfl qF⟩, va_recv hKc hPc (ci := 3) (q0 := 0) rfl rfl, fun U hU hW => ⟨rfl, by rw [hU], by rw [hU]; exact hPc, va_K.moved hW.alike hKc, hDc.weaken (fun _ _ _ _ => trivial), by rw [hU]; exact SF.narrow (SF.moved hW (SF.kept hF (fun a h1 h2 => hS.2.1 a h1 h2))) hFc⟩⟩ rfl rfl hl.1 rfl (lv_room (Nat.le_of_ble_eq_true rfl)) d_FontShelf_choose_165 ⟨Nat.le_of_ble_eq_true rfl, Nat.le_of_ble_eq_true rfl⟩) hS (fun q _ h => hFc q h) hFc ?_
          clear hPc hDc hKc hS
          intro r_53 u_54 t H1 locs ht hvm hw hB hz1 hk1 hS
          obtain ⟨hP1, hK1, hD1⟩ := hB
          rw [ht] at hP1
          have hK1 := va_K.moved hvm.symm hK1
          try dsimp only at hw
          have hJ := va_join (wr := [(s_pins, .inl (cp, 2, .inl pn)), (s_left, .inl (cl, 32, .inl ly)), (s_wishes, .inl (cw, 14, .inl wi))]) (w1 := [(h0, .inr (3, [.ref s_ids, .ref s_attributes, .ref s_permanent, .int 0, .ref s_glyphs, .int s_glyphCount, .ref s_dots, .int s_used, .ref s_wishes, .ref s_pins, .int s_id, .int s_code, .ref s_chosen, .int s_chosenKnown, .ref s_left, .ref s_coming]))]) hP hD [3] [0, 1, 2] rfl rfl (by decide) (by decide) hk1 hFc hP1 hD1
          clear hP hD hk1 hFc hP1 hD1 hz1
          obtain ⟨hP, hD⟩ := hJ
          clear hK1 ht hvm
          generalize H1 = H at hP hS ⊢
          replace hP : va_P (dC, dI) vcl [(s_pins, .inl (cp, 2, .inl pn)), (s_left, .inl (cl, 32, .inl ly)), (s_wishes, .inl (cw, 14, .inl wi)), (h0, .inr (3, [.ref s_ids, .ref s_attributes, .ref s_permanent, .int 0, .ref s_glyphs, .int s_glyphCount, .ref s_dots, .int s_used, .ref s_wishes, .ref s_pins, .int s_id, .int s_code, .ref s_chosen, .int s_chosenKnown, .ref s_left, .ref s_coming]))] H := hP
          replace hD : va_D A [(s_pins, .inl (cp, 2, .inl pn)), (s_left, .inl (cl, 32, .inl ly)), (s_wishes, .inl (cw, 14, .inl wi)), (h0, .inr (3, [.ref s_ids, .ref s_attributes, .ref s_permanent, .int 0, .ref s_glyphs, .int s_glyphCount, .ref s_dots, .int s_used, .ref s_wishes, .ref s_pins, .int s_id, .int s_code, .ref s_chosen, .int s_chosenKnown, .ref s_left, .ref s_coming]))] := hD
          obtain rfl := hw
          refine lv_pop hx hb d_FontShelf_choose_168 rfl ?_
          refine lv_aload_n hx hb d_FontShelf_choose_169 rfl (lv_at hl 0 rfl) ?_
          refine lv_iconst (v := 4) hx hb d_FontShelf_choose_170 (by decide) ?_
          refine lv_aload_n hx hb d_FontShelf_choose_171 rfl (lv_at hl 0 rfl) ?_
          refine va_get (D := (dC, dI)) (ci := 3) (v := .ref s_wishes) (C := R_FontShelf) (T := F_FontShelf) (N := 16) hx hb hwd i_FontShelf hown hK hP 3 rfl rfl 8 (by decide) (hwd _ wd_2_109) (fun _ h9 => h9) rfl d_FontShelf_choose_172 ?_
          refine lv_iload_n hx hb d_FontShelf_choose_175 rfl (lv_at hl 2 rfl) ?_
          refine lv_iconst (v := 4) hx hb d_FontShelf_choose_176 (by decide) ?_
          refine lv_iadd hx hb d_FontShelf_choose_177 ?_
          refine lv_topi (fun y_55 ey_55 => ?_)
          obtain rfl : y_55 = (11 : Int32) := ey_55.trans (by decide)
          refine va_iald hx hb hK hP 2 2 rfl rfl (show ¬ ((11 : Int32) < 0 ∨ 14 ≤ (11 : Int32).toNatClampNeg) by decide) d_FontShelf_choose_178 ?_
          refine lv_topi (fun y_56 ey_56 => ?_)
          obtain rfl : y_56 = wi 11 := ey_56.trans (by rw [show (11 : Int32).toNatClampNeg = 11 by decide])
          have hPc := hP.sub (ws' := [(h0, .inr (3, [.ref s_ids, .ref s_attributes, .ref s_permanent, .int 0, .ref s_glyphs, .int s_glyphCount, .ref s_dots, .int s_used, .ref s_wishes, .ref s_pins, .int s_id, .int s_code, .ref s_chosen, .int s_chosenKnown, .ref s_left, .ref s_coming]))]) [3] rfl
          have hDc := hD.sub (ws' := [(h0, .inr (3, [.ref s_ids, .ref s_attributes, .ref s_permanent, .int 0, .ref s_glyphs, .int s_glyphCount, .ref s_dots, .int s_used, .ref s_wishes, .ref s_pins, .int s_id, .int s_code, .ref s_chosen, .int s_chosenKnown, .ref s_left, .ref s_coming]))]) [3] (by decide) rfl
          have hKc := hK.sub (tys' := []) [] rfl
          have hFc := va_free (wc := [(h0, .inr (3, [.ref s_ids, .ref s_attributes, .ref s_permanent, .int 0, .ref s_glyphs, .int s_glyphCount, .ref s_dots, .int s_used, .ref s_wishes, .ref s_pins, .int s_id, .int s_code, .ref s_chosen, .int s_chosenKnown, .ref s_left, .ref s_coming]))]) hD hS hA [3] rfl
          refine va_calli (va_runV (As := [.int 4, .int (wi 11)]) (rest := []) ⟨hx, hb, hml, hown, hwd⟩ (c_keepThose_0 l dC dI tt h0 s_ids s_attributes s_permanent s_glyphs s_glyphCount s_dots s_used s_wishes s_pins s_id s_code s_chosen s_chosenKnown s_left s_coming 4 (wi 11) H.size ) (cwV 2 hwd (gV gd_FontShelf_keepThose wd_2_53 wd_2_55 ws_8 wd_1_5) rfl rfl rfl (by decide +kernel) ⟨Nat.le_of_ble_eq_true rfl, Nat.le_of_ble_eq_true rfl⟩) ⟨fun a U g mk q => by obtain ⟨q0, q1, qP, qK, qD, qF⟩ := q; exact ⟨q0, q1, qP, va_K.moved (u := U) (U := U.calling g mk a) (Vm.Alike.refl U.vm) qK, qD, SF.same (u := U) (U := U.calling g mk a) rfl qF⟩, va_recv hKc hPc (ci := 3) (q0 := 0) rfl rfl, fun U hU hW => ⟨rfl, by rw [hU], by rw [hU]; exact hPc, va_K.moved hW.alike hKc, hDc.weaken (fun _ _ _ _ => trivial), by rw [hU]; exact SF.narrow (SF.moved hW (SF.kept hF (fun a h1 h2 => hS.2.1 a h1 h2))) hFc⟩⟩ rfl rfl hl.1 rfl (lv_room (Nat.le_of_ble_eq_true rfl)) d_FontShelf_choose_179 ⟨Nat.le_of_ble_eq_true rfl, Nat.le_of_ble_eq_true rfl⟩) hS (fun q _ h => hFc q h) hFc ?_
          clear hPc hDc hKc hS
          intro r_57 u_58 t H1 locs ht hvm hw hB hz1 hk1 hS
          obtain ⟨hP1, hK1, hD1⟩ := hB
          rw [ht] at hP1
          have hK1 := va_K.moved hvm.symm hK1
          try dsimp only at hw
          have hJ := va_join (wr := [(s_pins, .inl (cp, 2, .inl pn)), (s_left, .inl (cl, 32, .inl ly)), (s_wishes, .inl (cw, 14, .inl wi))]) (w1 := [(h0, .inr (3, [.ref s_ids, .ref s_attributes, .ref s_permanent, .int 0, .ref s_glyphs, .int s_glyphCount, .ref s_dots, .int s_used, .ref s_wishes, .ref s_pins, .int s_id, .int s_code, .ref s_chosen, .int s_chosenKnown, .ref s_left, .ref s_coming]))]) hP hD [3] [0, 1, 2] rfl rfl (by decide) (by decide) hk1 hFc hP1 hD1
          clear hP hD hk1 hFc hP1 hD1 hz1
          obtain ⟨hP, hD⟩ := hJ
          clear hK1 ht hvm
          generalize H1 = H at hP hS ⊢
          replace hP : va_P (dC, dI) vcl [(s_pins, .inl (cp, 2, .inl pn)), (s_left, .inl (cl, 32, .inl ly)), (s_wishes, .inl (cw, 14, .inl wi)), (h0, .inr (3, [.ref s_ids, .ref s_attributes, .ref s_permanent, .int 0, .ref s_glyphs, .int s_glyphCount, .ref s_dots, .int s_used, .ref s_wishes, .ref s_pins, .int s_id, .int s_code, .ref s_chosen, .int s_chosenKnown, .ref s_left, .ref s_coming]))] H := hP
          replace hD : va_D A [(s_pins, .inl (cp, 2, .inl pn)), (s_left, .inl (cl, 32, .inl ly)), (s_wishes, .inl (cw, 14, .inl wi)), (h0, .inr (3, [.ref s_ids, .ref s_attributes, .ref s_permanent, .int 0, .ref s_glyphs, .int s_glyphCount, .ref s_dots, .int s_used, .ref s_wishes, .ref s_pins, .int s_id, .int s_code, .ref s_chosen, .int s_chosenKnown, .ref s_left, .ref s_coming]))] := hD
          obtain rfl := hw
          refine lv_pop hx hb d_FontShelf_choose_182 rfl ?_
          refine lv_aload_n hx hb d_FontShelf_choose_183 rfl (lv_at hl 0 rfl) ?_
          refine lv_iconst (v := 5) hx hb d_FontShelf_choose_184 (by decide) ?_
          refine lv_aload_n hx hb d_FontShelf_choose_185 rfl (lv_at hl 0 rfl) ?_
          refine va_get (D := (dC, dI)) (ci := 3) (v := .ref s_wishes) (C := R_FontShelf) (T := F_FontShelf) (N := 16) hx hb hwd i_FontShelf hown hK hP 3 rfl rfl 8 (by decide) (hwd _ wd_2_109) (fun _ h9 => h9) rfl d_FontShelf_choose_186 ?_
          refine lv_iload_n hx hb d_FontShelf_choose_189 rfl (lv_at hl 2 rfl) ?_
          refine lv_iconst (v := 5) hx hb d_FontShelf_choose_190 (by decide) ?_
          refine lv_iadd hx hb d_FontShelf_choose_191 ?_
          refine lv_topi (fun y_59 ey_59 => ?_)
          obtain rfl : y_59 = (12 : Int32) := ey_59.trans (by decide)
          refine va_iald hx hb hK hP 2 2 rfl rfl (show ¬ ((12 : Int32) < 0 ∨ 14 ≤ (12 : Int32).toNatClampNeg) by decide) d_FontShelf_choose_192 ?_
          refine lv_topi (fun y_60 ey_60 => ?_)
          obtain rfl : y_60 = wi 12 := ey_60.trans (by rw [show (12 : Int32).toNatClampNeg = 12 by decide])
          have hPc := hP.sub (ws' := [(h0, .inr (3, [.ref s_ids, .ref s_attributes, .ref s_permanent, .int 0, .ref s_glyphs, .int s_glyphCount, .ref s_dots, .int s_used, .ref s_wishes, .ref s_pins, .int s_id, .int s_code, .ref s_chosen, .int s_chosenKnown, .ref s_left, .ref s_coming]))]) [3] rfl
          have hDc := hD.sub (ws' := [(h0, .inr (3, [.ref s_ids, .ref s_attributes, .ref s_permanent, .int 0, .ref s_glyphs, .int s_glyphCount, .ref s_dots, .int s_used, .ref s_wishes, .ref s_pins, .int s_id, .int s_code, .ref s_chosen, .int s_chosenKnown, .ref s_left, .ref s_coming]))]) [3] (by decide) rfl
          have hKc := hK.sub (tys' := []) [] rfl
          have hFc := va_free (wc := [(h0, .inr (3, [.ref s_ids, .ref s_attributes, .ref s_permanent, .int 0, .ref s_glyphs, .int s_glyphCount, .ref s_dots, .int s_used, .ref s_wishes, .ref s_pins, .int s_id, .int s_code, .ref s_chosen, .int s_chosenKnown, .ref s_left, .ref s_coming]))]) hD hS hA [3] rfl
          refine va_calli (va_runV (As := [.int 5, .int (wi 12)]) (rest := []) ⟨hx, hb, hml, hown, hwd⟩ (c_keepThose_0 l dC dI tt h0 s_ids s_attributes s_permanent s_glyphs s_glyphCount s_dots s_used s_wishes s_pins s_id s_code s_chosen s_chosenKnown s_left s_coming 5 (wi 12) H.size ) (cwV 2 hwd (gV gd_FontShelf_keepThose wd_2_53 wd_2_55 ws_8 wd_1_5) rfl rfl rfl (by decide +kernel) ⟨Nat.le_of_ble_eq_true rfl, Nat.le_of_ble_eq_true rfl⟩) ⟨fun a U g mk q => by obtain ⟨q0, q1, qP, qK, qD, qF⟩ := q; exact ⟨q0, q1, qP, va_K.moved (u := U) (U := U.calling g mk a) (Vm.Alike.refl U.vm) qK, qD, SF.same (u := U) (U := U.calling g mk a) rfl qF⟩, va_recv hKc hPc (ci := 3) (q0 := 0) rfl rfl, fun U hU hW => ⟨rfl, by rw [hU], by rw [hU]; exact hPc, va_K.moved hW.alike hKc, hDc.weaken (fun _ _ _ _ => trivial), by rw [hU]; exact SF.narrow (SF.moved hW (SF.kept hF (fun a h1 h2 => hS.2.1 a h1 h2))) hFc⟩⟩ rfl rfl hl.1 rfl (lv_room (Nat.le_of_ble_eq_true rfl)) d_FontShelf_choose_193 ⟨Nat.le_of_ble_eq_true rfl, Nat.le_of_ble_eq_true rfl⟩) hS (fun q _ h => hFc q h) hFc ?_
          clear hPc hDc hKc hS
          intro r_61 u_62 t H1 locs ht hvm hw hB hz1 hk1 hS
          obtain ⟨hP1, hK1, hD1⟩ := hB
          rw [ht] at hP1
          have hK1 := va_K.moved hvm.symm hK1
          try dsimp only at hw
          have hJ := va_join (wr := [(s_pins, .inl (cp, 2, .inl pn)), (s_left, .inl (cl, 32, .inl ly)), (s_wishes, .inl (cw, 14, .inl wi))]) (w1 := [(h0, .inr (3, [.ref s_ids, .ref s_attributes, .ref s_permanent, .int 0, .ref s_glyphs, .int s_glyphCount, .ref s_dots, .int s_used, .ref s_wishes, .ref s_pins, .int s_id, .int s_code, .ref s_chosen, .int s_chosenKnown, .ref s_left, .ref s_coming]))]) hP hD [3] [0, 1, 2] rfl rfl (by decide) (by decide) hk1 hFc hP1 hD1
          clear hP hD hk1 hFc hP1 hD1 hz1
          obtain ⟨hP, hD⟩ := hJ
          clear hK1 ht hvm
          generalize H1 = H at hP hS ⊢
          replace hP : va_P (dC, dI) vcl [(s_pins, .inl (cp, 2, .inl pn)), (s_left, .inl (cl, 32, .inl ly)), (s_wishes, .inl (cw, 14, .inl wi)), (h0, .inr (3, [.ref s_ids, .ref s_attributes, .ref s_permanent, .int 0, .ref s_glyphs, .int s_glyphCount, .ref s_dots, .int s_used, .ref s_wishes, .ref s_pins, .int s_id, .int s_code, .ref s_chosen, .int s_chosenKnown, .ref s_left, .ref s_coming]))] H := hP
          replace hD : va_D A [(s_pins, .inl (cp, 2, .inl pn)), (s_left, .inl (cl, 32, .inl ly)), (s_wishes, .inl (cw, 14, .inl wi)), (h0, .inr (3, [.ref s_ids, .ref s_attributes, .ref s_permanent, .int 0, .ref s_glyphs, .int s_glyphCount, .ref s_dots, .int s_used, .ref s_wishes, .ref s_pins, .int s_id, .int s_code, .ref s_chosen, .int s_chosenKnown, .ref s_left, .ref s_coming]))] := hD
          obtain rfl := hw
          refine lv_if_ne (tgt := 217) hx hb d_FontShelf_choose_196 (by decide) (fun c196 => absurd c196 (by decide)) (fun _ => ?_)
          refine lv_aload_n hx hb d_FontShelf_choose_199 rfl (lv_at hl 0 rfl) ?_
          refine lv_iconst (v := 5) hx hb d_FontShelf_choose_200 (by decide) ?_
          refine lv_aload_n hx hb d_FontShelf_choose_201 rfl (lv_at hl 0 rfl) ?_
          refine lv_aload_n hx hb d_FontShelf_choose_202 rfl (lv_at hl 0 rfl) ?_
          refine va_get (D := (dC, dI)) (ci := 3) (v := .ref s_wishes) (C := R_FontShelf) (T := F_FontShelf) (N := 16) hx hb hwd i_FontShelf hown hK hP 3 rfl rfl 8 (by decide) (hwd _ wd_2_109) (fun _ h9 => h9) rfl d_FontShelf_choose_203 ?_
          refine lv_iload_n hx hb d_FontShelf_choose_206 rfl (lv_at hl 2 rfl) ?_
          refine lv_iconst (v := 5) hx hb d_FontShelf_choose_207 (by decide) ?_
          refine lv_iadd hx hb d_FontShelf_choose_208 ?_
          refine lv_topi (fun y_63 ey_63 => ?_)
          obtain rfl : y_63 = (12 : Int32) := ey_63.trans (by decide)
          refine va_iald hx hb hK hP 2 2 rfl rfl (show ¬ ((12 : Int32) < 0 ∨ 14 ≤ (12 : Int32).toNatClampNeg) by decide) d_FontShelf_choose_209 ?_
          refine lv_topi (fun y_64 ey_64 => ?_)
          obtain rfl : y_64 = wi 12 := ey_64.trans (by rw [show (12 : Int32).toNatClampNeg = 12 by decide])
          have hPc := hP.sub (ws' := [(h0, .inr (3, [.ref s_ids, .ref s_attributes, .ref s_permanent, .int 0, .ref s_glyphs, .int s_glyphCount, .ref s_dots, .int s_used, .ref s_wishes, .ref s_pins, .int s_id, .int s_code, .ref s_chosen, .int s_chosenKnown, .ref s_left, .ref s_coming]))]) [3] rfl
          have hDc := hD.sub (ws' := [(h0, .inr (3, [.ref s_ids, .ref s_attributes, .ref s_permanent, .int 0, .ref s_glyphs, .int s_glyphCount, .ref s_dots, .int s_used, .ref s_wishes, .ref s_pins, .int s_id, .int s_code, .ref s_chosen, .int s_chosenKnown, .ref s_left, .ref s_coming]))]) [3] (by decide) rfl
          have hKc := hK.sub (tys' := []) [] rfl
          have hFc := va_free (wc := [(h0, .inr (3, [.ref s_ids, .ref s_attributes, .ref s_permanent, .int 0, .ref s_glyphs, .int s_glyphCount, .ref s_dots, .int s_used, .ref s_wishes, .ref s_pins, .int s_id, .int s_code, .ref s_chosen, .int s_chosenKnown, .ref s_left, .ref s_coming]))]) hD hS hA [3] rfl
          refine va_calli (va_runV (As := [.int (wi 12)]) (rest := [.int 5, .ref h0]) ⟨hx, hb, hml, hown, hwd⟩ (c_bestWeight_0 l dC dI tt h0 s_ids s_attributes s_permanent s_glyphs s_glyphCount s_dots s_used s_wishes s_pins s_id s_code s_chosen s_chosenKnown s_left s_coming (wi 12) H.size ) (cwV 1 hwd (gV gd_FontShelf_bestWeight wd_2_84 wd_2_86 ws_15 wd_1_5) rfl rfl rfl (by decide +kernel) ⟨Nat.le_of_ble_eq_true rfl, Nat.le_of_ble_eq_true rfl⟩) ⟨fun a U g mk q => by obtain ⟨q0, q1, qP, qK, qD, qF⟩ := q; exact ⟨q0, q1, qP, va_K.moved (u := U) (U := U.calling g mk a) (Vm.Alike.refl U.vm) qK, qD, SF.same (u := U) (U := U.calling g mk a) rfl qF⟩, va_recv hKc hPc (ci := 3) (q0 := 0) rfl rfl, fun U hU hW => ⟨rfl, by rw [hU], by rw [hU]; exact hPc, va_K.moved hW.alike hKc, hDc.weaken (fun _ _ _ _ => trivial), by rw [hU]; exact SF.narrow (SF.moved hW (SF.kept hF (fun a h1 h2 => hS.2.1 a h1 h2))) hFc⟩⟩ rfl rfl hl.1 rfl (lv_room (Nat.le_of_ble_eq_true rfl)) d_FontShelf_choose_210 ⟨Nat.le_of_ble_eq_true rfl, Nat.le_of_ble_eq_true rfl⟩) hS (fun q _ h => hFc q h) hFc ?_
          clear hPc hDc hKc hS
          intro r_65 u_66 t H1 locs ht hvm hw hB hz1 hk1 hS
          obtain ⟨hP1, hK1, hD1⟩ := hB
          rw [ht] at hP1
          have hK1 := va_K.moved hvm.symm hK1
          try dsimp only at hw
          have hJ := va_join (wr := [(s_pins, .inl (cp, 2, .inl pn)), (s_left, .inl (cl, 32, .inl ly)), (s_wishes, .inl (cw, 14, .inl wi))]) (w1 := [(h0, .inr (3, [.ref s_ids, .ref s_attributes, .ref s_permanent, .int 0, .ref s_glyphs, .int s_glyphCount, .ref s_dots, .int s_used, .ref s_wishes, .ref s_pins, .int s_id, .int s_code, .ref s_chosen, .int s_chosenKnown, .ref s_left, .ref s_coming]))]) hP hD [3] [0, 1, 2] rfl rfl (by decide) (by decide) hk1 hFc hP1 hD1
          clear hP hD hk1 hFc hP1 hD1 hz1
          obtain ⟨hP, hD⟩ := hJ
          clear hK1 ht hvm
          generalize H1 = H at hP hS ⊢
          replace hP : va_P (dC, dI) vcl [(s_pins, .inl (cp, 2, .inl pn)), (s_left, .inl (cl, 32, .inl ly)), (s_wishes, .inl (cw, 14, .inl wi)), (h0, .inr (3, [.ref s_ids, .ref s_attributes, .ref s_permanent, .int 0, .ref s_glyphs, .int s_glyphCount, .ref s_dots, .int s_used, .ref s_wishes, .ref s_pins, .int s_id, .int s_code, .ref s_chosen, .int s_chosenKnown, .ref s_left, .ref s_coming]))] H := hP
          replace hD : va_D A [(s_pins, .inl (cp, 2, .inl pn)), (s_left, .inl (cl, 32, .inl ly)), (s_wishes, .inl (cw, 14, .inl wi)), (h0, .inr (3, [.ref s_ids, .ref s_attributes, .ref s_permanent, .int 0, .ref s_glyphs, .int s_glyphCount, .ref s_dots, .int s_used, .ref s_wishes, .ref s_pins, .int s_id, .int s_code, .ref s_chosen, .int s_chosenKnown, .ref s_left, .ref s_coming]))] := hD
          obtain rfl := hw
          have hPc := hP.sub (ws' := [(h0, .inr (3, [.ref s_ids, .ref s_attributes, .ref s_permanent, .int 0, .ref s_glyphs, .int s_glyphCount, .ref s_dots, .int s_used, .ref s_wishes, .ref s_pins, .int s_id, .int s_code, .ref s_chosen, .int s_chosenKnown, .ref s_left, .ref s_coming]))]) [3] rfl
          have hDc := hD.sub (ws' := [(h0, .inr (3, [.ref s_ids, .ref s_attributes, .ref s_permanent, .int 0, .ref s_glyphs, .int s_glyphCount, .ref s_dots, .int s_used, .ref s_wishes, .ref s_pins, .int s_id, .int s_code, .ref s_chosen, .int s_chosenKnown, .ref s_left, .ref s_coming]))]) [3] (by decide) rfl
          have hKc := hK.sub (tys' := []) [] rfl
          have hFc := va_free (wc := [(h0, .inr (3, [.ref s_ids, .ref s_attributes, .ref s_permanent, .int 0, .ref s_glyphs, .int s_glyphCount, .ref s_dots, .int s_used, .ref s_wishes, .ref s_pins, .int s_id, .int s_code, .ref s_chosen, .int s_chosenKnown, .ref s_left, .ref s_coming]))]) hD hS hA [3] rfl
          refine va_calli (va_runV (As := [.int 5, .int (wi 12)]) (rest := []) ⟨hx, hb, hml, hown, hwd⟩ (c_keepThose_0 l dC dI tt h0 s_ids s_attributes s_permanent s_glyphs s_glyphCount s_dots s_used s_wishes s_pins s_id s_code s_chosen s_chosenKnown s_left s_coming 5 (wi 12) H.size ) (cwV 2 hwd (gV gd_FontShelf_keepThose wd_2_53 wd_2_55 ws_8 wd_1_5) rfl rfl rfl (by decide +kernel) ⟨Nat.le_of_ble_eq_true rfl, Nat.le_of_ble_eq_true rfl⟩) ⟨fun a U g mk q => by obtain ⟨q0, q1, qP, qK, qD, qF⟩ := q; exact ⟨q0, q1, qP, va_K.moved (u := U) (U := U.calling g mk a) (Vm.Alike.refl U.vm) qK, qD, SF.same (u := U) (U := U.calling g mk a) rfl qF⟩, va_recv hKc hPc (ci := 3) (q0 := 0) rfl rfl, fun U hU hW => ⟨rfl, by rw [hU], by rw [hU]; exact hPc, va_K.moved hW.alike hKc, hDc.weaken (fun _ _ _ _ => trivial), by rw [hU]; exact SF.narrow (SF.moved hW (SF.kept hF (fun a h1 h2 => hS.2.1 a h1 h2))) hFc⟩⟩ rfl rfl hl.1 rfl (lv_room (Nat.le_of_ble_eq_true rfl)) d_FontShelf_choose_213 ⟨Nat.le_of_ble_eq_true rfl, Nat.le_of_ble_eq_true rfl⟩) hS (fun q _ h => hFc q h) hFc ?_
          clear hPc hDc hKc hS
          intro r_67 u_68 t H1 locs ht hvm hw hB hz1 hk1 hS
          obtain ⟨hP1, hK1, hD1⟩ := hB
          rw [ht] at hP1
          have hK1 := va_K.moved hvm.symm hK1
          try dsimp only at hw
          have hJ := va_join (wr := [(s_pins, .inl (cp, 2, .inl pn)), (s_left, .inl (cl, 32, .inl ly)), (s_wishes, .inl (cw, 14, .inl wi))]) (w1 := [(h0, .inr (3, [.ref s_ids, .ref s_attributes, .ref s_permanent, .int 0, .ref s_glyphs, .int s_glyphCount, .ref s_dots, .int s_used, .ref s_wishes, .ref s_pins, .int s_id, .int s_code, .ref s_chosen, .int s_chosenKnown, .ref s_left, .ref s_coming]))]) hP hD [3] [0, 1, 2] rfl rfl (by decide) (by decide) hk1 hFc hP1 hD1
          clear hP hD hk1 hFc hP1 hD1 hz1
          obtain ⟨hP, hD⟩ := hJ
          clear hK1 ht hvm
          generalize H1 = H at hP hS ⊢
          replace hP : va_P (dC, dI) vcl [(s_pins, .inl (cp, 2, .inl pn)), (s_left, .inl (cl, 32, .inl ly)), (s_wishes, .inl (cw, 14, .inl wi)), (h0, .inr (3, [.ref s_ids, .ref s_attributes, .ref s_permanent, .int 0, .ref s_glyphs, .int s_glyphCount, .ref s_dots, .int s_used, .ref s_wishes, .ref s_pins, .int s_id, .int s_code, .ref s_chosen, .int s_chosenKnown, .ref s_left, .ref s_coming]))] H := hP
          replace hD : va_D A [(s_pins, .inl (cp, 2, .inl pn)), (s_left, .inl (cl, 32, .inl ly)), (s_wishes, .inl (cw, 14, .inl wi)), (h0, .inr (3, [.ref s_ids, .ref s_attributes, .ref s_permanent, .int 0, .ref s_glyphs, .int s_glyphCount, .ref s_dots, .int s_used, .ref s_wishes, .ref s_pins, .int s_id, .int s_code, .ref s_chosen, .int s_chosenKnown, .ref s_left, .ref s_coming]))] := hD
          obtain rfl := hw
          refine lv_pop hx hb d_FontShelf_choose_216 rfl ?_
          refine lv_aload_n hx hb d_FontShelf_choose_217 rfl (lv_at hl 0 rfl) ?_
          refine lv_bipush (v := 6) hx hb d_FontShelf_choose_218 (by decide) ?_
          refine lv_aload_n hx hb d_FontShelf_choose_220 rfl (lv_at hl 0 rfl) ?_
          refine va_get (D := (dC, dI)) (ci := 3) (v := .ref s_wishes) (C := R_FontShelf) (T := F_FontShelf) (N := 16) hx hb hwd i_FontShelf hown hK hP 3 rfl rfl 8 (by decide) (hwd _ wd_2_109) (fun _ h9 => h9) rfl d_FontShelf_choose_221 ?_
          refine lv_iload_n hx hb d_FontShelf_choose_224 rfl (lv_at hl 2 rfl) ?_
          refine lv_bipush (v := 6) hx hb d_FontShelf_choose_225 (by decide) ?_
          refine lv_iadd hx hb d_FontShelf_choose_227 ?_
          refine lv_topi (fun y_69 ey_69 => ?_)
          obtain rfl : y_69 = (13 : Int32) := ey_69.trans (by decide)
          refine va_iald hx hb hK hP 2 2 rfl rfl (show ¬ ((13 : Int32) < 0 ∨ 14 ≤ (13 : Int32).toNatClampNeg) by decide) d_FontShelf_choose_228 ?_
          refine lv_topi (fun y_70 ey_70 => ?_)
          obtain rfl : y_70 = wi 13 := ey_70.trans (by rw [show (13 : Int32).toNatClampNeg = 13 by decide])
          have hPc := hP.sub (ws' := [(h0, .inr (3, [.ref s_ids, .ref s_attributes, .ref s_permanent, .int 0, .ref s_glyphs, .int s_glyphCount, .ref s_dots, .int s_used, .ref s_wishes, .ref s_pins, .int s_id, .int s_code, .ref s_chosen, .int s_chosenKnown, .ref s_left, .ref s_coming]))]) [3] rfl
          have hDc := hD.sub (ws' := [(h0, .inr (3, [.ref s_ids, .ref s_attributes, .ref s_permanent, .int 0, .ref s_glyphs, .int s_glyphCount, .ref s_dots, .int s_used, .ref s_wishes, .ref s_pins, .int s_id, .int s_code, .ref s_chosen, .int s_chosenKnown, .ref s_left, .ref s_coming]))]) [3] (by decide) rfl
          have hKc := hK.sub (tys' := []) [] rfl
          have hFc := va_free (wc := [(h0, .inr (3, [.ref s_ids, .ref s_attributes, .ref s_permanent, .int 0, .ref s_glyphs, .int s_glyphCount, .ref s_dots, .int s_used, .ref s_wishes, .ref s_pins, .int s_id, .int s_code, .ref s_chosen, .int s_chosenKnown, .ref s_left, .ref s_coming]))]) hD hS hA [3] rfl
          refine va_calli (va_runV (As := [.int 6, .int (wi 13)]) (rest := []) ⟨hx, hb, hml, hown, hwd⟩ (c_keepThose_0 l dC dI tt h0 s_ids s_attributes s_permanent s_glyphs s_glyphCount s_dots s_used s_wishes s_pins s_id s_code s_chosen s_chosenKnown s_left s_coming 6 (wi 13) H.size ) (cwV 2 hwd (gV gd_FontShelf_keepThose wd_2_53 wd_2_55 ws_8 wd_1_5) rfl rfl rfl (by decide +kernel) ⟨Nat.le_of_ble_eq_true rfl, Nat.le_of_ble_eq_true rfl⟩) ⟨fun a U g mk q => by obtain ⟨q0, q1, qP, qK, qD, qF⟩ := q; exact ⟨q0, q1, qP, va_K.moved (u := U) (U := U.calling g mk a) (Vm.Alike.refl U.vm) qK, qD, SF.same (u := U) (U := U.calling g mk a) rfl qF⟩, va_recv hKc hPc (ci := 3) (q0 := 0) rfl rfl, fun U hU hW => ⟨rfl, by rw [hU], by rw [hU]; exact hPc, va_K.moved hW.alike hKc, hDc.weaken (fun _ _ _ _ => trivial), by rw [hU]; exact SF.narrow (SF.moved hW (SF.kept hF (fun a h1 h2 => hS.2.1 a h1 h2))) hFc⟩⟩ rfl rfl hl.1 rfl (lv_room (Nat.le_of_ble_eq_true rfl)) d_FontShelf_choose_229 ⟨Nat.le_of_ble_eq_true rfl, Nat.le_of_ble_eq_true rfl⟩) hS (fun q _ h => hFc q h) hFc ?_
          clear hPc hDc hKc hS
          intro r_71 u_72 t H1 locs ht hvm hw hB hz1 hk1 hS
          obtain ⟨hP1, hK1, hD1⟩ := hB
          rw [ht] at hP1
          have hK1 := va_K.moved hvm.symm hK1
          try dsimp only at hw
          have hJ := va_join (wr := [(s_pins, .inl (cp, 2, .inl pn)), (s_left, .inl (cl, 32, .inl ly)), (s_wishes, .inl (cw, 14, .inl wi))]) (w1 := [(h0, .inr (3, [.ref s_ids, .ref s_attributes, .ref s_permanent, .int 0, .ref s_glyphs, .int s_glyphCount, .ref s_dots, .int s_used, .ref s_wishes, .ref s_pins, .int s_id, .int s_code, .ref s_chosen, .int s_chosenKnown, .ref s_left, .ref s_coming]))]) hP hD [3] [0, 1, 2] rfl rfl (by decide) (by decide) hk1 hFc hP1 hD1
          clear hP hD hk1 hFc hP1 hD1 hz1
          obtain ⟨hP, hD⟩ := hJ
          clear hK1 ht hvm
          generalize H1 = H at hP hS ⊢
          replace hP : va_P (dC, dI) vcl [(s_pins, .inl (cp, 2, .inl pn)), (s_left, .inl (cl, 32, .inl ly)), (s_wishes, .inl (cw, 14, .inl wi)), (h0, .inr (3, [.ref s_ids, .ref s_attributes, .ref s_permanent, .int 0, .ref s_glyphs, .int s_glyphCount, .ref s_dots, .int s_used, .ref s_wishes, .ref s_pins, .int s_id, .int s_code, .ref s_chosen, .int s_chosenKnown, .ref s_left, .ref s_coming]))] H := hP
          replace hD : va_D A [(s_pins, .inl (cp, 2, .inl pn)), (s_left, .inl (cl, 32, .inl ly)), (s_wishes, .inl (cw, 14, .inl wi)), (h0, .inr (3, [.ref s_ids, .ref s_attributes, .ref s_permanent, .int 0, .ref s_glyphs, .int s_glyphCount, .ref s_dots, .int s_used, .ref s_wishes, .ref s_pins, .int s_id, .int s_code, .ref s_chosen, .int s_chosenKnown, .ref s_left, .ref s_coming]))] := hD
          obtain rfl := hw
          refine lv_pop hx hb d_FontShelf_choose_232 rfl ?_
          refine lv_aload_n hx hb d_FontShelf_choose_233 rfl (lv_at hl 0 rfl) ?_
          have hPc := hP.sub (ws' := [(h0, .inr (3, [.ref s_ids, .ref s_attributes, .ref s_permanent, .int 0, .ref s_glyphs, .int s_glyphCount, .ref s_dots, .int s_used, .ref s_wishes, .ref s_pins, .int s_id, .int s_code, .ref s_chosen, .int s_chosenKnown, .ref s_left, .ref s_coming]))]) [3] rfl
          have hDc := hD.sub (ws' := [(h0, .inr (3, [.ref s_ids, .ref s_attributes, .ref s_permanent, .int 0, .ref s_glyphs, .int s_glyphCount, .ref s_dots, .int s_used, .ref s_wishes, .ref s_pins, .int s_id, .int s_code, .ref s_chosen, .int s_chosenKnown, .ref s_left, .ref s_coming]))]) [3] (by decide) rfl
          have hKc := hK.sub (tys' := []) [] rfl
          have hFc := va_free (wc := [(h0, .inr (3, [.ref s_ids, .ref s_attributes, .ref s_permanent, .int 0, .ref s_glyphs, .int s_glyphCount, .ref s_dots, .int s_used, .ref s_wishes, .ref s_pins, .int s_id, .int s_code, .ref s_chosen, .int s_chosenKnown, .ref s_left, .ref s_coming]))]) hD hS hA [3] rfl
          refine va_calli (va_runV (As := []) (rest := []) ⟨hx, hb, hml, hown, hwd⟩ (c_lastLeft_0 l dC dI tt h0 s_ids s_attributes s_permanent s_glyphs s_glyphCount s_dots s_used s_wishes s_pins s_id s_code s_chosen s_chosenKnown s_left s_coming H.size ) (cwV 0 hwd (gV gd_FontShelf_lastLeft wd_2_94 wd_2_96 ws_17 wd_1_5) rfl rfl rfl (by decide +kernel) ⟨Nat.le_of_ble_eq_true rfl, Nat.le_of_ble_eq_true rfl⟩) ⟨fun a U g mk q => by obtain ⟨q0, q1, qP, qK, qD, qF⟩ := q; exact ⟨q0, q1, qP, va_K.moved (u := U) (U := U.calling g mk a) (Vm.Alike.refl U.vm) qK, qD, SF.same (u := U) (U := U.calling g mk a) rfl qF⟩, va_recv hKc hPc (ci := 3) (q0 := 0) rfl rfl, fun U hU hW => ⟨rfl, by rw [hU], by rw [hU]; exact hPc, va_K.moved hW.alike hKc, hDc.weaken (fun _ _ _ _ => trivial), by rw [hU]; exact SF.narrow (SF.moved hW (SF.kept hF (fun a h1 h2 => hS.2.1 a h1 h2))) hFc⟩⟩ rfl rfl hl.1 rfl (lv_room (Nat.le_of_ble_eq_true rfl)) d_FontShelf_choose_234 ⟨Nat.le_of_ble_eq_true rfl, Nat.le_of_ble_eq_true rfl⟩) hS (fun q _ h => hFc q h) hFc ?_
          clear hPc hDc hKc hS
          intro r_73 u_74 t H1 locs ht hvm hw hB hz1 hk1 hS
          obtain ⟨hP1, hK1, hD1⟩ := hB
          rw [ht] at hP1
          have hK1 := va_K.moved hvm.symm hK1
          try dsimp only at hw
          have hJ := va_join (wr := [(s_pins, .inl (cp, 2, .inl pn)), (s_left, .inl (cl, 32, .inl ly)), (s_wishes, .inl (cw, 14, .inl wi))]) (w1 := [(h0, .inr (3, [.ref s_ids, .ref s_attributes, .ref s_permanent, .int 0, .ref s_glyphs, .int s_glyphCount, .ref s_dots, .int s_used, .ref s_wishes, .ref s_pins, .int s_id, .int s_code, .ref s_chosen, .int s_chosenKnown, .ref s_left, .ref s_coming]))]) hP hD [3] [0, 1, 2] rfl rfl (by decide) (by decide) hk1 hFc hP1 hD1
          clear hP hD hk1 hFc hP1 hD1 hz1
          obtain ⟨hP, hD⟩ := hJ
          clear hK1 ht hvm
          generalize H1 = H at hP hS ⊢
          replace hP : va_P (dC, dI) vcl [(s_pins, .inl (cp, 2, .inl pn)), (s_left, .inl (cl, 32, .inl ly)), (s_wishes, .inl (cw, 14, .inl wi)), (h0, .inr (3, [.ref s_ids, .ref s_attributes, .ref s_permanent, .int 0, .ref s_glyphs, .int s_glyphCount, .ref s_dots, .int s_used, .ref s_wishes, .ref s_pins, .int s_id, .int s_code, .ref s_chosen, .int s_chosenKnown, .ref s_left, .ref s_coming]))] H := hP
          replace hD : va_D A [(s_pins, .inl (cp, 2, .inl pn)), (s_left, .inl (cl, 32, .inl ly)), (s_wishes, .inl (cw, 14, .inl wi)), (h0, .inr (3, [.ref s_ids, .ref s_attributes, .ref s_permanent, .int 0, .ref s_glyphs, .int s_glyphCount, .ref s_dots, .int s_used, .ref s_wishes, .ref s_pins, .int s_id, .int s_code, .ref s_chosen, .int s_chosenKnown, .ref s_left, .ref s_coming]))] := hD
          obtain rfl := hw
          have hP9 := hP.sub (ws' := [(h0, .inr (3, [.ref s_ids, .ref s_attributes, .ref s_permanent, .int 0, .ref s_glyphs, .int s_glyphCount, .ref s_dots, .int s_used, .ref s_wishes, .ref s_pins, .int s_id, .int s_code, .ref s_chosen, .int s_chosenKnown, .ref s_left, .ref s_coming])), (s_pins, .inl (cp, 2, .inl pn)), (s_left, .inl (cl, 32, .inl ly)), (s_wishes, .inl (cw, 14, .inl wi))]) [3, 0, 1, 2] rfl
          have hD9 := hD.sub (ws' := [(h0, .inr (3, [.ref s_ids, .ref s_attributes, .ref s_permanent, .int 0, .ref s_glyphs, .int s_glyphCount, .ref s_dots, .int s_used, .ref s_wishes, .ref s_pins, .int s_id, .int s_code, .ref s_chosen, .int s_chosenKnown, .ref s_left, .ref s_coming])), (s_pins, .inl (cp, 2, .inl pn)), (s_left, .inl (cl, 32, .inl ly)), (s_wishes, .inl (cw, 14, .inl wi))]) [3, 0, 1, 2] (by decide) rfl
          have hK9 := hK.sub (tys' := [(cp, .int), (cl, .boolean), (cw, .int)]) [0, 1, 2] rfl
          exact W.iret (v := (-1)) hx hb hr (fun t ht hW => ⟨⟨(-1), (ly), rfl, (show ((-1) : Int32) = -1 from (by first | exact trivial | rfl | simp [*])), by rw [ht]; exact hP9, va_K.moved hW.alike hK9, hD9⟩, hS.F ht⟩) hS.2.2 d_FontShelf_choose_237
      · have hlt : ii < 32 := by
          rcases Nat.lt_or_ge ii 32 with q9 | q9
          · exact q9
          · exact absurd (by rw [exx]; exact nI_le (a := 32) q9 (by omega)) c46
        refine lv_aload_n hx hb d_FontShelf_choose_49 rfl (lv_at hl 0 rfl) ?_
        refine va_get (D := (dC, dI)) (ci := 3) (v := .ref s_left) (C := R_FontShelf) (T := F_FontShelf) (N := 16) hx hb hwd i_FontShelf hown hK hP 0 rfl rfl 14 (by decide) (hwd _ wd_2_115) (fun _ h9 => h9) rfl d_FontShelf_choose_50 ?_
        refine lv_iload hx hb d_FontShelf_choose_53 (lv_at hl 3 rfl) ?_
        refine lv_iload hx hb d_FontShelf_choose_55 (lv_at hl 3 rfl) ?_
        refine lv_aload_n hx hb d_FontShelf_choose_57 rfl (lv_at hl 0 rfl) ?_
        refine va_get (D := (dC, dI)) (ci := 3) (v := .int 0) (C := R_FontShelf) (T := F_FontShelf) (N := 16) hx hb hwd i_FontShelf hown hK hP 0 rfl rfl 3 (by decide) (hwd _ wd_2_101) (fun _ h9 => h9) rfl d_FontShelf_choose_58 ?_
        refine lv_icmp_ge (tgt := 68) hx hb d_FontShelf_choose_61 (by decide) (fun c61 => ?_) (fun c61 => absurd (by rw [exx]; exact nI_pos' (by omega)) c61)
        refine lv_iconst (v := 0) hx hb d_FontShelf_choose_68 (by decide) ?_
        refine va_zast hx hb hK hP hD hS 2 1 rfl rfl (by rw [exx]; exact vp_in_nI hlt (by omega)) d_FontShelf_choose_69 ?_
        clear hP hD hS
        intro H locs hP hD hS
        rw [show xx.toNatClampNeg = ii from by rw [exx]; exact nI_clamp (by omega)] at hP hD
        rw [show vp_nar .boolean 0 = 0 by decide] at hP hD
        replace hP : va_P (dC, dI) vcl [(h0, .inr (3, [.ref s_ids, .ref s_attributes, .ref s_permanent, .int 0, .ref s_glyphs, .int s_glyphCount, .ref s_dots, .int s_used, .ref s_wishes, .ref s_pins, .int s_id, .int s_code, .ref s_chosen, .int s_chosenKnown, .ref s_left, .ref s_coming])), (s_pins, .inl (cp, 2, .inl pn)), (s_left, .inl (cl, 32, .inl (upd ly ii 0))), (s_wishes, .inl (cw, 14, .inl wi))] H := hP
        replace hD : va_D A [(h0, .inr (3, [.ref s_ids, .ref s_attributes, .ref s_permanent, .int 0, .ref s_glyphs, .int s_glyphCount, .ref s_dots, .int s_used, .ref s_wishes, .ref s_pins, .int s_id, .int s_code, .ref s_chosen, .int s_chosenKnown, .ref s_left, .ref s_coming])), (s_pins, .inl (cp, 2, .inl pn)), (s_left, .inl (cl, 32, .inl (upd ly ii 0))), (s_wishes, .inl (cw, 14, .inl wi))] := hD
        refine lv_iinc (v := xx + 1) (lv' := [(4, .int (xx + 1)), (0, .ref h0), (1, .int 1), (3, .int 7)]) hx hb d_FontShelf_choose_70 hl (k := 3) rfl rfl (by decide) rfl ?_
        clear hl
        intro ls hl
        refine lv_goto (tgt := 39) hx hb d_FontShelf_choose_73 (by decide) ?_
        exact ih (ii + 1) (xx + 1) (upd ly ii 0) (by rw [exx]; exact nI_1 ii) (by omega) (by omega) _ _ _ hK hP hD hS (lv_sub hl [1, 2, 3, 0] rfl)
  exact cut39 (33) 0 0 lf (rfl) (Nat.zero_le _) (by omega) _ _ _ hK hP hD hS (lv_sub hl [3, 4, 1, 0] rfl)

abbrev at_c_settle_0 (dC : Nat → ClassId) (dI : Nat → Nat → Nat) (h0 : Nat) (s_ids : Nat) (s_attributes : Nat) (s_permanent : Nat) (s_glyphs : Nat) (s_glyphCount : Int32) (s_dots : Nat) (s_used : Int32) (s_wishes : Nat) (s_pins : Nat) (s_id : Int32) (s_code : Int32) (s_chosen : Nat) (s_left : Nat) (s_coming : Nat) (cp : ClassId) (pn : Nat → Int32) (cl : ClassId) (lf : Nat → Int32) (cw : ClassId) (wi : Nat → Int32) (cc : ClassId) (ch : Nat → Int32) (A : Nat → Prop) (u : (Nat → Int32)) (t : State) : Prop := match u with
  | fc0 => va_P (dC, dI) vcl [(s_chosen, .inl (cc, 2, .inl (upd (upd ch 0 (-1)) 1 (-1)))), (h0, .inr (3, [.ref s_ids, .ref s_attributes, .ref s_permanent, .int 0, .ref s_glyphs, .int s_glyphCount, .ref s_dots, .int s_used, .ref s_wishes, .ref s_pins, .int s_id, .int s_code, .ref s_chosen, .int 1, .ref s_left, .ref s_coming])), (s_pins, .inl (cp, 2, .inl pn)), (s_left, .inl (cl, 32, .inl fc0)), (s_wishes, .inl (cw, 14, .inl wi))] t.heap ∧ va_K (dC, dI) vcl [(cc, .int), (cp, .int), (cl, .boolean), (cw, .int)] t ∧ va_D A [(s_chosen, .inl (cc, 2, .inl (upd (upd ch 0 (-1)) 1 (-1)))), (h0, .inr (3, [.ref s_ids, .ref s_attributes, .ref s_permanent, .int 0, .ref s_glyphs, .int s_glyphCount, .ref s_dots, .int s_used, .ref s_wishes, .ref s_pins, .int s_id, .int s_code, .ref s_chosen, .int 1, .ref s_left, .ref s_coming])), (s_pins, .inl (cp, 2, .inl pn)), (s_left, .inl (cl, 32, .inl fc0)), (s_wishes, .inl (cw, 14, .inl wi))]
abbrev po_c_settle_0 (h0 : Nat) (s_ids : Nat) (s_attributes : Nat) (s_permanent : Nat) (s_glyphs : Nat) (s_glyphCount : Int32) (s_dots : Nat) (s_used : Int32) (s_wishes : Nat) (s_pins : Nat) (s_id : Int32) (s_code : Int32) (s_chosen : Nat) (s_left : Nat) (s_coming : Nat) (cp : ClassId) (pn : Nat → Int32) (cl : ClassId) (lf : Nat → Int32) (cw : ClassId) (wi : Nat → Int32) (cc : ClassId) (ch : Nat → Int32) (u : (Nat → Int32)) : Prop := match u with
  | fc0 => True
abbrev q_c_settle_0 (dC : Nat → ClassId) (dI : Nat → Nat → Nat) (h0 : Nat) (s_ids : Nat) (s_attributes : Nat) (s_permanent : Nat) (s_glyphs : Nat) (s_glyphCount : Int32) (s_dots : Nat) (s_used : Int32) (s_wishes : Nat) (s_pins : Nat) (s_id : Int32) (s_code : Int32) (s_chosen : Nat) (s_left : Nat) (s_coming : Nat) (cp : ClassId) (pn : Nat → Int32) (cl : ClassId) (lf : Nat → Int32) (cw : ClassId) (wi : Nat → Int32) (cc : ClassId) (ch : Nat → Int32) (A : Nat → Prop) : Array Value → State → Outcome → State → Prop := va_Qv (po_c_settle_0 h0 s_ids s_attributes s_permanent s_glyphs s_glyphCount s_dots s_used s_wishes s_pins s_id s_code s_chosen s_left s_coming cp pn cl lf cw wi cc ch) (at_c_settle_0 dC dI h0 s_ids s_attributes s_permanent s_glyphs s_glyphCount s_dots s_used s_wishes s_pins s_id s_code s_chosen s_left s_coming cp pn cl lf cw wi cc ch A) A
abbrev rm_c_settle_0 : Room := { frames := 3, cells := 0, slots := 0, locals := 72 }
set_option maxHeartbeats 4000000 in
set_option maxRecDepth 100000 in
theorem c_settle_0 (l : Launch) (dC : Nat → ClassId) (dI : Nat → Nat → Nat) (tt : Nat → Nat) (h0 : Nat) (s_ids : Nat) (s_attributes : Nat) (s_permanent : Nat) (s_glyphs : Nat) (s_glyphCount : Int32) (s_dots : Nat) (s_used : Int32) (s_wishes : Nat) (s_pins : Nat) (s_id : Int32) (s_code : Int32) (s_chosen : Nat) (s_left : Nat) (s_coming : Nat) (cp : ClassId) (pn : Nat → Int32) (cl : ClassId) (lf : Nat → Int32) (cw : ClassId) (wi : Nat → Int32) (cc : ClassId) (ch : Nat → Int32) (sz : Nat) (hp0 : pn 0 = -1) (hp1 : pn 1 = -1) : Met l y_FontShelf_settle w_FontShelf_settle rm_c_settle_0 (va_Pc [.ref h0] (fun U => U.heap.size = sz ∧ va_P (dC, dI) vcl [(h0, .inr (3, [.ref s_ids, .ref s_attributes, .ref s_permanent, .int 0, .ref s_glyphs, .int s_glyphCount, .ref s_dots, .int s_used, .ref s_wishes, .ref s_pins, .int s_id, .int s_code, .ref s_chosen, .int 0, .ref s_left, .ref s_coming])), (s_pins, .inl (cp, 2, .inl pn)), (s_left, .inl (cl, 32, .inl lf)), (s_wishes, .inl (cw, 14, .inl wi)), (s_chosen, .inl (cc, 2, .inl ch))] U.heap ∧ va_K (dC, dI) vcl [(cp, .int), (cl, .boolean), (cw, .int), (cc, .int)] U ∧ va_D (fun _ => True) [(h0, .inr (3, [.ref s_ids, .ref s_attributes, .ref s_permanent, .int 0, .ref s_glyphs, .int s_glyphCount, .ref s_dots, .int s_used, .ref s_wishes, .ref s_pins, .int s_id, .int s_code, .ref s_chosen, .int 0, .ref s_left, .ref s_coming])), (s_pins, .inl (cp, 2, .inl pn)), (s_left, .inl (cl, 32, .inl lf)), (s_wishes, .inl (cw, 14, .inl wi)), (s_chosen, .inl (cc, 2, .inl ch))] ∧ SF tt (va_A [(h0, .inr (3, [.ref s_ids, .ref s_attributes, .ref s_permanent, .int 0, .ref s_glyphs, .int s_glyphCount, .ref s_dots, .int s_used, .ref s_wishes, .ref s_pins, .int s_id, .int s_code, .ref s_chosen, .int 0, .ref s_left, .ref s_coming])), (s_pins, .inl (cp, 2, .inl pn)), (s_left, .inl (cl, 32, .inl lf)), (s_wishes, .inl (cw, 14, .inl wi)), (s_chosen, .inl (cc, 2, .inl ch))] sz) U U.heap)) (q_c_settle_0 dC dI h0 s_ids s_attributes s_permanent s_glyphs s_glyphCount s_dots s_used s_wishes s_pins s_id s_code s_chosen s_left s_coming cp pn cl lf cw wi cc ch (va_A [(h0, .inr (3, [.ref s_ids, .ref s_attributes, .ref s_permanent, .int 0, .ref s_glyphs, .int s_glyphCount, .ref s_dots, .int s_used, .ref s_wishes, .ref s_pins, .int s_id, .int s_code, .ref s_chosen, .int 0, .ref s_left, .ref s_coming])), (s_pins, .inl (cp, 2, .inl pn)), (s_left, .inl (cl, 32, .inl lf)), (s_wishes, .inl (cw, 14, .inl wi)), (s_chosen, .inl (cc, 2, .inl ch))] sz)) 0 0 (va_A [(h0, .inr (3, [.ref s_ids, .ref s_attributes, .ref s_permanent, .int 0, .ref s_glyphs, .int s_glyphCount, .ref s_dots, .int s_used, .ref s_wishes, .ref s_pins, .int s_id, .int s_code, .ref s_chosen, .int 0, .ref s_left, .ref s_coming])), (s_pins, .inl (cp, 2, .inl pn)), (s_left, .inl (cl, 32, .inl lf)), (s_wishes, .inl (cw, 14, .inl wi)), (s_chosen, .inl (cc, 2, .inl ch))] sz) := by
  refine Met.ofW (cc := b_FontShelf_settle) (maxL := 1) (ret := none) (by decide) rfl ?_
  intro p e s m args below meth c s₁ B hml hv
  obtain ⟨rfl, hsz, hP, hK, hD0, hF⟩ := hv
  have hx := B.exec
  have hb := B.bytes
  have hr := B.returns
  have hwd : ∀ w ∈ gT, w.before _ s = true := fun w h => atoms_spec (ws := w_FontShelf_settle) B.pre w (List.mem_cons_of_mem _ h)
  have hown : s.vm.findClass R_FontShelf = some m.cls := findClass_of_methodNamed B.named
  have hlocks := B.notSynchronized
  subst hsz
  have hD := hD0.self (sz := s.heap.size)
  generalize hAe : va_A [(h0, .inr (3, [.ref s_ids, .ref s_attributes, .ref s_permanent, .int 0, .ref s_glyphs, .int s_glyphCount, .ref s_dots, .int s_used, .ref s_wishes, .ref s_pins, .int s_id, .int s_code, .ref s_chosen, .int 0, .ref s_left, .ref s_coming])), (s_pins, .inl (cp, 2, .inl pn)), (s_left, .inl (cl, 32, .inl lf)), (s_wishes, .inl (cw, 14, .inl wi)), (s_chosen, .inl (cc, 2, .inl ch))] s.heap.size = A at hD hF ⊢
  have hA : ∀ q : Nat, s.heap.size ≤ q → A q := fun q h => by rw [← hAe]; exact Or.inr h
  have hS : va_S A s.heap s.heap [] := va_S.rf
  have hP : va_P (dC, dI) vcl [(h0, .inr (3, [.ref s_ids, .ref s_attributes, .ref s_permanent, .int 0, .ref s_glyphs, .int s_glyphCount, .ref s_dots, .int s_used, .ref s_wishes, .ref s_pins, .int s_id, .int s_code, .ref s_chosen, .int 0, .ref s_left, .ref s_coming])), (s_pins, .inl (cp, 2, .inl pn)), (s_left, .inl (cl, 32, .inl lf)), (s_wishes, .inl (cw, 14, .inl wi)), (s_chosen, .inl (cc, 2, .inl ch))] s.heap := hP
  have hl := lv_entry ([.ref h0]) (n := 1) (Nat.le_of_ble_eq_true rfl)
  rw [lg_entry_eq]
  generalize (lg_sl ([.ref h0]) ++ List.replicate (1 - (lg_sl ([.ref h0])).length) Slot.unset).toArray = ls at hl ⊢
  have hl : lv_has ls 1 [(0, .ref h0)] := hl
  refine lv_aload_n hx hb d_FontShelf_settle_0 rfl (lv_at hl 0 rfl) ?_
  refine va_get (D := (dC, dI)) (ci := 3) (v := .int 0) (C := R_FontShelf) (T := F_FontShelf) (N := 16) hx hb hwd i_FontShelf hown hK hP 0 rfl rfl 13 (by decide) (hwd _ wd_2_114) (fun _ h9 => h9) rfl d_FontShelf_settle_1 ?_
  refine lv_if_ne (tgt := 34) hx hb d_FontShelf_settle_4 (by decide) (fun c4 => absurd c4 (by decide)) (fun _ => ?_)
  refine lv_aload_n hx hb d_FontShelf_settle_7 rfl (lv_at hl 0 rfl) ?_
  refine va_get (D := (dC, dI)) (ci := 3) (v := .ref s_chosen) (C := R_FontShelf) (T := F_FontShelf) (N := 16) hx hb hwd i_FontShelf hown hK hP 0 rfl rfl 12 (by decide) (hwd _ wd_2_113) (fun _ h9 => h9) rfl d_FontShelf_settle_8 ?_
  refine lv_iconst (v := 0) hx hb d_FontShelf_settle_11 (by decide) ?_
  refine lv_aload_n hx hb d_FontShelf_settle_12 rfl (lv_at hl 0 rfl) ?_
  refine lv_iconst (v := 0) hx hb d_FontShelf_settle_13 (by decide) ?_
  have hPc := hP.sub (ws' := [(h0, .inr (3, [.ref s_ids, .ref s_attributes, .ref s_permanent, .int 0, .ref s_glyphs, .int s_glyphCount, .ref s_dots, .int s_used, .ref s_wishes, .ref s_pins, .int s_id, .int s_code, .ref s_chosen, .int 0, .ref s_left, .ref s_coming])), (s_pins, .inl (cp, 2, .inl pn)), (s_left, .inl (cl, 32, .inl lf)), (s_wishes, .inl (cw, 14, .inl wi))]) [0, 1, 2, 3] rfl
  have hDc := hD.sub (ws' := [(h0, .inr (3, [.ref s_ids, .ref s_attributes, .ref s_permanent, .int 0, .ref s_glyphs, .int s_glyphCount, .ref s_dots, .int s_used, .ref s_wishes, .ref s_pins, .int s_id, .int s_code, .ref s_chosen, .int 0, .ref s_left, .ref s_coming])), (s_pins, .inl (cp, 2, .inl pn)), (s_left, .inl (cl, 32, .inl lf)), (s_wishes, .inl (cw, 14, .inl wi))]) [0, 1, 2, 3] (by decide) rfl
  have hKc := hK.sub (tys' := [(cp, .int), (cl, .boolean), (cw, .int)]) [0, 1, 2] rfl
  have hFc := va_free (wc := [(h0, .inr (3, [.ref s_ids, .ref s_attributes, .ref s_permanent, .int 0, .ref s_glyphs, .int s_glyphCount, .ref s_dots, .int s_used, .ref s_wishes, .ref s_pins, .int s_id, .int s_code, .ref s_chosen, .int 0, .ref s_left, .ref s_coming])), (s_pins, .inl (cp, 2, .inl pn)), (s_left, .inl (cl, 32, .inl lf)), (s_wishes, .inl (cw, 14, .inl wi))]) hD hS hA [0, 1, 2, 3] rfl
  refine va_calli (va_runV (As := [.int 0]) (rest := [.int 0, .ref s_chosen]) ⟨hx, hb, hml, hown, hwd⟩ (c_choose_0_0 l dC dI tt h0 s_ids s_attributes s_permanent s_glyphs s_glyphCount s_dots s_used s_wishes s_pins s_id s_code s_chosen 0 s_left s_coming cp pn cl lf cw wi s.heap.size (hp0)) (cwV 1 hwd (gV gd_FontShelf_choose wd_2_45 wd_2_47 ws_6 wd_1_5) rfl rfl rfl (by decide +kernel) ⟨Nat.le_of_ble_eq_true rfl, Nat.le_of_ble_eq_true rfl⟩) ⟨fun a U g mk q => by obtain ⟨q0, q1, qP, qK, qD, qF⟩ := q; exact ⟨q0, q1, qP, va_K.moved (u := U) (U := U.calling g mk a) (Vm.Alike.refl U.vm) qK, qD, SF.same (u := U) (U := U.calling g mk a) rfl qF⟩, va_recv hKc hPc (ci := 3) (q0 := 0) rfl rfl, fun U hU hW => ⟨rfl, by rw [hU], by rw [hU]; exact hPc, va_K.moved hW.alike hKc, hDc.weaken (fun _ _ _ _ => trivial), by rw [hU]; exact SF.narrow (SF.moved hW (SF.kept hF (fun a h1 h2 => hS.2.1 a h1 h2))) hFc⟩⟩ rfl rfl hl.1 rfl (lv_room (Nat.le_of_ble_eq_true rfl)) d_FontShelf_settle_14 ⟨Nat.le_of_ble_eq_true rfl, Nat.le_of_ble_eq_true rfl⟩) hS (fun q _ h => hFc q h) hFc ?_
  clear hPc hDc hKc hS
  intro r_1 u_2 t H1 locs ht hvm hw hB hz1 hk1 hS
  obtain ⟨lz_3, rfl⟩ : ∃ z, z = u_2 := ⟨_, rfl⟩
  obtain ⟨hP1, hK1, hD1⟩ := hB
  rw [ht] at hP1
  have hK1 := va_K.moved hvm.symm hK1
  try dsimp only at hw
  have hJ := va_join (wr := [(s_chosen, .inl (cc, 2, .inl ch))]) (w1 := [(h0, .inr (3, [.ref s_ids, .ref s_attributes, .ref s_permanent, .int 0, .ref s_glyphs, .int s_glyphCount, .ref s_dots, .int s_used, .ref s_wishes, .ref s_pins, .int s_id, .int s_code, .ref s_chosen, .int 0, .ref s_left, .ref s_coming])), (s_pins, .inl (cp, 2, .inl pn)), (s_left, .inl (cl, 32, .inl lz_3)), (s_wishes, .inl (cw, 14, .inl wi))]) hP hD [0, 1, 2, 3] [4] rfl rfl (by decide) (by decide) hk1 hFc hP1 hD1
  clear hP hD hk1 hFc hP1 hD1 hz1
  obtain ⟨hP, hD⟩ := hJ
  clear hK1 ht hvm
  generalize H1 = H at hP hS ⊢
  replace hP : va_P (dC, dI) vcl [(s_chosen, .inl (cc, 2, .inl ch)), (h0, .inr (3, [.ref s_ids, .ref s_attributes, .ref s_permanent, .int 0, .ref s_glyphs, .int s_glyphCount, .ref s_dots, .int s_used, .ref s_wishes, .ref s_pins, .int s_id, .int s_code, .ref s_chosen, .int 0, .ref s_left, .ref s_coming])), (s_pins, .inl (cp, 2, .inl pn)), (s_left, .inl (cl, 32, .inl lz_3)), (s_wishes, .inl (cw, 14, .inl wi))] H := hP
  replace hD : va_D A [(s_chosen, .inl (cc, 2, .inl ch)), (h0, .inr (3, [.ref s_ids, .ref s_attributes, .ref s_permanent, .int 0, .ref s_glyphs, .int s_glyphCount, .ref s_dots, .int s_used, .ref s_wishes, .ref s_pins, .int s_id, .int s_code, .ref s_chosen, .int 0, .ref s_left, .ref s_coming])), (s_pins, .inl (cp, 2, .inl pn)), (s_left, .inl (cl, 32, .inl lz_3)), (s_wishes, .inl (cw, 14, .inl wi))] := hD
  obtain rfl := hw
  refine va_iast hx hb hK hP hD hS 0 3 rfl rfl (show ¬ ((0 : Int32) < 0 ∨ 2 ≤ (0 : Int32).toNatClampNeg) by decide) d_FontShelf_settle_17 ?_
  clear hP hD hS
  intro H locs hP hD hS
  rw [show (0 : Int32).toNatClampNeg = 0 by decide] at hP hD
  replace hP : va_P (dC, dI) vcl [(s_chosen, .inl (cc, 2, .inl (upd ch 0 (-1)))), (h0, .inr (3, [.ref s_ids, .ref s_attributes, .ref s_permanent, .int 0, .ref s_glyphs, .int s_glyphCount, .ref s_dots, .int s_used, .ref s_wishes, .ref s_pins, .int s_id, .int s_code, .ref s_chosen, .int 0, .ref s_left, .ref s_coming])), (s_pins, .inl (cp, 2, .inl pn)), (s_left, .inl (cl, 32, .inl lz_3)), (s_wishes, .inl (cw, 14, .inl wi))] H := hP
  replace hD : va_D A [(s_chosen, .inl (cc, 2, .inl (upd ch 0 (-1)))), (h0, .inr (3, [.ref s_ids, .ref s_attributes, .ref s_permanent, .int 0, .ref s_glyphs, .int s_glyphCount, .ref s_dots, .int s_used, .ref s_wishes, .ref s_pins, .int s_id, .int s_code, .ref s_chosen, .int 0, .ref s_left, .ref s_coming])), (s_pins, .inl (cp, 2, .inl pn)), (s_left, .inl (cl, 32, .inl lz_3)), (s_wishes, .inl (cw, 14, .inl wi))] := hD
  refine lv_aload_n hx hb d_FontShelf_settle_18 rfl (lv_at hl 0 rfl) ?_
  refine va_get (D := (dC, dI)) (ci := 3) (v := .ref s_chosen) (C := R_FontShelf) (T := F_FontShelf) (N := 16) hx hb hwd i_FontShelf hown hK hP 1 rfl rfl 12 (by decide) (hwd _ wd_2_113) (fun _ h9 => h9) rfl d_FontShelf_settle_19 ?_
  refine lv_iconst (v := 1) hx hb d_FontShelf_settle_22 (by decide) ?_
  refine lv_aload_n hx hb d_FontShelf_settle_23 rfl (lv_at hl 0 rfl) ?_
  refine lv_iconst (v := 1) hx hb d_FontShelf_settle_24 (by decide) ?_
  have hPc := hP.sub (ws' := [(h0, .inr (3, [.ref s_ids, .ref s_attributes, .ref s_permanent, .int 0, .ref s_glyphs, .int s_glyphCount, .ref s_dots, .int s_used, .ref s_wishes, .ref s_pins, .int s_id, .int s_code, .ref s_chosen, .int 0, .ref s_left, .ref s_coming])), (s_pins, .inl (cp, 2, .inl pn)), (s_left, .inl (cl, 32, .inl lz_3)), (s_wishes, .inl (cw, 14, .inl wi))]) [1, 2, 3, 4] rfl
  have hDc := hD.sub (ws' := [(h0, .inr (3, [.ref s_ids, .ref s_attributes, .ref s_permanent, .int 0, .ref s_glyphs, .int s_glyphCount, .ref s_dots, .int s_used, .ref s_wishes, .ref s_pins, .int s_id, .int s_code, .ref s_chosen, .int 0, .ref s_left, .ref s_coming])), (s_pins, .inl (cp, 2, .inl pn)), (s_left, .inl (cl, 32, .inl lz_3)), (s_wishes, .inl (cw, 14, .inl wi))]) [1, 2, 3, 4] (by decide) rfl
  have hKc := hK.sub (tys' := [(cp, .int), (cl, .boolean), (cw, .int)]) [0, 1, 2] rfl
  have hFc := va_free (wc := [(h0, .inr (3, [.ref s_ids, .ref s_attributes, .ref s_permanent, .int 0, .ref s_glyphs, .int s_glyphCount, .ref s_dots, .int s_used, .ref s_wishes, .ref s_pins, .int s_id, .int s_code, .ref s_chosen, .int 0, .ref s_left, .ref s_coming])), (s_pins, .inl (cp, 2, .inl pn)), (s_left, .inl (cl, 32, .inl lz_3)), (s_wishes, .inl (cw, 14, .inl wi))]) hD hS hA [1, 2, 3, 4] rfl
  refine va_calli (va_runV (As := [.int 1]) (rest := [.int 1, .ref s_chosen]) ⟨hx, hb, hml, hown, hwd⟩ (c_choose_0_1 l dC dI tt h0 s_ids s_attributes s_permanent s_glyphs s_glyphCount s_dots s_used s_wishes s_pins s_id s_code s_chosen 0 s_left s_coming cp pn cl lz_3 cw wi H.size (hp1)) (cwV 1 hwd (gV gd_FontShelf_choose wd_2_45 wd_2_47 ws_6 wd_1_5) rfl rfl rfl (by decide +kernel) ⟨Nat.le_of_ble_eq_true rfl, Nat.le_of_ble_eq_true rfl⟩) ⟨fun a U g mk q => by obtain ⟨q0, q1, qP, qK, qD, qF⟩ := q; exact ⟨q0, q1, qP, va_K.moved (u := U) (U := U.calling g mk a) (Vm.Alike.refl U.vm) qK, qD, SF.same (u := U) (U := U.calling g mk a) rfl qF⟩, va_recv hKc hPc (ci := 3) (q0 := 0) rfl rfl, fun U hU hW => ⟨rfl, by rw [hU], by rw [hU]; exact hPc, va_K.moved hW.alike hKc, hDc.weaken (fun _ _ _ _ => trivial), by rw [hU]; exact SF.narrow (SF.moved hW (SF.kept hF (fun a h1 h2 => hS.2.1 a h1 h2))) hFc⟩⟩ rfl rfl hl.1 rfl (lv_room (Nat.le_of_ble_eq_true rfl)) d_FontShelf_settle_25 ⟨Nat.le_of_ble_eq_true rfl, Nat.le_of_ble_eq_true rfl⟩) hS (fun q _ h => hFc q h) hFc ?_
  clear hPc hDc hKc hS
  intro r_4 u_5 t H1 locs ht hvm hw hB hz1 hk1 hS
  obtain ⟨lz_6, rfl⟩ : ∃ z, z = u_5 := ⟨_, rfl⟩
  obtain ⟨hP1, hK1, hD1⟩ := hB
  rw [ht] at hP1
  have hK1 := va_K.moved hvm.symm hK1
  try dsimp only at hw
  have hJ := va_join (wr := [(s_chosen, .inl (cc, 2, .inl (upd ch 0 (-1))))]) (w1 := [(h0, .inr (3, [.ref s_ids, .ref s_attributes, .ref s_permanent, .int 0, .ref s_glyphs, .int s_glyphCount, .ref s_dots, .int s_used, .ref s_wishes, .ref s_pins, .int s_id, .int s_code, .ref s_chosen, .int 0, .ref s_left, .ref s_coming])), (s_pins, .inl (cp, 2, .inl pn)), (s_left, .inl (cl, 32, .inl lz_6)), (s_wishes, .inl (cw, 14, .inl wi))]) hP hD [1, 2, 3, 4] [0] rfl rfl (by decide) (by decide) hk1 hFc hP1 hD1
  clear hP hD hk1 hFc hP1 hD1 hz1
  obtain ⟨hP, hD⟩ := hJ
  clear hK1 ht hvm
  generalize H1 = H at hP hS ⊢
  replace hP : va_P (dC, dI) vcl [(s_chosen, .inl (cc, 2, .inl (upd ch 0 (-1)))), (h0, .inr (3, [.ref s_ids, .ref s_attributes, .ref s_permanent, .int 0, .ref s_glyphs, .int s_glyphCount, .ref s_dots, .int s_used, .ref s_wishes, .ref s_pins, .int s_id, .int s_code, .ref s_chosen, .int 0, .ref s_left, .ref s_coming])), (s_pins, .inl (cp, 2, .inl pn)), (s_left, .inl (cl, 32, .inl lz_6)), (s_wishes, .inl (cw, 14, .inl wi))] H := hP
  replace hD : va_D A [(s_chosen, .inl (cc, 2, .inl (upd ch 0 (-1)))), (h0, .inr (3, [.ref s_ids, .ref s_attributes, .ref s_permanent, .int 0, .ref s_glyphs, .int s_glyphCount, .ref s_dots, .int s_used, .ref s_wishes, .ref s_pins, .int s_id, .int s_code, .ref s_chosen, .int 0, .ref s_left, .ref s_coming])), (s_pins, .inl (cp, 2, .inl pn)), (s_left, .inl (cl, 32, .inl lz_6)), (s_wishes, .inl (cw, 14, .inl wi))] := hD
  obtain rfl := hw
  refine va_iast hx hb hK hP hD hS 0 3 rfl rfl (show ¬ ((1 : Int32) < 0 ∨ 2 ≤ (1 : Int32).toNatClampNeg) by decide) d_FontShelf_settle_28 ?_
  clear hP hD hS
  intro H locs hP hD hS
  rw [show (1 : Int32).toNatClampNeg = 1 by decide] at hP hD
  replace hP : va_P (dC, dI) vcl [(s_chosen, .inl (cc, 2, .inl (upd (upd ch 0 (-1)) 1 (-1)))), (h0, .inr (3, [.ref s_ids, .ref s_attributes, .ref s_permanent, .int 0, .ref s_glyphs, .int s_glyphCount, .ref s_dots, .int s_used, .ref s_wishes, .ref s_pins, .int s_id, .int s_code, .ref s_chosen, .int 0, .ref s_left, .ref s_coming])), (s_pins, .inl (cp, 2, .inl pn)), (s_left, .inl (cl, 32, .inl lz_6)), (s_wishes, .inl (cw, 14, .inl wi))] H := hP
  replace hD : va_D A [(s_chosen, .inl (cc, 2, .inl (upd (upd ch 0 (-1)) 1 (-1)))), (h0, .inr (3, [.ref s_ids, .ref s_attributes, .ref s_permanent, .int 0, .ref s_glyphs, .int s_glyphCount, .ref s_dots, .int s_used, .ref s_wishes, .ref s_pins, .int s_id, .int s_code, .ref s_chosen, .int 0, .ref s_left, .ref s_coming])), (s_pins, .inl (cp, 2, .inl pn)), (s_left, .inl (cl, 32, .inl lz_6)), (s_wishes, .inl (cw, 14, .inl wi))] := hD
  refine lv_aload_n hx hb d_FontShelf_settle_29 rfl (lv_at hl 0 rfl) ?_
  refine lv_iconst (v := 1) hx hb d_FontShelf_settle_30 (by decide) ?_
  refine va_put (D := (dC, dI)) (ci := 3) (v := .int 1) (ty := .boolean) (C := R_FontShelf) (T := F_FontShelf) (N := 16) hx hb hwd i_FontShelf t_FontShelf to_FontShelf no_FontShelf hown hK hP hD hS 1 rfl rfl 13 (by decide) (hwd _ wd_2_114) (fun _ h9 => h9) rfl (by decide +kernel) (by decide) rfl (Nat.le_of_ble_eq_true rfl) d_FontShelf_settle_31 ?_
  clear hP hD hS
  intro H locs hP hD hS
  replace hP : va_P (dC, dI) vcl [(s_chosen, .inl (cc, 2, .inl (upd (upd ch 0 (-1)) 1 (-1)))), (h0, .inr (3, [.ref s_ids, .ref s_attributes, .ref s_permanent, .int 0, .ref s_glyphs, .int s_glyphCount, .ref s_dots, .int s_used, .ref s_wishes, .ref s_pins, .int s_id, .int s_code, .ref s_chosen, .int 1, .ref s_left, .ref s_coming])), (s_pins, .inl (cp, 2, .inl pn)), (s_left, .inl (cl, 32, .inl lz_6)), (s_wishes, .inl (cw, 14, .inl wi))] H := hP
  replace hD : va_D A [(s_chosen, .inl (cc, 2, .inl (upd (upd ch 0 (-1)) 1 (-1)))), (h0, .inr (3, [.ref s_ids, .ref s_attributes, .ref s_permanent, .int 0, .ref s_glyphs, .int s_glyphCount, .ref s_dots, .int s_used, .ref s_wishes, .ref s_pins, .int s_id, .int s_code, .ref s_chosen, .int 1, .ref s_left, .ref s_coming])), (s_pins, .inl (cp, 2, .inl pn)), (s_left, .inl (cl, 32, .inl lz_6)), (s_wishes, .inl (cw, 14, .inl wi))] := hD
  have hP9 := hP.sub (ws' := [(s_chosen, .inl (cc, 2, .inl (upd (upd ch 0 (-1)) 1 (-1)))), (h0, .inr (3, [.ref s_ids, .ref s_attributes, .ref s_permanent, .int 0, .ref s_glyphs, .int s_glyphCount, .ref s_dots, .int s_used, .ref s_wishes, .ref s_pins, .int s_id, .int s_code, .ref s_chosen, .int 1, .ref s_left, .ref s_coming])), (s_pins, .inl (cp, 2, .inl pn)), (s_left, .inl (cl, 32, .inl lz_6)), (s_wishes, .inl (cw, 14, .inl wi))]) [0, 1, 2, 3, 4] rfl
  have hD9 := hD.sub (ws' := [(s_chosen, .inl (cc, 2, .inl (upd (upd ch 0 (-1)) 1 (-1)))), (h0, .inr (3, [.ref s_ids, .ref s_attributes, .ref s_permanent, .int 0, .ref s_glyphs, .int s_glyphCount, .ref s_dots, .int s_used, .ref s_wishes, .ref s_pins, .int s_id, .int s_code, .ref s_chosen, .int 1, .ref s_left, .ref s_coming])), (s_pins, .inl (cp, 2, .inl pn)), (s_left, .inl (cl, 32, .inl lz_6)), (s_wishes, .inl (cw, 14, .inl wi))]) [0, 1, 2, 3, 4] (by decide) rfl
  have hK9 := hK.sub (tys' := [(cc, .int), (cp, .int), (cl, .boolean), (cw, .int)]) [3, 0, 1, 2] rfl
  exact W.vret hx hb hr (fun t ht hW => ⟨⟨(lz_6), rfl, (trivial), by rw [ht]; exact hP9, va_K.moved hW.alike hK9, hD9⟩, hS.F ht⟩) hS.2.2 d_FontShelf_settle_34

abbrev at_c_Shelf_endJob_0 (dC : Nat → ClassId) (dI : Nat → Nat → Nat) (h0 : Nat) (s_ids : Nat) (s_attributes : Nat) (s_permanent : Nat) (s_glyphs : Nat) (s_glyphCount : Int32) (s_dots : Nat) (s_used : Int32) (s_wishes : Nat) (s_pins : Nat) (s_id : Int32) (s_code : Int32) (s_chosen : Nat) (s_chosenKnown : Int32) (s_left : Nat) (s_coming : Nat) (cp : ClassId) (pn : Nat → Int32) (cl : ClassId) (lf : Nat → Int32) (cw : ClassId) (wi : Nat → Int32) (cc : ClassId) (ch : Nat → Int32) (A : Nat → Prop) (u : (Nat → Int32) × (Nat → Int32)) (t : State) : Prop := match u with
  | (fc0, fc1) => va_P (dC, dI) vcl [(s_chosen, .inl (cc, 2, .inl (upd (upd ch 0 (-1)) 1 (-1)))), (h0, .inr (3, [.ref s_ids, .ref s_attributes, .ref s_permanent, .int 0, .ref s_glyphs, .int s_glyphCount, .ref s_dots, .int s_used, .ref s_wishes, .ref s_pins, .int 0, .int 0, .ref s_chosen, .int 1, .ref s_left, .ref s_coming])), (s_pins, .inl (cp, 2, .inl (upd (upd pn 0 ((-1) : Int32)) 1 ((-1) : Int32)))), (s_left, .inl (cl, 32, .inl fc0)), (s_wishes, .inl (cw, 14, .inl (upd (upd fc1 12 0) 13 3)))] t.heap ∧ va_K (dC, dI) vcl [(cc, .int), (cp, .int), (cl, .boolean), (cw, .int)] t ∧ va_D A [(s_chosen, .inl (cc, 2, .inl (upd (upd ch 0 (-1)) 1 (-1)))), (h0, .inr (3, [.ref s_ids, .ref s_attributes, .ref s_permanent, .int 0, .ref s_glyphs, .int s_glyphCount, .ref s_dots, .int s_used, .ref s_wishes, .ref s_pins, .int 0, .int 0, .ref s_chosen, .int 1, .ref s_left, .ref s_coming])), (s_pins, .inl (cp, 2, .inl (upd (upd pn 0 ((-1) : Int32)) 1 ((-1) : Int32)))), (s_left, .inl (cl, 32, .inl fc0)), (s_wishes, .inl (cw, 14, .inl (upd (upd fc1 12 0) 13 3)))]
abbrev po_c_Shelf_endJob_0 (h0 : Nat) (s_ids : Nat) (s_attributes : Nat) (s_permanent : Nat) (s_glyphs : Nat) (s_glyphCount : Int32) (s_dots : Nat) (s_used : Int32) (s_wishes : Nat) (s_pins : Nat) (s_id : Int32) (s_code : Int32) (s_chosen : Nat) (s_chosenKnown : Int32) (s_left : Nat) (s_coming : Nat) (cp : ClassId) (pn : Nat → Int32) (cl : ClassId) (lf : Nat → Int32) (cw : ClassId) (wi : Nat → Int32) (cc : ClassId) (ch : Nat → Int32) (u : (Nat → Int32) × (Nat → Int32)) : Prop := match u with
  | (fc0, fc1) => True
abbrev q_c_Shelf_endJob_0 (dC : Nat → ClassId) (dI : Nat → Nat → Nat) (h0 : Nat) (s_ids : Nat) (s_attributes : Nat) (s_permanent : Nat) (s_glyphs : Nat) (s_glyphCount : Int32) (s_dots : Nat) (s_used : Int32) (s_wishes : Nat) (s_pins : Nat) (s_id : Int32) (s_code : Int32) (s_chosen : Nat) (s_chosenKnown : Int32) (s_left : Nat) (s_coming : Nat) (cp : ClassId) (pn : Nat → Int32) (cl : ClassId) (lf : Nat → Int32) (cw : ClassId) (wi : Nat → Int32) (cc : ClassId) (ch : Nat → Int32) (A : Nat → Prop) : Array Value → State → Outcome → State → Prop := va_Qv (po_c_Shelf_endJob_0 h0 s_ids s_attributes s_permanent s_glyphs s_glyphCount s_dots s_used s_wishes s_pins s_id s_code s_chosen s_chosenKnown s_left s_coming cp pn cl lf cw wi cc ch) (at_c_Shelf_endJob_0 dC dI h0 s_ids s_attributes s_permanent s_glyphs s_glyphCount s_dots s_used s_wishes s_pins s_id s_code s_chosen s_chosenKnown s_left s_coming cp pn cl lf cw wi cc ch A) A
abbrev rm_c_Shelf_endJob_0 : Room := { frames := 4, cells := 0, slots := 0, locals := 92 }
set_option maxHeartbeats 4000000 in
set_option maxRecDepth 100000 in
theorem c_Shelf_endJob_0 (l : Launch) (dC : Nat → ClassId) (dI : Nat → Nat → Nat) (tt : Nat → Nat) (h0 : Nat) (s_ids : Nat) (s_attributes : Nat) (s_permanent : Nat) (s_glyphs : Nat) (s_glyphCount : Int32) (s_dots : Nat) (s_used : Int32) (s_wishes : Nat) (s_pins : Nat) (s_id : Int32) (s_code : Int32) (s_chosen : Nat) (s_chosenKnown : Int32) (s_left : Nat) (s_coming : Nat) (cp : ClassId) (pn : Nat → Int32) (cl : ClassId) (lf : Nat → Int32) (cw : ClassId) (wi : Nat → Int32) (cc : ClassId) (ch : Nat → Int32) (sz : Nat)  : Met l y_FontShelf_endJob w_FontShelf_endJob rm_c_Shelf_endJob_0 (va_Pc [.ref h0] (fun U => U.heap.size = sz ∧ va_P (dC, dI) vcl [(h0, .inr (3, [.ref s_ids, .ref s_attributes, .ref s_permanent, .int 0, .ref s_glyphs, .int s_glyphCount, .ref s_dots, .int s_used, .ref s_wishes, .ref s_pins, .int s_id, .int s_code, .ref s_chosen, .int s_chosenKnown, .ref s_left, .ref s_coming])), (s_pins, .inl (cp, 2, .inl pn)), (s_left, .inl (cl, 32, .inl lf)), (s_wishes, .inl (cw, 14, .inl wi)), (s_chosen, .inl (cc, 2, .inl ch))] U.heap ∧ va_K (dC, dI) vcl [(cp, .int), (cl, .boolean), (cw, .int), (cc, .int)] U ∧ va_D (fun _ => True) [(h0, .inr (3, [.ref s_ids, .ref s_attributes, .ref s_permanent, .int 0, .ref s_glyphs, .int s_glyphCount, .ref s_dots, .int s_used, .ref s_wishes, .ref s_pins, .int s_id, .int s_code, .ref s_chosen, .int s_chosenKnown, .ref s_left, .ref s_coming])), (s_pins, .inl (cp, 2, .inl pn)), (s_left, .inl (cl, 32, .inl lf)), (s_wishes, .inl (cw, 14, .inl wi)), (s_chosen, .inl (cc, 2, .inl ch))] ∧ SF tt (va_A [(h0, .inr (3, [.ref s_ids, .ref s_attributes, .ref s_permanent, .int 0, .ref s_glyphs, .int s_glyphCount, .ref s_dots, .int s_used, .ref s_wishes, .ref s_pins, .int s_id, .int s_code, .ref s_chosen, .int s_chosenKnown, .ref s_left, .ref s_coming])), (s_pins, .inl (cp, 2, .inl pn)), (s_left, .inl (cl, 32, .inl lf)), (s_wishes, .inl (cw, 14, .inl wi)), (s_chosen, .inl (cc, 2, .inl ch))] sz) U U.heap)) (q_c_Shelf_endJob_0 dC dI h0 s_ids s_attributes s_permanent s_glyphs s_glyphCount s_dots s_used s_wishes s_pins s_id s_code s_chosen s_chosenKnown s_left s_coming cp pn cl lf cw wi cc ch (va_A [(h0, .inr (3, [.ref s_ids, .ref s_attributes, .ref s_permanent, .int 0, .ref s_glyphs, .int s_glyphCount, .ref s_dots, .int s_used, .ref s_wishes, .ref s_pins, .int s_id, .int s_code, .ref s_chosen, .int s_chosenKnown, .ref s_left, .ref s_coming])), (s_pins, .inl (cp, 2, .inl pn)), (s_left, .inl (cl, 32, .inl lf)), (s_wishes, .inl (cw, 14, .inl wi)), (s_chosen, .inl (cc, 2, .inl ch))] sz)) 0 0 (va_A [(h0, .inr (3, [.ref s_ids, .ref s_attributes, .ref s_permanent, .int 0, .ref s_glyphs, .int s_glyphCount, .ref s_dots, .int s_used, .ref s_wishes, .ref s_pins, .int s_id, .int s_code, .ref s_chosen, .int s_chosenKnown, .ref s_left, .ref s_coming])), (s_pins, .inl (cp, 2, .inl pn)), (s_left, .inl (cl, 32, .inl lf)), (s_wishes, .inl (cw, 14, .inl wi)), (s_chosen, .inl (cc, 2, .inl ch))] sz) := by
  refine Met.ofW (cc := b_FontShelf_endJob) (maxL := 2) (ret := none) (by decide) rfl ?_
  intro p e s m args below meth c s₁ B hml hv
  obtain ⟨rfl, hsz, hP, hK, hD0, hF⟩ := hv
  have hx := B.exec
  have hb := B.bytes
  have hr := B.returns
  have hwd : ∀ w ∈ gT, w.before _ s = true := fun w h => atoms_spec (ws := w_FontShelf_endJob) B.pre w (List.mem_cons_of_mem _ h)
  have hown : s.vm.findClass R_FontShelf = some m.cls := findClass_of_methodNamed B.named
  have hlocks := B.notSynchronized
  subst hsz
  have hD := hD0.self (sz := s.heap.size)
  generalize hAe : va_A [(h0, .inr (3, [.ref s_ids, .ref s_attributes, .ref s_permanent, .int 0, .ref s_glyphs, .int s_glyphCount, .ref s_dots, .int s_used, .ref s_wishes, .ref s_pins, .int s_id, .int s_code, .ref s_chosen, .int s_chosenKnown, .ref s_left, .ref s_coming])), (s_pins, .inl (cp, 2, .inl pn)), (s_left, .inl (cl, 32, .inl lf)), (s_wishes, .inl (cw, 14, .inl wi)), (s_chosen, .inl (cc, 2, .inl ch))] s.heap.size = A at hD hF ⊢
  have hA : ∀ q : Nat, s.heap.size ≤ q → A q := fun q h => by rw [← hAe]; exact Or.inr h
  have hS : va_S A s.heap s.heap [] := va_S.rf
  have hP : va_P (dC, dI) vcl [(h0, .inr (3, [.ref s_ids, .ref s_attributes, .ref s_permanent, .int 0, .ref s_glyphs, .int s_glyphCount, .ref s_dots, .int s_used, .ref s_wishes, .ref s_pins, .int s_id, .int s_code, .ref s_chosen, .int s_chosenKnown, .ref s_left, .ref s_coming])), (s_pins, .inl (cp, 2, .inl pn)), (s_left, .inl (cl, 32, .inl lf)), (s_wishes, .inl (cw, 14, .inl wi)), (s_chosen, .inl (cc, 2, .inl ch))] s.heap := hP
  have hl := lv_entry ([.ref h0]) (n := 2) (Nat.le_of_ble_eq_true rfl)
  rw [lg_entry_eq]
  generalize (lg_sl ([.ref h0]) ++ List.replicate (2 - (lg_sl ([.ref h0])).length) Slot.unset).toArray = ls at hl ⊢
  have hl : lv_has ls 2 [(0, .ref h0)] := hl
  refine lv_aload_n hx hb d_FontShelf_endJob_0 rfl (lv_at hl 0 rfl) ?_
  have hPc := hP.sub (ws' := [(h0, .inr (3, [.ref s_ids, .ref s_attributes, .ref s_permanent, .int 0, .ref s_glyphs, .int s_glyphCount, .ref s_dots, .int s_used, .ref s_wishes, .ref s_pins, .int s_id, .int s_code, .ref s_chosen, .int s_chosenKnown, .ref s_left, .ref s_coming]))]) [0] rfl
  have hDc := hD.sub (ws' := [(h0, .inr (3, [.ref s_ids, .ref s_attributes, .ref s_permanent, .int 0, .ref s_glyphs, .int s_glyphCount, .ref s_dots, .int s_used, .ref s_wishes, .ref s_pins, .int s_id, .int s_code, .ref s_chosen, .int s_chosenKnown, .ref s_left, .ref s_coming]))]) [0] (by decide) rfl
  have hKc := hK.sub (tys' := []) [] rfl
  have hFc := va_free (wc := [(h0, .inr (3, [.ref s_ids, .ref s_attributes, .ref s_permanent, .int 0, .ref s_glyphs, .int s_glyphCount, .ref s_dots, .int s_used, .ref s_wishes, .ref s_pins, .int s_id, .int s_code, .ref s_chosen, .int s_chosenKnown, .ref s_left, .ref s_coming]))]) hD hS hA [0] rfl
  refine va_callv (va_runV (As := []) (rest := []) ⟨hx, hb, hml, hown, hwd⟩ (c_dropPassing_0 l dC dI tt h0 s_ids s_attributes s_permanent s_glyphs s_glyphCount s_dots s_used s_wishes s_pins s_id s_code s_chosen s_chosenKnown s_left s_coming s.heap.size ) (cwV 0 hwd (gV gd_FontShelf_dropPassing wd_2_16 wd_2_17 wd_2_18 wd_1_5) rfl rfl rfl (by decide +kernel) ⟨Nat.le_of_ble_eq_true rfl, Nat.le_of_ble_eq_true rfl⟩) ⟨fun a U g mk q => by obtain ⟨q0, q1, qP, qK, qD, qF⟩ := q; exact ⟨q0, q1, qP, va_K.moved (u := U) (U := U.calling g mk a) (Vm.Alike.refl U.vm) qK, qD, SF.same (u := U) (U := U.calling g mk a) rfl qF⟩, va_recv hKc hPc (ci := 3) (q0 := 0) rfl rfl, fun U hU hW => ⟨rfl, by rw [hU], by rw [hU]; exact hPc, va_K.moved hW.alike hKc, hDc.weaken (fun _ _ _ _ => trivial), by rw [hU]; exact SF.narrow (SF.moved hW (SF.kept hF (fun a h1 h2 => hS.2.1 a h1 h2))) hFc⟩⟩ rfl rfl hl.1 rfl (lv_room (Nat.le_of_ble_eq_true rfl)) d_FontShelf_endJob_1 ⟨Nat.le_of_ble_eq_true rfl, Nat.le_of_ble_eq_true rfl⟩) hS (fun q _ h => hFc q h) hFc ?_
  clear hPc hDc hKc hS
  intro u_2 t H1 locs ht hvm hw hB hz1 hk1 hS
  obtain ⟨hP1, hK1, hD1⟩ := hB
  rw [ht] at hP1
  have hK1 := va_K.moved hvm.symm hK1
  try dsimp only at hw
  have hJ := va_join (wr := [(s_pins, .inl (cp, 2, .inl pn)), (s_left, .inl (cl, 32, .inl lf)), (s_wishes, .inl (cw, 14, .inl wi)), (s_chosen, .inl (cc, 2, .inl ch))]) (w1 := [(h0, .inr (3, [.ref s_ids, .ref s_attributes, .ref s_permanent, .int 0, .ref s_glyphs, .int s_glyphCount, .ref s_dots, .int s_used, .ref s_wishes, .ref s_pins, .int s_id, .int s_code, .ref s_chosen, .int 0, .ref s_left, .ref s_coming]))]) hP hD [0] [1, 2, 3, 4] rfl rfl (by decide) (by decide) hk1 hFc hP1 hD1
  clear hP hD hk1 hFc hP1 hD1 hz1
  obtain ⟨hP, hD⟩ := hJ
  clear hK1 ht hvm
  generalize H1 = H at hP hS ⊢
  replace hP : va_P (dC, dI) vcl [(s_pins, .inl (cp, 2, .inl pn)), (s_left, .inl (cl, 32, .inl lf)), (s_wishes, .inl (cw, 14, .inl wi)), (s_chosen, .inl (cc, 2, .inl ch)), (h0, .inr (3, [.ref s_ids, .ref s_attributes, .ref s_permanent, .int 0, .ref s_glyphs, .int s_glyphCount, .ref s_dots, .int s_used, .ref s_wishes, .ref s_pins, .int s_id, .int s_code, .ref s_chosen, .int 0, .ref s_left, .ref s_coming]))] H := hP
  replace hD : va_D A [(s_pins, .inl (cp, 2, .inl pn)), (s_left, .inl (cl, 32, .inl lf)), (s_wishes, .inl (cw, 14, .inl wi)), (s_chosen, .inl (cc, 2, .inl ch)), (h0, .inr (3, [.ref s_ids, .ref s_attributes, .ref s_permanent, .int 0, .ref s_glyphs, .int s_glyphCount, .ref s_dots, .int s_used, .ref s_wishes, .ref s_pins, .int s_id, .int s_code, .ref s_chosen, .int 0, .ref s_left, .ref s_coming]))] := hD
  refine lv_iconst (v := 0) hx hb d_FontShelf_endJob_4 (by decide) ?_
  refine lv_istore_n (lv' := [(1, .int 0), (0, .ref h0)]) hx hb d_FontShelf_endJob_5 rfl hl (by decide) rfl ?_
  clear hl
  intro ls hl
  refine lv_iload_n hx hb d_FontShelf_endJob_6 rfl (lv_at hl 0 rfl) ?_
  refine lv_aload_n hx hb d_FontShelf_endJob_7 rfl (lv_at hl 1 rfl) ?_
  refine va_get (D := (dC, dI)) (ci := 3) (v := .ref s_wishes) (C := R_FontShelf) (T := F_FontShelf) (N := 16) hx hb hwd i_FontShelf hown hK hP 4 rfl rfl 8 (by decide) (hwd _ wd_2_109) (fun _ h9 => h9) rfl d_FontShelf_endJob_8 ?_
  refine va_alen (v := 14) hx hb hK hP 2 2 rfl rfl rfl d_FontShelf_endJob_11 ?_
  refine lv_icmp_ge (tgt := 35) hx hb d_FontShelf_endJob_12 (by decide) (fun c12 => absurd c12 (by decide)) (fun _ => ?_)
  refine lv_aload_n hx hb d_FontShelf_endJob_15 rfl (lv_at hl 1 rfl) ?_
  refine va_get (D := (dC, dI)) (ci := 3) (v := .ref s_wishes) (C := R_FontShelf) (T := F_FontShelf) (N := 16) hx hb hwd i_FontShelf hown hK hP 4 rfl rfl 8 (by decide) (hwd _ wd_2_109) (fun _ h9 => h9) rfl d_FontShelf_endJob_16 ?_
  refine lv_iload_n hx hb d_FontShelf_endJob_19 rfl (lv_at hl 0 rfl) ?_
  refine va_gets hx hb (SF_p2 hF).1 hS hown (hwd _ wd_2_36) (fun _ h9 => h9) d_FontShelf_endJob_20 ?_
  refine lv_iload_n hx hb d_FontShelf_endJob_23 rfl (lv_at hl 0 rfl) ?_
  refine lv_bipush (v := 7) hx hb d_FontShelf_endJob_24 (by decide) ?_
  refine lv_irem hx hb d_FontShelf_endJob_26 (by decide) ?_
  refine lv_topi (fun y_3 ey_3 => ?_)
  obtain rfl : y_3 = (0 : Int32) := ey_3.trans (by decide)
  refine va_ti (v := .int 277) hx hb (SF_p2 hF).2 hS (show ¬ ((0 : Int32) < 0 ∨ 7 ≤ (0 : Int32).toNatClampNeg) by decide) rfl d_FontShelf_endJob_27 ?_
  refine va_iast hx hb hK hP hD hS 2 2 rfl rfl (show ¬ ((0 : Int32) < 0 ∨ 14 ≤ (0 : Int32).toNatClampNeg) by decide) d_FontShelf_endJob_28 ?_
  clear hP hD hS
  intro H locs hP hD hS
  rw [show (0 : Int32).toNatClampNeg = 0 by decide] at hP hD
  replace hP : va_P (dC, dI) vcl [(s_pins, .inl (cp, 2, .inl pn)), (s_left, .inl (cl, 32, .inl lf)), (s_wishes, .inl (cw, 14, .inl (upd wi 0 277))), (s_chosen, .inl (cc, 2, .inl ch)), (h0, .inr (3, [.ref s_ids, .ref s_attributes, .ref s_permanent, .int 0, .ref s_glyphs, .int s_glyphCount, .ref s_dots, .int s_used, .ref s_wishes, .ref s_pins, .int s_id, .int s_code, .ref s_chosen, .int 0, .ref s_left, .ref s_coming]))] H := hP
  replace hD : va_D A [(s_pins, .inl (cp, 2, .inl pn)), (s_left, .inl (cl, 32, .inl lf)), (s_wishes, .inl (cw, 14, .inl (upd wi 0 277))), (s_chosen, .inl (cc, 2, .inl ch)), (h0, .inr (3, [.ref s_ids, .ref s_attributes, .ref s_permanent, .int 0, .ref s_glyphs, .int s_glyphCount, .ref s_dots, .int s_used, .ref s_wishes, .ref s_pins, .int s_id, .int s_code, .ref s_chosen, .int 0, .ref s_left, .ref s_coming]))] := hD
  refine lv_iinc (v := 1) (lv' := [(1, .int 1), (0, .ref h0)]) hx hb d_FontShelf_endJob_29 hl (k := 0) rfl (by decide) (by decide) rfl ?_
  clear hl
  intro ls hl
  refine lv_goto (tgt := 6) hx hb d_FontShelf_endJob_32 (by decide) ?_
  refine lv_iload_n hx hb d_FontShelf_endJob_6 rfl (lv_at hl 0 rfl) ?_
  refine lv_aload_n hx hb d_FontShelf_endJob_7 rfl (lv_at hl 1 rfl) ?_
  refine va_get (D := (dC, dI)) (ci := 3) (v := .ref s_wishes) (C := R_FontShelf) (T := F_FontShelf) (N := 16) hx hb hwd i_FontShelf hown hK hP 4 rfl rfl 8 (by decide) (hwd _ wd_2_109) (fun _ h9 => h9) rfl d_FontShelf_endJob_8 ?_
  refine va_alen (v := 14) hx hb hK hP 2 2 rfl rfl rfl d_FontShelf_endJob_11 ?_
  refine lv_icmp_ge (tgt := 35) hx hb d_FontShelf_endJob_12 (by decide) (fun c12 => absurd c12 (by decide)) (fun _ => ?_)
  refine lv_aload_n hx hb d_FontShelf_endJob_15 rfl (lv_at hl 1 rfl) ?_
  refine va_get (D := (dC, dI)) (ci := 3) (v := .ref s_wishes) (C := R_FontShelf) (T := F_FontShelf) (N := 16) hx hb hwd i_FontShelf hown hK hP 4 rfl rfl 8 (by decide) (hwd _ wd_2_109) (fun _ h9 => h9) rfl d_FontShelf_endJob_16 ?_
  refine lv_iload_n hx hb d_FontShelf_endJob_19 rfl (lv_at hl 0 rfl) ?_
  refine va_gets hx hb (SF_p2 hF).1 hS hown (hwd _ wd_2_36) (fun _ h9 => h9) d_FontShelf_endJob_20 ?_
  refine lv_iload_n hx hb d_FontShelf_endJob_23 rfl (lv_at hl 0 rfl) ?_
  refine lv_bipush (v := 7) hx hb d_FontShelf_endJob_24 (by decide) ?_
  refine lv_irem hx hb d_FontShelf_endJob_26 (by decide) ?_
  refine lv_topi (fun y_4 ey_4 => ?_)
  obtain rfl : y_4 = (1 : Int32) := ey_4.trans (by decide)
  refine va_ti (v := .int 0) hx hb (SF_p2 hF).2 hS (show ¬ ((1 : Int32) < 0 ∨ 7 ≤ (1 : Int32).toNatClampNeg) by decide) rfl d_FontShelf_endJob_27 ?_
  refine va_iast hx hb hK hP hD hS 2 2 rfl rfl (show ¬ ((1 : Int32) < 0 ∨ 14 ≤ (1 : Int32).toNatClampNeg) by decide) d_FontShelf_endJob_28 ?_
  clear hP hD hS
  intro H locs hP hD hS
  rw [show (1 : Int32).toNatClampNeg = 1 by decide] at hP hD
  replace hP : va_P (dC, dI) vcl [(s_pins, .inl (cp, 2, .inl pn)), (s_left, .inl (cl, 32, .inl lf)), (s_wishes, .inl (cw, 14, .inl (upd (upd wi 0 277) 1 0))), (s_chosen, .inl (cc, 2, .inl ch)), (h0, .inr (3, [.ref s_ids, .ref s_attributes, .ref s_permanent, .int 0, .ref s_glyphs, .int s_glyphCount, .ref s_dots, .int s_used, .ref s_wishes, .ref s_pins, .int s_id, .int s_code, .ref s_chosen, .int 0, .ref s_left, .ref s_coming]))] H := hP
  replace hD : va_D A [(s_pins, .inl (cp, 2, .inl pn)), (s_left, .inl (cl, 32, .inl lf)), (s_wishes, .inl (cw, 14, .inl (upd (upd wi 0 277) 1 0))), (s_chosen, .inl (cc, 2, .inl ch)), (h0, .inr (3, [.ref s_ids, .ref s_attributes, .ref s_permanent, .int 0, .ref s_glyphs, .int s_glyphCount, .ref s_dots, .int s_used, .ref s_wishes, .ref s_pins, .int s_id, .int s_code, .ref s_chosen, .int 0, .ref s_left, .ref s_coming]))] := hD
  refine lv_iinc (v := 2) (lv' := [(1, .int 2), (0, .ref h0)]) hx hb d_FontShelf_endJob_29 hl (k := 0) rfl (by decide) (by decide) rfl ?_
  clear hl
  intro ls hl
  refine lv_goto (tgt := 6) hx hb d_FontShelf_endJob_32 (by decide) ?_
  refine lv_iload_n hx hb d_FontShelf_endJob_6 rfl (lv_at hl 0 rfl) ?_
  refine lv_aload_n hx hb d_FontShelf_endJob_7 rfl (lv_at hl 1 rfl) ?_
  refine va_get (D := (dC, dI)) (ci := 3) (v := .ref s_wishes) (C := R_FontShelf) (T := F_FontShelf) (N := 16) hx hb hwd i_FontShelf hown hK hP 4 rfl rfl 8 (by decide) (hwd _ wd_2_109) (fun _ h9 => h9) rfl d_FontShelf_endJob_8 ?_
  refine va_alen (v := 14) hx hb hK hP 2 2 rfl rfl rfl d_FontShelf_endJob_11 ?_
  refine lv_icmp_ge (tgt := 35) hx hb d_FontShelf_endJob_12 (by decide) (fun c12 => absurd c12 (by decide)) (fun _ => ?_)
  refine lv_aload_n hx hb d_FontShelf_endJob_15 rfl (lv_at hl 1 rfl) ?_
  refine va_get (D := (dC, dI)) (ci := 3) (v := .ref s_wishes) (C := R_FontShelf) (T := F_FontShelf) (N := 16) hx hb hwd i_FontShelf hown hK hP 4 rfl rfl 8 (by decide) (hwd _ wd_2_109) (fun _ h9 => h9) rfl d_FontShelf_endJob_16 ?_
  refine lv_iload_n hx hb d_FontShelf_endJob_19 rfl (lv_at hl 0 rfl) ?_
  refine va_gets hx hb (SF_p2 hF).1 hS hown (hwd _ wd_2_36) (fun _ h9 => h9) d_FontShelf_endJob_20 ?_
  refine lv_iload_n hx hb d_FontShelf_endJob_23 rfl (lv_at hl 0 rfl) ?_
  refine lv_bipush (v := 7) hx hb d_FontShelf_endJob_24 (by decide) ?_
  refine lv_irem hx hb d_FontShelf_endJob_26 (by decide) ?_
  refine lv_topi (fun y_5 ey_5 => ?_)
  obtain rfl : y_5 = (2 : Int32) := ey_5.trans (by decide)
  refine va_ti (v := .int 1000) hx hb (SF_p2 hF).2 hS (show ¬ ((2 : Int32) < 0 ∨ 7 ≤ (2 : Int32).toNatClampNeg) by decide) rfl d_FontShelf_endJob_27 ?_
  refine va_iast hx hb hK hP hD hS 2 2 rfl rfl (show ¬ ((2 : Int32) < 0 ∨ 14 ≤ (2 : Int32).toNatClampNeg) by decide) d_FontShelf_endJob_28 ?_
  clear hP hD hS
  intro H locs hP hD hS
  rw [show (2 : Int32).toNatClampNeg = 2 by decide] at hP hD
  replace hP : va_P (dC, dI) vcl [(s_pins, .inl (cp, 2, .inl pn)), (s_left, .inl (cl, 32, .inl lf)), (s_wishes, .inl (cw, 14, .inl (upd (upd (upd wi 0 277) 1 0) 2 1000))), (s_chosen, .inl (cc, 2, .inl ch)), (h0, .inr (3, [.ref s_ids, .ref s_attributes, .ref s_permanent, .int 0, .ref s_glyphs, .int s_glyphCount, .ref s_dots, .int s_used, .ref s_wishes, .ref s_pins, .int s_id, .int s_code, .ref s_chosen, .int 0, .ref s_left, .ref s_coming]))] H := hP
  replace hD : va_D A [(s_pins, .inl (cp, 2, .inl pn)), (s_left, .inl (cl, 32, .inl lf)), (s_wishes, .inl (cw, 14, .inl (upd (upd (upd wi 0 277) 1 0) 2 1000))), (s_chosen, .inl (cc, 2, .inl ch)), (h0, .inr (3, [.ref s_ids, .ref s_attributes, .ref s_permanent, .int 0, .ref s_glyphs, .int s_glyphCount, .ref s_dots, .int s_used, .ref s_wishes, .ref s_pins, .int s_id, .int s_code, .ref s_chosen, .int 0, .ref s_left, .ref s_coming]))] := hD
  refine lv_iinc (v := 3) (lv' := [(1, .int 3), (0, .ref h0)]) hx hb d_FontShelf_endJob_29 hl (k := 0) rfl (by decide) (by decide) rfl ?_
  clear hl
  intro ls hl
  refine lv_goto (tgt := 6) hx hb d_FontShelf_endJob_32 (by decide) ?_
  refine lv_iload_n hx hb d_FontShelf_endJob_6 rfl (lv_at hl 0 rfl) ?_
  refine lv_aload_n hx hb d_FontShelf_endJob_7 rfl (lv_at hl 1 rfl) ?_
  refine va_get (D := (dC, dI)) (ci := 3) (v := .ref s_wishes) (C := R_FontShelf) (T := F_FontShelf) (N := 16) hx hb hwd i_FontShelf hown hK hP 4 rfl rfl 8 (by decide) (hwd _ wd_2_109) (fun _ h9 => h9) rfl d_FontShelf_endJob_8 ?_
  refine va_alen (v := 14) hx hb hK hP 2 2 rfl rfl rfl d_FontShelf_endJob_11 ?_
  refine lv_icmp_ge (tgt := 35) hx hb d_FontShelf_endJob_12 (by decide) (fun c12 => absurd c12 (by decide)) (fun _ => ?_)
  refine lv_aload_n hx hb d_FontShelf_endJob_15 rfl (lv_at hl 1 rfl) ?_
  refine va_get (D := (dC, dI)) (ci := 3) (v := .ref s_wishes) (C := R_FontShelf) (T := F_FontShelf) (N := 16) hx hb hwd i_FontShelf hown hK hP 4 rfl rfl 8 (by decide) (hwd _ wd_2_109) (fun _ h9 => h9) rfl d_FontShelf_endJob_16 ?_
  refine lv_iload_n hx hb d_FontShelf_endJob_19 rfl (lv_at hl 0 rfl) ?_
  refine va_gets hx hb (SF_p2 hF).1 hS hown (hwd _ wd_2_36) (fun _ h9 => h9) d_FontShelf_endJob_20 ?_
  refine lv_iload_n hx hb d_FontShelf_endJob_23 rfl (lv_at hl 0 rfl) ?_
  refine lv_bipush (v := 7) hx hb d_FontShelf_endJob_24 (by decide) ?_
  refine lv_irem hx hb d_FontShelf_endJob_26 (by decide) ?_
  refine lv_topi (fun y_6 ey_6 => ?_)
  obtain rfl : y_6 = (3 : Int32) := ey_6.trans (by decide)
  refine va_ti (v := .int 1200) hx hb (SF_p2 hF).2 hS (show ¬ ((3 : Int32) < 0 ∨ 7 ≤ (3 : Int32).toNatClampNeg) by decide) rfl d_FontShelf_endJob_27 ?_
  refine va_iast hx hb hK hP hD hS 2 2 rfl rfl (show ¬ ((3 : Int32) < 0 ∨ 14 ≤ (3 : Int32).toNatClampNeg) by decide) d_FontShelf_endJob_28 ?_
  clear hP hD hS
  intro H locs hP hD hS
  rw [show (3 : Int32).toNatClampNeg = 3 by decide] at hP hD
  replace hP : va_P (dC, dI) vcl [(s_pins, .inl (cp, 2, .inl pn)), (s_left, .inl (cl, 32, .inl lf)), (s_wishes, .inl (cw, 14, .inl (upd (upd (upd (upd wi 0 277) 1 0) 2 1000) 3 1200))), (s_chosen, .inl (cc, 2, .inl ch)), (h0, .inr (3, [.ref s_ids, .ref s_attributes, .ref s_permanent, .int 0, .ref s_glyphs, .int s_glyphCount, .ref s_dots, .int s_used, .ref s_wishes, .ref s_pins, .int s_id, .int s_code, .ref s_chosen, .int 0, .ref s_left, .ref s_coming]))] H := hP
  replace hD : va_D A [(s_pins, .inl (cp, 2, .inl pn)), (s_left, .inl (cl, 32, .inl lf)), (s_wishes, .inl (cw, 14, .inl (upd (upd (upd (upd wi 0 277) 1 0) 2 1000) 3 1200))), (s_chosen, .inl (cc, 2, .inl ch)), (h0, .inr (3, [.ref s_ids, .ref s_attributes, .ref s_permanent, .int 0, .ref s_glyphs, .int s_glyphCount, .ref s_dots, .int s_used, .ref s_wishes, .ref s_pins, .int s_id, .int s_code, .ref s_chosen, .int 0, .ref s_left, .ref s_coming]))] := hD
  refine lv_iinc (v := 4) (lv' := [(1, .int 4), (0, .ref h0)]) hx hb d_FontShelf_endJob_29 hl (k := 0) rfl (by decide) (by decide) rfl ?_
  clear hl
  intro ls hl
  refine lv_goto (tgt := 6) hx hb d_FontShelf_endJob_32 (by decide) ?_
  refine lv_iload_n hx hb d_FontShelf_endJob_6 rfl (lv_at hl 0 rfl) ?_
  refine lv_aload_n hx hb d_FontShelf_endJob_7 rfl (lv_at hl 1 rfl) ?_
  refine va_get (D := (dC, dI)) (ci := 3) (v := .ref s_wishes) (C := R_FontShelf) (T := F_FontShelf) (N := 16) hx hb hwd i_FontShelf hown hK hP 4 rfl rfl 8 (by decide) (hwd _ wd_2_109) (fun _ h9 => h9) rfl d_FontShelf_endJob_8 ?_
  refine va_alen (v := 14) hx hb hK hP 2 2 rfl rfl rfl d_FontShelf_endJob_11 ?_
  refine lv_icmp_ge (tgt := 35) hx hb d_FontShelf_endJob_12 (by decide) (fun c12 => absurd c12 (by decide)) (fun _ => ?_)
  refine lv_aload_n hx hb d_FontShelf_endJob_15 rfl (lv_at hl 1 rfl) ?_
  refine va_get (D := (dC, dI)) (ci := 3) (v := .ref s_wishes) (C := R_FontShelf) (T := F_FontShelf) (N := 16) hx hb hwd i_FontShelf hown hK hP 4 rfl rfl 8 (by decide) (hwd _ wd_2_109) (fun _ h9 => h9) rfl d_FontShelf_endJob_16 ?_
  refine lv_iload_n hx hb d_FontShelf_endJob_19 rfl (lv_at hl 0 rfl) ?_
  refine va_gets hx hb (SF_p2 hF).1 hS hown (hwd _ wd_2_36) (fun _ h9 => h9) d_FontShelf_endJob_20 ?_
  refine lv_iload_n hx hb d_FontShelf_endJob_23 rfl (lv_at hl 0 rfl) ?_
  refine lv_bipush (v := 7) hx hb d_FontShelf_endJob_24 (by decide) ?_
  refine lv_irem hx hb d_FontShelf_endJob_26 (by decide) ?_
  refine lv_topi (fun y_7 ey_7 => ?_)
  obtain rfl : y_7 = (4 : Int32) := ey_7.trans (by decide)
  refine va_ti (v := .int 0) hx hb (SF_p2 hF).2 hS (show ¬ ((4 : Int32) < 0 ∨ 7 ≤ (4 : Int32).toNatClampNeg) by decide) rfl d_FontShelf_endJob_27 ?_
  refine va_iast hx hb hK hP hD hS 2 2 rfl rfl (show ¬ ((4 : Int32) < 0 ∨ 14 ≤ (4 : Int32).toNatClampNeg) by decide) d_FontShelf_endJob_28 ?_
  clear hP hD hS
  intro H locs hP hD hS
  rw [show (4 : Int32).toNatClampNeg = 4 by decide] at hP hD
  replace hP : va_P (dC, dI) vcl [(s_pins, .inl (cp, 2, .inl pn)), (s_left, .inl (cl, 32, .inl lf)), (s_wishes, .inl (cw, 14, .inl (upd (upd (upd (upd (upd wi 0 277) 1 0) 2 1000) 3 1200) 4 0))), (s_chosen, .inl (cc, 2, .inl ch)), (h0, .inr (3, [.ref s_ids, .ref s_attributes, .ref s_permanent, .int 0, .ref s_glyphs, .int s_glyphCount, .ref s_dots, .int s_used, .ref s_wishes, .ref s_pins, .int s_id, .int s_code, .ref s_chosen, .int 0, .ref s_left, .ref s_coming]))] H := hP
  replace hD : va_D A [(s_pins, .inl (cp, 2, .inl pn)), (s_left, .inl (cl, 32, .inl lf)), (s_wishes, .inl (cw, 14, .inl (upd (upd (upd (upd (upd wi 0 277) 1 0) 2 1000) 3 1200) 4 0))), (s_chosen, .inl (cc, 2, .inl ch)), (h0, .inr (3, [.ref s_ids, .ref s_attributes, .ref s_permanent, .int 0, .ref s_glyphs, .int s_glyphCount, .ref s_dots, .int s_used, .ref s_wishes, .ref s_pins, .int s_id, .int s_code, .ref s_chosen, .int 0, .ref s_left, .ref s_coming]))] := hD
  refine lv_iinc (v := 5) (lv' := [(1, .int 5), (0, .ref h0)]) hx hb d_FontShelf_endJob_29 hl (k := 0) rfl (by decide) (by decide) rfl ?_
  clear hl
  intro ls hl
  refine lv_goto (tgt := 6) hx hb d_FontShelf_endJob_32 (by decide) ?_
  refine lv_iload_n hx hb d_FontShelf_endJob_6 rfl (lv_at hl 0 rfl) ?_
  refine lv_aload_n hx hb d_FontShelf_endJob_7 rfl (lv_at hl 1 rfl) ?_
  refine va_get (D := (dC, dI)) (ci := 3) (v := .ref s_wishes) (C := R_FontShelf) (T := F_FontShelf) (N := 16) hx hb hwd i_FontShelf hown hK hP 4 rfl rfl 8 (by decide) (hwd _ wd_2_109) (fun _ h9 => h9) rfl d_FontShelf_endJob_8 ?_
  refine va_alen (v := 14) hx hb hK hP 2 2 rfl rfl rfl d_FontShelf_endJob_11 ?_
  refine lv_icmp_ge (tgt := 35) hx hb d_FontShelf_endJob_12 (by decide) (fun c12 => absurd c12 (by decide)) (fun _ => ?_)
  refine lv_aload_n hx hb d_FontShelf_endJob_15 rfl (lv_at hl 1 rfl) ?_
  refine va_get (D := (dC, dI)) (ci := 3) (v := .ref s_wishes) (C := R_FontShelf) (T := F_FontShelf) (N := 16) hx hb hwd i_FontShelf hown hK hP 4 rfl rfl 8 (by decide) (hwd _ wd_2_109) (fun _ h9 => h9) rfl d_FontShelf_endJob_16 ?_
  refine lv_iload_n hx hb d_FontShelf_endJob_19 rfl (lv_at hl 0 rfl) ?_
  refine va_gets hx hb (SF_p2 hF).1 hS hown (hwd _ wd_2_36) (fun _ h9 => h9) d_FontShelf_endJob_20 ?_
  refine lv_iload_n hx hb d_FontShelf_endJob_23 rfl (lv_at hl 0 rfl) ?_
  refine lv_bipush (v := 7) hx hb d_FontShelf_endJob_24 (by decide) ?_
  refine lv_irem hx hb d_FontShelf_endJob_26 (by decide) ?_
  refine lv_topi (fun y_8 ey_8 => ?_)
  obtain rfl : y_8 = (5 : Int32) := ey_8.trans (by decide)
  refine va_ti (v := .int 0) hx hb (SF_p2 hF).2 hS (show ¬ ((5 : Int32) < 0 ∨ 7 ≤ (5 : Int32).toNatClampNeg) by decide) rfl d_FontShelf_endJob_27 ?_
  refine va_iast hx hb hK hP hD hS 2 2 rfl rfl (show ¬ ((5 : Int32) < 0 ∨ 14 ≤ (5 : Int32).toNatClampNeg) by decide) d_FontShelf_endJob_28 ?_
  clear hP hD hS
  intro H locs hP hD hS
  rw [show (5 : Int32).toNatClampNeg = 5 by decide] at hP hD
  obtain ⟨f_9, ef_9⟩ : ∃ y : Nat → Int32, y = upd (upd (upd (upd (upd (upd wi 0 277) 1 0) 2 1000) 3 1200) 4 0) 5 0 := ⟨_, rfl⟩
  replace hP : va_P (dC, dI) vcl [(s_pins, .inl (cp, 2, .inl pn)), (s_left, .inl (cl, 32, .inl lf)), (s_wishes, .inl (cw, 14, .inl (upd (upd (upd (upd (upd (upd wi 0 277) 1 0) 2 1000) 3 1200) 4 0) 5 0))), (s_chosen, .inl (cc, 2, .inl ch)), (h0, .inr (3, [.ref s_ids, .ref s_attributes, .ref s_permanent, .int 0, .ref s_glyphs, .int s_glyphCount, .ref s_dots, .int s_used, .ref s_wishes, .ref s_pins, .int s_id, .int s_code, .ref s_chosen, .int 0, .ref s_left, .ref s_coming]))] H := hP
  replace hD : va_D A [(s_pins, .inl (cp, 2, .inl pn)), (s_left, .inl (cl, 32, .inl lf)), (s_wishes, .inl (cw, 14, .inl (upd (upd (upd (upd (upd (upd wi 0 277) 1 0) 2 1000) 3 1200) 4 0) 5 0))), (s_chosen, .inl (cc, 2, .inl ch)), (h0, .inr (3, [.ref s_ids, .ref s_attributes, .ref s_permanent, .int 0, .ref s_glyphs, .int s_glyphCount, .ref s_dots, .int s_used, .ref s_wishes, .ref s_pins, .int s_id, .int s_code, .ref s_chosen, .int 0, .ref s_left, .ref s_coming]))] := hD
  rw [← ef_9] at hP hD
  replace hP : va_P (dC, dI) vcl [(s_pins, .inl (cp, 2, .inl pn)), (s_left, .inl (cl, 32, .inl lf)), (s_wishes, .inl (cw, 14, .inl f_9)), (s_chosen, .inl (cc, 2, .inl ch)), (h0, .inr (3, [.ref s_ids, .ref s_attributes, .ref s_permanent, .int 0, .ref s_glyphs, .int s_glyphCount, .ref s_dots, .int s_used, .ref s_wishes, .ref s_pins, .int s_id, .int s_code, .ref s_chosen, .int 0, .ref s_left, .ref s_coming]))] H := hP
  replace hD : va_D A [(s_pins, .inl (cp, 2, .inl pn)), (s_left, .inl (cl, 32, .inl lf)), (s_wishes, .inl (cw, 14, .inl f_9)), (s_chosen, .inl (cc, 2, .inl ch)), (h0, .inr (3, [.ref s_ids, .ref s_attributes, .ref s_permanent, .int 0, .ref s_glyphs, .int s_glyphCount, .ref s_dots, .int s_used, .ref s_wishes, .ref s_pins, .int s_id, .int s_code, .ref s_chosen, .int 0, .ref s_left, .ref s_coming]))] := hD
  refine lv_iinc (v := 6) (lv' := [(1, .int 6), (0, .ref h0)]) hx hb d_FontShelf_endJob_29 hl (k := 0) rfl (by decide) (by decide) rfl ?_
  clear hl
  intro ls hl
  refine lv_goto (tgt := 6) hx hb d_FontShelf_endJob_32 (by decide) ?_
  refine lv_iload_n hx hb d_FontShelf_endJob_6 rfl (lv_at hl 0 rfl) ?_
  refine lv_aload_n hx hb d_FontShelf_endJob_7 rfl (lv_at hl 1 rfl) ?_
  refine va_get (D := (dC, dI)) (ci := 3) (v := .ref s_wishes) (C := R_FontShelf) (T := F_FontShelf) (N := 16) hx hb hwd i_FontShelf hown hK hP 4 rfl rfl 8 (by decide) (hwd _ wd_2_109) (fun _ h9 => h9) rfl d_FontShelf_endJob_8 ?_
  refine va_alen (v := 14) hx hb hK hP 2 2 rfl rfl rfl d_FontShelf_endJob_11 ?_
  refine lv_icmp_ge (tgt := 35) hx hb d_FontShelf_endJob_12 (by decide) (fun c12 => absurd c12 (by decide)) (fun _ => ?_)
  refine lv_aload_n hx hb d_FontShelf_endJob_15 rfl (lv_at hl 1 rfl) ?_
  refine va_get (D := (dC, dI)) (ci := 3) (v := .ref s_wishes) (C := R_FontShelf) (T := F_FontShelf) (N := 16) hx hb hwd i_FontShelf hown hK hP 4 rfl rfl 8 (by decide) (hwd _ wd_2_109) (fun _ h9 => h9) rfl d_FontShelf_endJob_16 ?_
  refine lv_iload_n hx hb d_FontShelf_endJob_19 rfl (lv_at hl 0 rfl) ?_
  refine va_gets hx hb (SF_p2 hF).1 hS hown (hwd _ wd_2_36) (fun _ h9 => h9) d_FontShelf_endJob_20 ?_
  refine lv_iload_n hx hb d_FontShelf_endJob_23 rfl (lv_at hl 0 rfl) ?_
  refine lv_bipush (v := 7) hx hb d_FontShelf_endJob_24 (by decide) ?_
  refine lv_irem hx hb d_FontShelf_endJob_26 (by decide) ?_
  refine lv_topi (fun y_10 ey_10 => ?_)
  obtain rfl : y_10 = (6 : Int32) := ey_10.trans (by decide)
  refine va_ti (v := .int 3) hx hb (SF_p2 hF).2 hS (show ¬ ((6 : Int32) < 0 ∨ 7 ≤ (6 : Int32).toNatClampNeg) by decide) rfl d_FontShelf_endJob_27 ?_
  refine va_iast hx hb hK hP hD hS 2 2 rfl rfl (show ¬ ((6 : Int32) < 0 ∨ 14 ≤ (6 : Int32).toNatClampNeg) by decide) d_FontShelf_endJob_28 ?_
  clear hP hD hS
  intro H locs hP hD hS
  rw [show (6 : Int32).toNatClampNeg = 6 by decide] at hP hD
  replace hP : va_P (dC, dI) vcl [(s_pins, .inl (cp, 2, .inl pn)), (s_left, .inl (cl, 32, .inl lf)), (s_wishes, .inl (cw, 14, .inl (upd f_9 6 3))), (s_chosen, .inl (cc, 2, .inl ch)), (h0, .inr (3, [.ref s_ids, .ref s_attributes, .ref s_permanent, .int 0, .ref s_glyphs, .int s_glyphCount, .ref s_dots, .int s_used, .ref s_wishes, .ref s_pins, .int s_id, .int s_code, .ref s_chosen, .int 0, .ref s_left, .ref s_coming]))] H := hP
  replace hD : va_D A [(s_pins, .inl (cp, 2, .inl pn)), (s_left, .inl (cl, 32, .inl lf)), (s_wishes, .inl (cw, 14, .inl (upd f_9 6 3))), (s_chosen, .inl (cc, 2, .inl ch)), (h0, .inr (3, [.ref s_ids, .ref s_attributes, .ref s_permanent, .int 0, .ref s_glyphs, .int s_glyphCount, .ref s_dots, .int s_used, .ref s_wishes, .ref s_pins, .int s_id, .int s_code, .ref s_chosen, .int 0, .ref s_left, .ref s_coming]))] := hD
  refine lv_iinc (v := 7) (lv' := [(1, .int 7), (0, .ref h0)]) hx hb d_FontShelf_endJob_29 hl (k := 0) rfl (by decide) (by decide) rfl ?_
  clear hl
  intro ls hl
  refine lv_goto (tgt := 6) hx hb d_FontShelf_endJob_32 (by decide) ?_
  refine lv_iload_n hx hb d_FontShelf_endJob_6 rfl (lv_at hl 0 rfl) ?_
  refine lv_aload_n hx hb d_FontShelf_endJob_7 rfl (lv_at hl 1 rfl) ?_
  refine va_get (D := (dC, dI)) (ci := 3) (v := .ref s_wishes) (C := R_FontShelf) (T := F_FontShelf) (N := 16) hx hb hwd i_FontShelf hown hK hP 4 rfl rfl 8 (by decide) (hwd _ wd_2_109) (fun _ h9 => h9) rfl d_FontShelf_endJob_8 ?_
  refine va_alen (v := 14) hx hb hK hP 2 2 rfl rfl rfl d_FontShelf_endJob_11 ?_
  refine lv_icmp_ge (tgt := 35) hx hb d_FontShelf_endJob_12 (by decide) (fun c12 => absurd c12 (by decide)) (fun _ => ?_)
  refine lv_aload_n hx hb d_FontShelf_endJob_15 rfl (lv_at hl 1 rfl) ?_
  refine va_get (D := (dC, dI)) (ci := 3) (v := .ref s_wishes) (C := R_FontShelf) (T := F_FontShelf) (N := 16) hx hb hwd i_FontShelf hown hK hP 4 rfl rfl 8 (by decide) (hwd _ wd_2_109) (fun _ h9 => h9) rfl d_FontShelf_endJob_16 ?_
  refine lv_iload_n hx hb d_FontShelf_endJob_19 rfl (lv_at hl 0 rfl) ?_
  refine va_gets hx hb (SF_p2 hF).1 hS hown (hwd _ wd_2_36) (fun _ h9 => h9) d_FontShelf_endJob_20 ?_
  refine lv_iload_n hx hb d_FontShelf_endJob_23 rfl (lv_at hl 0 rfl) ?_
  refine lv_bipush (v := 7) hx hb d_FontShelf_endJob_24 (by decide) ?_
  refine lv_irem hx hb d_FontShelf_endJob_26 (by decide) ?_
  refine lv_topi (fun y_11 ey_11 => ?_)
  obtain rfl : y_11 = (0 : Int32) := ey_11.trans (by decide)
  refine va_ti (v := .int 277) hx hb (SF_p2 hF).2 hS (show ¬ ((0 : Int32) < 0 ∨ 7 ≤ (0 : Int32).toNatClampNeg) by decide) rfl d_FontShelf_endJob_27 ?_
  refine va_iast hx hb hK hP hD hS 2 2 rfl rfl (show ¬ ((7 : Int32) < 0 ∨ 14 ≤ (7 : Int32).toNatClampNeg) by decide) d_FontShelf_endJob_28 ?_
  clear hP hD hS
  intro H locs hP hD hS
  rw [show (7 : Int32).toNatClampNeg = 7 by decide] at hP hD
  replace hP : va_P (dC, dI) vcl [(s_pins, .inl (cp, 2, .inl pn)), (s_left, .inl (cl, 32, .inl lf)), (s_wishes, .inl (cw, 14, .inl (upd (upd f_9 6 3) 7 277))), (s_chosen, .inl (cc, 2, .inl ch)), (h0, .inr (3, [.ref s_ids, .ref s_attributes, .ref s_permanent, .int 0, .ref s_glyphs, .int s_glyphCount, .ref s_dots, .int s_used, .ref s_wishes, .ref s_pins, .int s_id, .int s_code, .ref s_chosen, .int 0, .ref s_left, .ref s_coming]))] H := hP
  replace hD : va_D A [(s_pins, .inl (cp, 2, .inl pn)), (s_left, .inl (cl, 32, .inl lf)), (s_wishes, .inl (cw, 14, .inl (upd (upd f_9 6 3) 7 277))), (s_chosen, .inl (cc, 2, .inl ch)), (h0, .inr (3, [.ref s_ids, .ref s_attributes, .ref s_permanent, .int 0, .ref s_glyphs, .int s_glyphCount, .ref s_dots, .int s_used, .ref s_wishes, .ref s_pins, .int s_id, .int s_code, .ref s_chosen, .int 0, .ref s_left, .ref s_coming]))] := hD
  refine lv_iinc (v := 8) (lv' := [(1, .int 8), (0, .ref h0)]) hx hb d_FontShelf_endJob_29 hl (k := 0) rfl (by decide) (by decide) rfl ?_
  clear hl
  intro ls hl
  refine lv_goto (tgt := 6) hx hb d_FontShelf_endJob_32 (by decide) ?_
  refine lv_iload_n hx hb d_FontShelf_endJob_6 rfl (lv_at hl 0 rfl) ?_
  refine lv_aload_n hx hb d_FontShelf_endJob_7 rfl (lv_at hl 1 rfl) ?_
  refine va_get (D := (dC, dI)) (ci := 3) (v := .ref s_wishes) (C := R_FontShelf) (T := F_FontShelf) (N := 16) hx hb hwd i_FontShelf hown hK hP 4 rfl rfl 8 (by decide) (hwd _ wd_2_109) (fun _ h9 => h9) rfl d_FontShelf_endJob_8 ?_
  refine va_alen (v := 14) hx hb hK hP 2 2 rfl rfl rfl d_FontShelf_endJob_11 ?_
  refine lv_icmp_ge (tgt := 35) hx hb d_FontShelf_endJob_12 (by decide) (fun c12 => absurd c12 (by decide)) (fun _ => ?_)
  refine lv_aload_n hx hb d_FontShelf_endJob_15 rfl (lv_at hl 1 rfl) ?_
  refine va_get (D := (dC, dI)) (ci := 3) (v := .ref s_wishes) (C := R_FontShelf) (T := F_FontShelf) (N := 16) hx hb hwd i_FontShelf hown hK hP 4 rfl rfl 8 (by decide) (hwd _ wd_2_109) (fun _ h9 => h9) rfl d_FontShelf_endJob_16 ?_
  refine lv_iload_n hx hb d_FontShelf_endJob_19 rfl (lv_at hl 0 rfl) ?_
  refine va_gets hx hb (SF_p2 hF).1 hS hown (hwd _ wd_2_36) (fun _ h9 => h9) d_FontShelf_endJob_20 ?_
  refine lv_iload_n hx hb d_FontShelf_endJob_23 rfl (lv_at hl 0 rfl) ?_
  refine lv_bipush (v := 7) hx hb d_FontShelf_endJob_24 (by decide) ?_
  refine lv_irem hx hb d_FontShelf_endJob_26 (by decide) ?_
  refine lv_topi (fun y_12 ey_12 => ?_)
  obtain rfl : y_12 = (1 : Int32) := ey_12.trans (by decide)
  refine va_ti (v := .int 0) hx hb (SF_p2 hF).2 hS (show ¬ ((1 : Int32) < 0 ∨ 7 ≤ (1 : Int32).toNatClampNeg) by decide) rfl d_FontShelf_endJob_27 ?_
  refine va_iast hx hb hK hP hD hS 2 2 rfl rfl (show ¬ ((8 : Int32) < 0 ∨ 14 ≤ (8 : Int32).toNatClampNeg) by decide) d_FontShelf_endJob_28 ?_
  clear hP hD hS
  intro H locs hP hD hS
  rw [show (8 : Int32).toNatClampNeg = 8 by decide] at hP hD
  replace hP : va_P (dC, dI) vcl [(s_pins, .inl (cp, 2, .inl pn)), (s_left, .inl (cl, 32, .inl lf)), (s_wishes, .inl (cw, 14, .inl (upd (upd (upd f_9 6 3) 7 277) 8 0))), (s_chosen, .inl (cc, 2, .inl ch)), (h0, .inr (3, [.ref s_ids, .ref s_attributes, .ref s_permanent, .int 0, .ref s_glyphs, .int s_glyphCount, .ref s_dots, .int s_used, .ref s_wishes, .ref s_pins, .int s_id, .int s_code, .ref s_chosen, .int 0, .ref s_left, .ref s_coming]))] H := hP
  replace hD : va_D A [(s_pins, .inl (cp, 2, .inl pn)), (s_left, .inl (cl, 32, .inl lf)), (s_wishes, .inl (cw, 14, .inl (upd (upd (upd f_9 6 3) 7 277) 8 0))), (s_chosen, .inl (cc, 2, .inl ch)), (h0, .inr (3, [.ref s_ids, .ref s_attributes, .ref s_permanent, .int 0, .ref s_glyphs, .int s_glyphCount, .ref s_dots, .int s_used, .ref s_wishes, .ref s_pins, .int s_id, .int s_code, .ref s_chosen, .int 0, .ref s_left, .ref s_coming]))] := hD
  refine lv_iinc (v := 9) (lv' := [(1, .int 9), (0, .ref h0)]) hx hb d_FontShelf_endJob_29 hl (k := 0) rfl (by decide) (by decide) rfl ?_
  clear hl
  intro ls hl
  refine lv_goto (tgt := 6) hx hb d_FontShelf_endJob_32 (by decide) ?_
  refine lv_iload_n hx hb d_FontShelf_endJob_6 rfl (lv_at hl 0 rfl) ?_
  refine lv_aload_n hx hb d_FontShelf_endJob_7 rfl (lv_at hl 1 rfl) ?_
  refine va_get (D := (dC, dI)) (ci := 3) (v := .ref s_wishes) (C := R_FontShelf) (T := F_FontShelf) (N := 16) hx hb hwd i_FontShelf hown hK hP 4 rfl rfl 8 (by decide) (hwd _ wd_2_109) (fun _ h9 => h9) rfl d_FontShelf_endJob_8 ?_
  refine va_alen (v := 14) hx hb hK hP 2 2 rfl rfl rfl d_FontShelf_endJob_11 ?_
  refine lv_icmp_ge (tgt := 35) hx hb d_FontShelf_endJob_12 (by decide) (fun c12 => absurd c12 (by decide)) (fun _ => ?_)
  refine lv_aload_n hx hb d_FontShelf_endJob_15 rfl (lv_at hl 1 rfl) ?_
  refine va_get (D := (dC, dI)) (ci := 3) (v := .ref s_wishes) (C := R_FontShelf) (T := F_FontShelf) (N := 16) hx hb hwd i_FontShelf hown hK hP 4 rfl rfl 8 (by decide) (hwd _ wd_2_109) (fun _ h9 => h9) rfl d_FontShelf_endJob_16 ?_
  refine lv_iload_n hx hb d_FontShelf_endJob_19 rfl (lv_at hl 0 rfl) ?_
  refine va_gets hx hb (SF_p2 hF).1 hS hown (hwd _ wd_2_36) (fun _ h9 => h9) d_FontShelf_endJob_20 ?_
  refine lv_iload_n hx hb d_FontShelf_endJob_23 rfl (lv_at hl 0 rfl) ?_
  refine lv_bipush (v := 7) hx hb d_FontShelf_endJob_24 (by decide) ?_
  refine lv_irem hx hb d_FontShelf_endJob_26 (by decide) ?_
  refine lv_topi (fun y_13 ey_13 => ?_)
  obtain rfl : y_13 = (2 : Int32) := ey_13.trans (by decide)
  refine va_ti (v := .int 1000) hx hb (SF_p2 hF).2 hS (show ¬ ((2 : Int32) < 0 ∨ 7 ≤ (2 : Int32).toNatClampNeg) by decide) rfl d_FontShelf_endJob_27 ?_
  refine va_iast hx hb hK hP hD hS 2 2 rfl rfl (show ¬ ((9 : Int32) < 0 ∨ 14 ≤ (9 : Int32).toNatClampNeg) by decide) d_FontShelf_endJob_28 ?_
  clear hP hD hS
  intro H locs hP hD hS
  rw [show (9 : Int32).toNatClampNeg = 9 by decide] at hP hD
  replace hP : va_P (dC, dI) vcl [(s_pins, .inl (cp, 2, .inl pn)), (s_left, .inl (cl, 32, .inl lf)), (s_wishes, .inl (cw, 14, .inl (upd (upd (upd (upd f_9 6 3) 7 277) 8 0) 9 1000))), (s_chosen, .inl (cc, 2, .inl ch)), (h0, .inr (3, [.ref s_ids, .ref s_attributes, .ref s_permanent, .int 0, .ref s_glyphs, .int s_glyphCount, .ref s_dots, .int s_used, .ref s_wishes, .ref s_pins, .int s_id, .int s_code, .ref s_chosen, .int 0, .ref s_left, .ref s_coming]))] H := hP
  replace hD : va_D A [(s_pins, .inl (cp, 2, .inl pn)), (s_left, .inl (cl, 32, .inl lf)), (s_wishes, .inl (cw, 14, .inl (upd (upd (upd (upd f_9 6 3) 7 277) 8 0) 9 1000))), (s_chosen, .inl (cc, 2, .inl ch)), (h0, .inr (3, [.ref s_ids, .ref s_attributes, .ref s_permanent, .int 0, .ref s_glyphs, .int s_glyphCount, .ref s_dots, .int s_used, .ref s_wishes, .ref s_pins, .int s_id, .int s_code, .ref s_chosen, .int 0, .ref s_left, .ref s_coming]))] := hD
  refine lv_iinc (v := 10) (lv' := [(1, .int 10), (0, .ref h0)]) hx hb d_FontShelf_endJob_29 hl (k := 0) rfl (by decide) (by decide) rfl ?_
  clear hl
  intro ls hl
  refine lv_goto (tgt := 6) hx hb d_FontShelf_endJob_32 (by decide) ?_
  refine lv_iload_n hx hb d_FontShelf_endJob_6 rfl (lv_at hl 0 rfl) ?_
  refine lv_aload_n hx hb d_FontShelf_endJob_7 rfl (lv_at hl 1 rfl) ?_
  refine va_get (D := (dC, dI)) (ci := 3) (v := .ref s_wishes) (C := R_FontShelf) (T := F_FontShelf) (N := 16) hx hb hwd i_FontShelf hown hK hP 4 rfl rfl 8 (by decide) (hwd _ wd_2_109) (fun _ h9 => h9) rfl d_FontShelf_endJob_8 ?_
  refine va_alen (v := 14) hx hb hK hP 2 2 rfl rfl rfl d_FontShelf_endJob_11 ?_
  refine lv_icmp_ge (tgt := 35) hx hb d_FontShelf_endJob_12 (by decide) (fun c12 => absurd c12 (by decide)) (fun _ => ?_)
  refine lv_aload_n hx hb d_FontShelf_endJob_15 rfl (lv_at hl 1 rfl) ?_
  refine va_get (D := (dC, dI)) (ci := 3) (v := .ref s_wishes) (C := R_FontShelf) (T := F_FontShelf) (N := 16) hx hb hwd i_FontShelf hown hK hP 4 rfl rfl 8 (by decide) (hwd _ wd_2_109) (fun _ h9 => h9) rfl d_FontShelf_endJob_16 ?_
  refine lv_iload_n hx hb d_FontShelf_endJob_19 rfl (lv_at hl 0 rfl) ?_
  refine va_gets hx hb (SF_p2 hF).1 hS hown (hwd _ wd_2_36) (fun _ h9 => h9) d_FontShelf_endJob_20 ?_
  refine lv_iload_n hx hb d_FontShelf_endJob_23 rfl (lv_at hl 0 rfl) ?_
  refine lv_bipush (v := 7) hx hb d_FontShelf_endJob_24 (by decide) ?_
  refine lv_irem hx hb d_FontShelf_endJob_26 (by decide) ?_
  refine lv_topi (fun y_14 ey_14 => ?_)
  obtain rfl : y_14 = (3 : Int32) := ey_14.trans (by decide)
  refine va_ti (v := .int 1200) hx hb (SF_p2 hF).2 hS (show ¬ ((3 : Int32) < 0 ∨ 7 ≤ (3 : Int32).toNatClampNeg) by decide) rfl d_FontShelf_endJob_27 ?_
  refine va_iast hx hb hK hP hD hS 2 2 rfl rfl (show ¬ ((10 : Int32) < 0 ∨ 14 ≤ (10 : Int32).toNatClampNeg) by decide) d_FontShelf_endJob_28 ?_
  clear hP hD hS
  intro H locs hP hD hS
  rw [show (10 : Int32).toNatClampNeg = 10 by decide] at hP hD
  replace hP : va_P (dC, dI) vcl [(s_pins, .inl (cp, 2, .inl pn)), (s_left, .inl (cl, 32, .inl lf)), (s_wishes, .inl (cw, 14, .inl (upd (upd (upd (upd (upd f_9 6 3) 7 277) 8 0) 9 1000) 10 1200))), (s_chosen, .inl (cc, 2, .inl ch)), (h0, .inr (3, [.ref s_ids, .ref s_attributes, .ref s_permanent, .int 0, .ref s_glyphs, .int s_glyphCount, .ref s_dots, .int s_used, .ref s_wishes, .ref s_pins, .int s_id, .int s_code, .ref s_chosen, .int 0, .ref s_left, .ref s_coming]))] H := hP
  replace hD : va_D A [(s_pins, .inl (cp, 2, .inl pn)), (s_left, .inl (cl, 32, .inl lf)), (s_wishes, .inl (cw, 14, .inl (upd (upd (upd (upd (upd f_9 6 3) 7 277) 8 0) 9 1000) 10 1200))), (s_chosen, .inl (cc, 2, .inl ch)), (h0, .inr (3, [.ref s_ids, .ref s_attributes, .ref s_permanent, .int 0, .ref s_glyphs, .int s_glyphCount, .ref s_dots, .int s_used, .ref s_wishes, .ref s_pins, .int s_id, .int s_code, .ref s_chosen, .int 0, .ref s_left, .ref s_coming]))] := hD
  refine lv_iinc (v := 11) (lv' := [(1, .int 11), (0, .ref h0)]) hx hb d_FontShelf_endJob_29 hl (k := 0) rfl (by decide) (by decide) rfl ?_
  clear hl
  intro ls hl
  refine lv_goto (tgt := 6) hx hb d_FontShelf_endJob_32 (by decide) ?_
  refine lv_iload_n hx hb d_FontShelf_endJob_6 rfl (lv_at hl 0 rfl) ?_
  refine lv_aload_n hx hb d_FontShelf_endJob_7 rfl (lv_at hl 1 rfl) ?_
  refine va_get (D := (dC, dI)) (ci := 3) (v := .ref s_wishes) (C := R_FontShelf) (T := F_FontShelf) (N := 16) hx hb hwd i_FontShelf hown hK hP 4 rfl rfl 8 (by decide) (hwd _ wd_2_109) (fun _ h9 => h9) rfl d_FontShelf_endJob_8 ?_
  refine va_alen (v := 14) hx hb hK hP 2 2 rfl rfl rfl d_FontShelf_endJob_11 ?_
  refine lv_icmp_ge (tgt := 35) hx hb d_FontShelf_endJob_12 (by decide) (fun c12 => absurd c12 (by decide)) (fun _ => ?_)
  refine lv_aload_n hx hb d_FontShelf_endJob_15 rfl (lv_at hl 1 rfl) ?_
  refine va_get (D := (dC, dI)) (ci := 3) (v := .ref s_wishes) (C := R_FontShelf) (T := F_FontShelf) (N := 16) hx hb hwd i_FontShelf hown hK hP 4 rfl rfl 8 (by decide) (hwd _ wd_2_109) (fun _ h9 => h9) rfl d_FontShelf_endJob_16 ?_
  refine lv_iload_n hx hb d_FontShelf_endJob_19 rfl (lv_at hl 0 rfl) ?_
  refine va_gets hx hb (SF_p2 hF).1 hS hown (hwd _ wd_2_36) (fun _ h9 => h9) d_FontShelf_endJob_20 ?_
  refine lv_iload_n hx hb d_FontShelf_endJob_23 rfl (lv_at hl 0 rfl) ?_
  refine lv_bipush (v := 7) hx hb d_FontShelf_endJob_24 (by decide) ?_
  refine lv_irem hx hb d_FontShelf_endJob_26 (by decide) ?_
  refine lv_topi (fun y_15 ey_15 => ?_)
  obtain rfl : y_15 = (4 : Int32) := ey_15.trans (by decide)
  refine va_ti (v := .int 0) hx hb (SF_p2 hF).2 hS (show ¬ ((4 : Int32) < 0 ∨ 7 ≤ (4 : Int32).toNatClampNeg) by decide) rfl d_FontShelf_endJob_27 ?_
  refine va_iast hx hb hK hP hD hS 2 2 rfl rfl (show ¬ ((11 : Int32) < 0 ∨ 14 ≤ (11 : Int32).toNatClampNeg) by decide) d_FontShelf_endJob_28 ?_
  clear hP hD hS
  intro H locs hP hD hS
  rw [show (11 : Int32).toNatClampNeg = 11 by decide] at hP hD
  obtain ⟨f_16, ef_16⟩ : ∃ y : Nat → Int32, y = upd (upd (upd (upd (upd (upd f_9 6 3) 7 277) 8 0) 9 1000) 10 1200) 11 0 := ⟨_, rfl⟩
  replace hP : va_P (dC, dI) vcl [(s_pins, .inl (cp, 2, .inl pn)), (s_left, .inl (cl, 32, .inl lf)), (s_wishes, .inl (cw, 14, .inl (upd (upd (upd (upd (upd (upd f_9 6 3) 7 277) 8 0) 9 1000) 10 1200) 11 0))), (s_chosen, .inl (cc, 2, .inl ch)), (h0, .inr (3, [.ref s_ids, .ref s_attributes, .ref s_permanent, .int 0, .ref s_glyphs, .int s_glyphCount, .ref s_dots, .int s_used, .ref s_wishes, .ref s_pins, .int s_id, .int s_code, .ref s_chosen, .int 0, .ref s_left, .ref s_coming]))] H := hP
  replace hD : va_D A [(s_pins, .inl (cp, 2, .inl pn)), (s_left, .inl (cl, 32, .inl lf)), (s_wishes, .inl (cw, 14, .inl (upd (upd (upd (upd (upd (upd f_9 6 3) 7 277) 8 0) 9 1000) 10 1200) 11 0))), (s_chosen, .inl (cc, 2, .inl ch)), (h0, .inr (3, [.ref s_ids, .ref s_attributes, .ref s_permanent, .int 0, .ref s_glyphs, .int s_glyphCount, .ref s_dots, .int s_used, .ref s_wishes, .ref s_pins, .int s_id, .int s_code, .ref s_chosen, .int 0, .ref s_left, .ref s_coming]))] := hD
  rw [← ef_16] at hP hD
  replace hP : va_P (dC, dI) vcl [(s_pins, .inl (cp, 2, .inl pn)), (s_left, .inl (cl, 32, .inl lf)), (s_wishes, .inl (cw, 14, .inl f_16)), (s_chosen, .inl (cc, 2, .inl ch)), (h0, .inr (3, [.ref s_ids, .ref s_attributes, .ref s_permanent, .int 0, .ref s_glyphs, .int s_glyphCount, .ref s_dots, .int s_used, .ref s_wishes, .ref s_pins, .int s_id, .int s_code, .ref s_chosen, .int 0, .ref s_left, .ref s_coming]))] H := hP
  replace hD : va_D A [(s_pins, .inl (cp, 2, .inl pn)), (s_left, .inl (cl, 32, .inl lf)), (s_wishes, .inl (cw, 14, .inl f_16)), (s_chosen, .inl (cc, 2, .inl ch)), (h0, .inr (3, [.ref s_ids, .ref s_attributes, .ref s_permanent, .int 0, .ref s_glyphs, .int s_glyphCount, .ref s_dots, .int s_used, .ref s_wishes, .ref s_pins, .int s_id, .int s_code, .ref s_chosen, .int 0, .ref s_left, .ref s_coming]))] := hD
  refine lv_iinc (v := 12) (lv' := [(1, .int 12), (0, .ref h0)]) hx hb d_FontShelf_endJob_29 hl (k := 0) rfl (by decide) (by decide) rfl ?_
  clear hl
  intro ls hl
  refine lv_goto (tgt := 6) hx hb d_FontShelf_endJob_32 (by decide) ?_
  refine lv_iload_n hx hb d_FontShelf_endJob_6 rfl (lv_at hl 0 rfl) ?_
  refine lv_aload_n hx hb d_FontShelf_endJob_7 rfl (lv_at hl 1 rfl) ?_
  refine va_get (D := (dC, dI)) (ci := 3) (v := .ref s_wishes) (C := R_FontShelf) (T := F_FontShelf) (N := 16) hx hb hwd i_FontShelf hown hK hP 4 rfl rfl 8 (by decide) (hwd _ wd_2_109) (fun _ h9 => h9) rfl d_FontShelf_endJob_8 ?_
  refine va_alen (v := 14) hx hb hK hP 2 2 rfl rfl rfl d_FontShelf_endJob_11 ?_
  refine lv_icmp_ge (tgt := 35) hx hb d_FontShelf_endJob_12 (by decide) (fun c12 => absurd c12 (by decide)) (fun _ => ?_)
  refine lv_aload_n hx hb d_FontShelf_endJob_15 rfl (lv_at hl 1 rfl) ?_
  refine va_get (D := (dC, dI)) (ci := 3) (v := .ref s_wishes) (C := R_FontShelf) (T := F_FontShelf) (N := 16) hx hb hwd i_FontShelf hown hK hP 4 rfl rfl 8 (by decide) (hwd _ wd_2_109) (fun _ h9 => h9) rfl d_FontShelf_endJob_16 ?_
  refine lv_iload_n hx hb d_FontShelf_endJob_19 rfl (lv_at hl 0 rfl) ?_
  refine va_gets hx hb (SF_p2 hF).1 hS hown (hwd _ wd_2_36) (fun _ h9 => h9) d_FontShelf_endJob_20 ?_
  refine lv_iload_n hx hb d_FontShelf_endJob_23 rfl (lv_at hl 0 rfl) ?_
  refine lv_bipush (v := 7) hx hb d_FontShelf_endJob_24 (by decide) ?_
  refine lv_irem hx hb d_FontShelf_endJob_26 (by decide) ?_
  refine lv_topi (fun y_17 ey_17 => ?_)
  obtain rfl : y_17 = (5 : Int32) := ey_17.trans (by decide)
  refine va_ti (v := .int 0) hx hb (SF_p2 hF).2 hS (show ¬ ((5 : Int32) < 0 ∨ 7 ≤ (5 : Int32).toNatClampNeg) by decide) rfl d_FontShelf_endJob_27 ?_
  refine va_iast hx hb hK hP hD hS 2 2 rfl rfl (show ¬ ((12 : Int32) < 0 ∨ 14 ≤ (12 : Int32).toNatClampNeg) by decide) d_FontShelf_endJob_28 ?_
  clear hP hD hS
  intro H locs hP hD hS
  rw [show (12 : Int32).toNatClampNeg = 12 by decide] at hP hD
  replace hP : va_P (dC, dI) vcl [(s_pins, .inl (cp, 2, .inl pn)), (s_left, .inl (cl, 32, .inl lf)), (s_wishes, .inl (cw, 14, .inl (upd f_16 12 0))), (s_chosen, .inl (cc, 2, .inl ch)), (h0, .inr (3, [.ref s_ids, .ref s_attributes, .ref s_permanent, .int 0, .ref s_glyphs, .int s_glyphCount, .ref s_dots, .int s_used, .ref s_wishes, .ref s_pins, .int s_id, .int s_code, .ref s_chosen, .int 0, .ref s_left, .ref s_coming]))] H := hP
  replace hD : va_D A [(s_pins, .inl (cp, 2, .inl pn)), (s_left, .inl (cl, 32, .inl lf)), (s_wishes, .inl (cw, 14, .inl (upd f_16 12 0))), (s_chosen, .inl (cc, 2, .inl ch)), (h0, .inr (3, [.ref s_ids, .ref s_attributes, .ref s_permanent, .int 0, .ref s_glyphs, .int s_glyphCount, .ref s_dots, .int s_used, .ref s_wishes, .ref s_pins, .int s_id, .int s_code, .ref s_chosen, .int 0, .ref s_left, .ref s_coming]))] := hD
  refine lv_iinc (v := 13) (lv' := [(1, .int 13), (0, .ref h0)]) hx hb d_FontShelf_endJob_29 hl (k := 0) rfl (by decide) (by decide) rfl ?_
  clear hl
  intro ls hl
  refine lv_goto (tgt := 6) hx hb d_FontShelf_endJob_32 (by decide) ?_
  refine lv_iload_n hx hb d_FontShelf_endJob_6 rfl (lv_at hl 0 rfl) ?_
  refine lv_aload_n hx hb d_FontShelf_endJob_7 rfl (lv_at hl 1 rfl) ?_
  refine va_get (D := (dC, dI)) (ci := 3) (v := .ref s_wishes) (C := R_FontShelf) (T := F_FontShelf) (N := 16) hx hb hwd i_FontShelf hown hK hP 4 rfl rfl 8 (by decide) (hwd _ wd_2_109) (fun _ h9 => h9) rfl d_FontShelf_endJob_8 ?_
  refine va_alen (v := 14) hx hb hK hP 2 2 rfl rfl rfl d_FontShelf_endJob_11 ?_
  refine lv_icmp_ge (tgt := 35) hx hb d_FontShelf_endJob_12 (by decide) (fun c12 => absurd c12 (by decide)) (fun _ => ?_)
  refine lv_aload_n hx hb d_FontShelf_endJob_15 rfl (lv_at hl 1 rfl) ?_
  refine va_get (D := (dC, dI)) (ci := 3) (v := .ref s_wishes) (C := R_FontShelf) (T := F_FontShelf) (N := 16) hx hb hwd i_FontShelf hown hK hP 4 rfl rfl 8 (by decide) (hwd _ wd_2_109) (fun _ h9 => h9) rfl d_FontShelf_endJob_16 ?_
  refine lv_iload_n hx hb d_FontShelf_endJob_19 rfl (lv_at hl 0 rfl) ?_
  refine va_gets hx hb (SF_p2 hF).1 hS hown (hwd _ wd_2_36) (fun _ h9 => h9) d_FontShelf_endJob_20 ?_
  refine lv_iload_n hx hb d_FontShelf_endJob_23 rfl (lv_at hl 0 rfl) ?_
  refine lv_bipush (v := 7) hx hb d_FontShelf_endJob_24 (by decide) ?_
  refine lv_irem hx hb d_FontShelf_endJob_26 (by decide) ?_
  refine lv_topi (fun y_18 ey_18 => ?_)
  obtain rfl : y_18 = (6 : Int32) := ey_18.trans (by decide)
  refine va_ti (v := .int 3) hx hb (SF_p2 hF).2 hS (show ¬ ((6 : Int32) < 0 ∨ 7 ≤ (6 : Int32).toNatClampNeg) by decide) rfl d_FontShelf_endJob_27 ?_
  refine va_iast hx hb hK hP hD hS 2 2 rfl rfl (show ¬ ((13 : Int32) < 0 ∨ 14 ≤ (13 : Int32).toNatClampNeg) by decide) d_FontShelf_endJob_28 ?_
  clear hP hD hS
  intro H locs hP hD hS
  rw [show (13 : Int32).toNatClampNeg = 13 by decide] at hP hD
  replace hP : va_P (dC, dI) vcl [(s_pins, .inl (cp, 2, .inl pn)), (s_left, .inl (cl, 32, .inl lf)), (s_wishes, .inl (cw, 14, .inl (upd (upd f_16 12 0) 13 3))), (s_chosen, .inl (cc, 2, .inl ch)), (h0, .inr (3, [.ref s_ids, .ref s_attributes, .ref s_permanent, .int 0, .ref s_glyphs, .int s_glyphCount, .ref s_dots, .int s_used, .ref s_wishes, .ref s_pins, .int s_id, .int s_code, .ref s_chosen, .int 0, .ref s_left, .ref s_coming]))] H := hP
  replace hD : va_D A [(s_pins, .inl (cp, 2, .inl pn)), (s_left, .inl (cl, 32, .inl lf)), (s_wishes, .inl (cw, 14, .inl (upd (upd f_16 12 0) 13 3))), (s_chosen, .inl (cc, 2, .inl ch)), (h0, .inr (3, [.ref s_ids, .ref s_attributes, .ref s_permanent, .int 0, .ref s_glyphs, .int s_glyphCount, .ref s_dots, .int s_used, .ref s_wishes, .ref s_pins, .int s_id, .int s_code, .ref s_chosen, .int 0, .ref s_left, .ref s_coming]))] := hD
  refine lv_iinc (v := 14) (lv' := [(1, .int 14), (0, .ref h0)]) hx hb d_FontShelf_endJob_29 hl (k := 0) rfl (by decide) (by decide) rfl ?_
  clear hl
  intro ls hl
  refine lv_goto (tgt := 6) hx hb d_FontShelf_endJob_32 (by decide) ?_
  refine lv_iload_n hx hb d_FontShelf_endJob_6 rfl (lv_at hl 0 rfl) ?_
  refine lv_aload_n hx hb d_FontShelf_endJob_7 rfl (lv_at hl 1 rfl) ?_
  refine va_get (D := (dC, dI)) (ci := 3) (v := .ref s_wishes) (C := R_FontShelf) (T := F_FontShelf) (N := 16) hx hb hwd i_FontShelf hown hK hP 4 rfl rfl 8 (by decide) (hwd _ wd_2_109) (fun _ h9 => h9) rfl d_FontShelf_endJob_8 ?_
  refine va_alen (v := 14) hx hb hK hP 2 2 rfl rfl rfl d_FontShelf_endJob_11 ?_
  refine lv_icmp_ge (tgt := 35) hx hb d_FontShelf_endJob_12 (by decide) (fun _ => ?_) (fun c12 => absurd (by decide) c12)
  refine lv_aload_n hx hb d_FontShelf_endJob_35 rfl (lv_at hl 1 rfl) ?_
  refine va_get (D := (dC, dI)) (ci := 3) (v := .ref s_pins) (C := R_FontShelf) (T := F_FontShelf) (N := 16) hx hb hwd i_FontShelf hown hK hP 4 rfl rfl 9 (by decide) (hwd _ wd_2_110) (fun _ h9 => h9) rfl d_FontShelf_endJob_36 ?_
  refine lv_iconst (v := (-1)) hx hb d_FontShelf_endJob_39 (by decide) ?_
  have hPc := hP.sub (ws' := [(s_pins, .inl (cp, 2, .inl pn))]) [0] rfl
  have hDc := hD.sub (ws' := [(s_pins, .inl (cp, 2, .inl pn))]) [0] (by decide) rfl
  have hKc := hK.sub (tys' := [(cp, .int)]) [0] rfl
  have hFc := va_free (wc := [(s_pins, .inl (cp, 2, .inl pn))]) hD hS hA [0] rfl
  refine va_callv (va_runS (As := [.ref s_pins, .int (-1)]) (rest := []) ⟨hx, hb, hml, hown, hwd⟩ (c_fill_2 l dC dI tt s_pins cp pn (-1) H.size ) (va_cwS 2 hwd (gS gd_JArrays_fill1 wd_2_38 wd_2_39 wd_1_7) rfl rfl rfl (by decide +kernel) ⟨Nat.le_of_ble_eq_true rfl, Nat.le_of_ble_eq_true rfl⟩) ⟨fun a U g mk q => by obtain ⟨q0, q1, qP, qK, qD, qF⟩ := q; exact ⟨q0, q1, qP, va_K.moved (u := U) (U := U.calling g mk a) (Vm.Alike.refl U.vm) qK, qD, SF.same (u := U) (U := U.calling g mk a) rfl qF⟩, fun U hU hW => ⟨rfl, by rw [hU], by rw [hU]; exact hPc, va_K.moved hW.alike hKc, hDc.weaken (fun _ _ _ _ => trivial), by rw [hU]; exact SF.narrow (SF.moved hW (SF.kept hF (fun a h1 h2 => hS.2.1 a h1 h2))) hFc⟩⟩ rfl rfl hl.1 rfl (lv_room (Nat.le_of_ble_eq_true rfl)) d_FontShelf_endJob_40 ⟨Nat.le_of_ble_eq_true rfl, Nat.le_of_ble_eq_true rfl⟩) hS (fun q _ h => hFc q h) hFc ?_
  clear hPc hDc hKc hS
  intro u_20 t H1 locs ht hvm hw hB hz1 hk1 hS
  obtain ⟨hP1, hK1, hD1⟩ := hB
  rw [ht] at hP1
  have hK1 := va_K.moved hvm.symm hK1
  try dsimp only at hw
  have hJ := va_join (wr := [(s_left, .inl (cl, 32, .inl lf)), (s_wishes, .inl (cw, 14, .inl (upd (upd f_16 12 0) 13 3))), (s_chosen, .inl (cc, 2, .inl ch)), (h0, .inr (3, [.ref s_ids, .ref s_attributes, .ref s_permanent, .int 0, .ref s_glyphs, .int s_glyphCount, .ref s_dots, .int s_used, .ref s_wishes, .ref s_pins, .int s_id, .int s_code, .ref s_chosen, .int 0, .ref s_left, .ref s_coming]))]) (w1 := [(s_pins, .inl (cp, 2, .inl (upd (upd pn 0 ((-1) : Int32)) 1 ((-1) : Int32))))]) hP hD [0] [1, 2, 3, 4] rfl rfl (by decide) (by decide) hk1 hFc hP1 hD1
  clear hP hD hk1 hFc hP1 hD1 hz1
  obtain ⟨hP, hD⟩ := hJ
  clear hK1 ht hvm
  generalize H1 = H at hP hS ⊢
  replace hP : va_P (dC, dI) vcl [(s_left, .inl (cl, 32, .inl lf)), (s_wishes, .inl (cw, 14, .inl (upd (upd f_16 12 0) 13 3))), (s_chosen, .inl (cc, 2, .inl ch)), (h0, .inr (3, [.ref s_ids, .ref s_attributes, .ref s_permanent, .int 0, .ref s_glyphs, .int s_glyphCount, .ref s_dots, .int s_used, .ref s_wishes, .ref s_pins, .int s_id, .int s_code, .ref s_chosen, .int 0, .ref s_left, .ref s_coming])), (s_pins, .inl (cp, 2, .inl (upd (upd pn 0 ((-1) : Int32)) 1 ((-1) : Int32))))] H := hP
  replace hD : va_D A [(s_left, .inl (cl, 32, .inl lf)), (s_wishes, .inl (cw, 14, .inl (upd (upd f_16 12 0) 13 3))), (s_chosen, .inl (cc, 2, .inl ch)), (h0, .inr (3, [.ref s_ids, .ref s_attributes, .ref s_permanent, .int 0, .ref s_glyphs, .int s_glyphCount, .ref s_dots, .int s_used, .ref s_wishes, .ref s_pins, .int s_id, .int s_code, .ref s_chosen, .int 0, .ref s_left, .ref s_coming])), (s_pins, .inl (cp, 2, .inl (upd (upd pn 0 ((-1) : Int32)) 1 ((-1) : Int32))))] := hD
  refine lv_aload_n hx hb d_FontShelf_endJob_43 rfl (lv_at hl 1 rfl) ?_
  refine lv_iconst (v := 0) hx hb d_FontShelf_endJob_44 (by decide) ?_
  refine va_put (D := (dC, dI)) (ci := 3) (v := .int 0) (ty := .int) (C := R_FontShelf) (T := F_FontShelf) (N := 16) hx hb hwd i_FontShelf t_FontShelf to_FontShelf no_FontShelf hown hK hP hD hS 3 rfl rfl 10 (by decide) (hwd _ wd_2_111) (fun _ h9 => h9) rfl (by decide +kernel) rfl rfl (Nat.le_of_ble_eq_true rfl) d_FontShelf_endJob_45 ?_
  clear hP hD hS
  intro H locs hP hD hS
  replace hP : va_P (dC, dI) vcl [(s_left, .inl (cl, 32, .inl lf)), (s_wishes, .inl (cw, 14, .inl (upd (upd f_16 12 0) 13 3))), (s_chosen, .inl (cc, 2, .inl ch)), (h0, .inr (3, [.ref s_ids, .ref s_attributes, .ref s_permanent, .int 0, .ref s_glyphs, .int s_glyphCount, .ref s_dots, .int s_used, .ref s_wishes, .ref s_pins, .int 0, .int s_code, .ref s_chosen, .int 0, .ref s_left, .ref s_coming])), (s_pins, .inl (cp, 2, .inl (upd (upd pn 0 ((-1) : Int32)) 1 ((-1) : Int32))))] H := hP
  replace hD : va_D A [(s_left, .inl (cl, 32, .inl lf)), (s_wishes, .inl (cw, 14, .inl (upd (upd f_16 12 0) 13 3))), (s_chosen, .inl (cc, 2, .inl ch)), (h0, .inr (3, [.ref s_ids, .ref s_attributes, .ref s_permanent, .int 0, .ref s_glyphs, .int s_glyphCount, .ref s_dots, .int s_used, .ref s_wishes, .ref s_pins, .int 0, .int s_code, .ref s_chosen, .int 0, .ref s_left, .ref s_coming])), (s_pins, .inl (cp, 2, .inl (upd (upd pn 0 ((-1) : Int32)) 1 ((-1) : Int32))))] := hD
  refine lv_aload_n hx hb d_FontShelf_endJob_48 rfl (lv_at hl 1 rfl) ?_
  refine lv_iconst (v := 0) hx hb d_FontShelf_endJob_49 (by decide) ?_
  refine va_put (D := (dC, dI)) (ci := 3) (v := .int 0) (ty := .int) (C := R_FontShelf) (T := F_FontShelf) (N := 16) hx hb hwd i_FontShelf t_FontShelf to_FontShelf no_FontShelf hown hK hP hD hS 3 rfl rfl 11 (by decide) (hwd _ wd_2_112) (fun _ h9 => h9) rfl (by decide +kernel) rfl rfl (Nat.le_of_ble_eq_true rfl) d_FontShelf_endJob_50 ?_
  clear hP hD hS
  intro H locs hP hD hS
  replace hP : va_P (dC, dI) vcl [(s_left, .inl (cl, 32, .inl lf)), (s_wishes, .inl (cw, 14, .inl (upd (upd f_16 12 0) 13 3))), (s_chosen, .inl (cc, 2, .inl ch)), (h0, .inr (3, [.ref s_ids, .ref s_attributes, .ref s_permanent, .int 0, .ref s_glyphs, .int s_glyphCount, .ref s_dots, .int s_used, .ref s_wishes, .ref s_pins, .int 0, .int 0, .ref s_chosen, .int 0, .ref s_left, .ref s_coming])), (s_pins, .inl (cp, 2, .inl (upd (upd pn 0 ((-1) : Int32)) 1 ((-1) : Int32))))] H := hP
  replace hD : va_D A [(s_left, .inl (cl, 32, .inl lf)), (s_wishes, .inl (cw, 14, .inl (upd (upd f_16 12 0) 13 3))), (s_chosen, .inl (cc, 2, .inl ch)), (h0, .inr (3, [.ref s_ids, .ref s_attributes, .ref s_permanent, .int 0, .ref s_glyphs, .int s_glyphCount, .ref s_dots, .int s_used, .ref s_wishes, .ref s_pins, .int 0, .int 0, .ref s_chosen, .int 0, .ref s_left, .ref s_coming])), (s_pins, .inl (cp, 2, .inl (upd (upd pn 0 ((-1) : Int32)) 1 ((-1) : Int32))))] := hD
  refine lv_aload_n hx hb d_FontShelf_endJob_53 rfl (lv_at hl 1 rfl) ?_
  refine lv_iconst (v := 0) hx hb d_FontShelf_endJob_54 (by decide) ?_
  refine va_put (D := (dC, dI)) (ci := 3) (v := .int 0) (ty := .boolean) (C := R_FontShelf) (T := F_FontShelf) (N := 16) hx hb hwd i_FontShelf t_FontShelf to_FontShelf no_FontShelf hown hK hP hD hS 3 rfl rfl 13 (by decide) (hwd _ wd_2_114) (fun _ h9 => h9) rfl (by decide +kernel) (by decide) rfl (Nat.le_of_ble_eq_true rfl) d_FontShelf_endJob_55 ?_
  clear hP hD hS
  intro H locs hP hD hS
  replace hP : va_P (dC, dI) vcl [(s_left, .inl (cl, 32, .inl lf)), (s_wishes, .inl (cw, 14, .inl (upd (upd f_16 12 0) 13 3))), (s_chosen, .inl (cc, 2, .inl ch)), (h0, .inr (3, [.ref s_ids, .ref s_attributes, .ref s_permanent, .int 0, .ref s_glyphs, .int s_glyphCount, .ref s_dots, .int s_used, .ref s_wishes, .ref s_pins, .int 0, .int 0, .ref s_chosen, .int 0, .ref s_left, .ref s_coming])), (s_pins, .inl (cp, 2, .inl (upd (upd pn 0 ((-1) : Int32)) 1 ((-1) : Int32))))] H := hP
  replace hD : va_D A [(s_left, .inl (cl, 32, .inl lf)), (s_wishes, .inl (cw, 14, .inl (upd (upd f_16 12 0) 13 3))), (s_chosen, .inl (cc, 2, .inl ch)), (h0, .inr (3, [.ref s_ids, .ref s_attributes, .ref s_permanent, .int 0, .ref s_glyphs, .int s_glyphCount, .ref s_dots, .int s_used, .ref s_wishes, .ref s_pins, .int 0, .int 0, .ref s_chosen, .int 0, .ref s_left, .ref s_coming])), (s_pins, .inl (cp, 2, .inl (upd (upd pn 0 ((-1) : Int32)) 1 ((-1) : Int32))))] := hD
  refine lv_aload_n hx hb d_FontShelf_endJob_58 rfl (lv_at hl 1 rfl) ?_
  have hPc := hP.sub (ws' := [(h0, .inr (3, [.ref s_ids, .ref s_attributes, .ref s_permanent, .int 0, .ref s_glyphs, .int s_glyphCount, .ref s_dots, .int s_used, .ref s_wishes, .ref s_pins, .int 0, .int 0, .ref s_chosen, .int 0, .ref s_left, .ref s_coming])), (s_pins, .inl (cp, 2, .inl (upd (upd pn 0 ((-1) : Int32)) 1 ((-1) : Int32)))), (s_left, .inl (cl, 32, .inl lf)), (s_wishes, .inl (cw, 14, .inl (upd (upd f_16 12 0) 13 3))), (s_chosen, .inl (cc, 2, .inl ch))]) [3, 4, 0, 1, 2] rfl
  have hDc := hD.sub (ws' := [(h0, .inr (3, [.ref s_ids, .ref s_attributes, .ref s_permanent, .int 0, .ref s_glyphs, .int s_glyphCount, .ref s_dots, .int s_used, .ref s_wishes, .ref s_pins, .int 0, .int 0, .ref s_chosen, .int 0, .ref s_left, .ref s_coming])), (s_pins, .inl (cp, 2, .inl (upd (upd pn 0 ((-1) : Int32)) 1 ((-1) : Int32)))), (s_left, .inl (cl, 32, .inl lf)), (s_wishes, .inl (cw, 14, .inl (upd (upd f_16 12 0) 13 3))), (s_chosen, .inl (cc, 2, .inl ch))]) [3, 4, 0, 1, 2] (by decide) rfl
  have hKc := hK.sub (tys' := [(cp, .int), (cl, .boolean), (cw, .int), (cc, .int)]) [0, 1, 2, 3] rfl
  have hFc := va_free (wc := [(h0, .inr (3, [.ref s_ids, .ref s_attributes, .ref s_permanent, .int 0, .ref s_glyphs, .int s_glyphCount, .ref s_dots, .int s_used, .ref s_wishes, .ref s_pins, .int 0, .int 0, .ref s_chosen, .int 0, .ref s_left, .ref s_coming])), (s_pins, .inl (cp, 2, .inl (upd (upd pn 0 ((-1) : Int32)) 1 ((-1) : Int32)))), (s_left, .inl (cl, 32, .inl lf)), (s_wishes, .inl (cw, 14, .inl (upd (upd f_16 12 0) 13 3))), (s_chosen, .inl (cc, 2, .inl ch))]) hD hS hA [3, 4, 0, 1, 2] rfl
  refine va_callv (va_runV (As := []) (rest := []) ⟨hx, hb, hml, hown, hwd⟩ (c_settle_0 l dC dI tt h0 s_ids s_attributes s_permanent s_glyphs s_glyphCount s_dots s_used s_wishes s_pins 0 0 s_chosen s_left s_coming cp (upd (upd pn 0 ((-1) : Int32)) 1 ((-1) : Int32)) cl lf cw (upd (upd f_16 12 0) 13 3) cc ch H.size (rfl) (rfl)) (cwV 0 hwd (gV gd_FontShelf_settle wd_2_41 wd_2_42 wd_2_43 wd_1_5) rfl rfl rfl (by decide +kernel) ⟨Nat.le_of_ble_eq_true rfl, Nat.le_of_ble_eq_true rfl⟩) ⟨fun a U g mk q => by obtain ⟨q0, q1, qP, qK, qD, qF⟩ := q; exact ⟨q0, q1, qP, va_K.moved (u := U) (U := U.calling g mk a) (Vm.Alike.refl U.vm) qK, qD, SF.same (u := U) (U := U.calling g mk a) rfl qF⟩, va_recv hKc hPc (ci := 3) (q0 := 0) rfl rfl, fun U hU hW => ⟨rfl, by rw [hU], by rw [hU]; exact hPc, va_K.moved hW.alike hKc, hDc.weaken (fun _ _ _ _ => trivial), by rw [hU]; exact SF.narrow (SF.moved hW (SF.kept hF (fun a h1 h2 => hS.2.1 a h1 h2))) hFc⟩⟩ rfl rfl hl.1 rfl (lv_room (Nat.le_of_ble_eq_true rfl)) d_FontShelf_endJob_59 ⟨Nat.le_of_ble_eq_true rfl, Nat.le_of_ble_eq_true rfl⟩) hS (fun q _ h => hFc q h) hFc ?_
  clear hPc hDc hKc hS
  intro u_22 t H1 locs ht hvm hw hB hz1 hk1 hS
  obtain ⟨fc0_23, rfl⟩ : ∃ z, z = u_22 := ⟨_, rfl⟩
  obtain ⟨hP1, hK1, hD1⟩ := hB
  rw [ht] at hP1
  have hK1 := va_K.moved hvm.symm hK1
  try dsimp only at hw
  have hJ := va_join (wr := []) (w1 := [(s_chosen, .inl (cc, 2, .inl (upd (upd ch 0 (-1)) 1 (-1)))), (h0, .inr (3, [.ref s_ids, .ref s_attributes, .ref s_permanent, .int 0, .ref s_glyphs, .int s_glyphCount, .ref s_dots, .int s_used, .ref s_wishes, .ref s_pins, .int 0, .int 0, .ref s_chosen, .int 1, .ref s_left, .ref s_coming])), (s_pins, .inl (cp, 2, .inl (upd (upd pn 0 ((-1) : Int32)) 1 ((-1) : Int32)))), (s_left, .inl (cl, 32, .inl fc0_23)), (s_wishes, .inl (cw, 14, .inl (upd (upd f_16 12 0) 13 3)))]) hP hD [3, 4, 0, 1, 2] [] rfl rfl (by decide) (by decide) hk1 hFc hP1 hD1
  clear hP hD hk1 hFc hP1 hD1 hz1
  obtain ⟨hP, hD⟩ := hJ
  clear hK1 ht hvm
  generalize H1 = H at hP hS ⊢
  replace hP : va_P (dC, dI) vcl [(s_chosen, .inl (cc, 2, .inl (upd (upd ch 0 (-1)) 1 (-1)))), (h0, .inr (3, [.ref s_ids, .ref s_attributes, .ref s_permanent, .int 0, .ref s_glyphs, .int s_glyphCount, .ref s_dots, .int s_used, .ref s_wishes, .ref s_pins, .int 0, .int 0, .ref s_chosen, .int 1, .ref s_left, .ref s_coming])), (s_pins, .inl (cp, 2, .inl (upd (upd pn 0 ((-1) : Int32)) 1 ((-1) : Int32)))), (s_left, .inl (cl, 32, .inl fc0_23)), (s_wishes, .inl (cw, 14, .inl (upd (upd f_16 12 0) 13 3)))] H := hP
  replace hD : va_D A [(s_chosen, .inl (cc, 2, .inl (upd (upd ch 0 (-1)) 1 (-1)))), (h0, .inr (3, [.ref s_ids, .ref s_attributes, .ref s_permanent, .int 0, .ref s_glyphs, .int s_glyphCount, .ref s_dots, .int s_used, .ref s_wishes, .ref s_pins, .int 0, .int 0, .ref s_chosen, .int 1, .ref s_left, .ref s_coming])), (s_pins, .inl (cp, 2, .inl (upd (upd pn 0 ((-1) : Int32)) 1 ((-1) : Int32)))), (s_left, .inl (cl, 32, .inl fc0_23)), (s_wishes, .inl (cw, 14, .inl (upd (upd f_16 12 0) 13 3)))] := hD
  have hP9 := hP.sub (ws' := [(s_chosen, .inl (cc, 2, .inl (upd (upd ch 0 (-1)) 1 (-1)))), (h0, .inr (3, [.ref s_ids, .ref s_attributes, .ref s_permanent, .int 0, .ref s_glyphs, .int s_glyphCount, .ref s_dots, .int s_used, .ref s_wishes, .ref s_pins, .int 0, .int 0, .ref s_chosen, .int 1, .ref s_left, .ref s_coming])), (s_pins, .inl (cp, 2, .inl (upd (upd pn 0 ((-1) : Int32)) 1 ((-1) : Int32)))), (s_left, .inl (cl, 32, .inl fc0_23)), (s_wishes, .inl (cw, 14, .inl (upd (upd f_16 12 0) 13 3)))]) [0, 1, 2, 3, 4] rfl
  have hD9 := hD.sub (ws' := [(s_chosen, .inl (cc, 2, .inl (upd (upd ch 0 (-1)) 1 (-1)))), (h0, .inr (3, [.ref s_ids, .ref s_attributes, .ref s_permanent, .int 0, .ref s_glyphs, .int s_glyphCount, .ref s_dots, .int s_used, .ref s_wishes, .ref s_pins, .int 0, .int 0, .ref s_chosen, .int 1, .ref s_left, .ref s_coming])), (s_pins, .inl (cp, 2, .inl (upd (upd pn 0 ((-1) : Int32)) 1 ((-1) : Int32)))), (s_left, .inl (cl, 32, .inl fc0_23)), (s_wishes, .inl (cw, 14, .inl (upd (upd f_16 12 0) 13 3)))]) [0, 1, 2, 3, 4] (by decide) rfl
  have hK9 := hK.sub (tys' := [(cc, .int), (cp, .int), (cl, .boolean), (cw, .int)]) [3, 0, 1, 2] rfl
  exact W.vret hx hb hr (fun t ht hW => ⟨⟨(fc0_23, f_16), rfl, (trivial), by rw [ht]; exact hP9, va_K.moved hW.alike hK9, hD9⟩, hS.F ht⟩) hS.2.2 d_FontShelf_endJob_62

abbrev at_c_FontShelf_init (dC : Nat → ClassId) (dI : Nat → Nat → Nat) (h0 : Nat) (A : Nat → Prop) (u : (Nat → Int32) × (Nat → Int32)) (t : State) : Prop := match u with
  | (fc0, fc1) => ∃ (q_1 : Nat) (q_3 : Nat) (q_5 : Nat) (q_7 : Nat) (q_9 : Nat) (q_19 : Nat) (q_15 : Nat) (q_13 : Nat) (q_17 : Nat) (q_11 : Nat) (cA_2 : ClassId) (cA_4 : ClassId) (cA_6 : ClassId) (cA_8 : ClassId) (cA_10 : ClassId) (cA_20 : ClassId) (cA_16 : ClassId) (cA_14 : ClassId) (cA_18 : ClassId) (cA_12 : ClassId), va_P (dC, dI) vcl [(h0, .inr (3, [.ref q_1, .ref q_3, .ref q_5, .int 0, .ref q_7, .int 0, .ref q_9, .int 0, .ref q_11, .ref q_13, .int 0, .int 0, .ref q_15, .int 1, .ref q_17, .ref q_19])), (q_1, .inl (cA_2, 32, .inl (fun _ => 0))), (q_3, .inl (cA_4, 224, .inl (fun _ => 0))), (q_5, .inl (cA_6, 32, .inl (fun _ => 0))), (q_7, .inl (cA_8, 2304, .inl (fun _ => 0))), (q_9, .inl (cA_10, 16384, .inl (fun _ => 0))), (q_19, .inl (cA_20, 7, .inl (fun _ => 0))), (q_15, .inl (cA_16, 2, .inl (upd (upd (fun _ => 0) 0 (-1)) 1 (-1)))), (q_13, .inl (cA_14, 2, .inl (upd (upd (fun _ => 0) 0 ((-1) : Int32)) 1 ((-1) : Int32)))), (q_17, .inl (cA_18, 32, .inl fc0)), (q_11, .inl (cA_12, 14, .inl (upd (upd fc1 12 0) 13 3)))] t.heap ∧ va_K (dC, dI) vcl [(cA_2, .int), (cA_4, .int), (cA_6, .boolean), (cA_8, .int), (cA_10, .byte), (cA_20, .int), (cA_16, .int), (cA_14, .int), (cA_18, .boolean), (cA_12, .int)] t ∧ va_D A [(h0, .inr (3, [.ref q_1, .ref q_3, .ref q_5, .int 0, .ref q_7, .int 0, .ref q_9, .int 0, .ref q_11, .ref q_13, .int 0, .int 0, .ref q_15, .int 1, .ref q_17, .ref q_19])), (q_1, .inl (cA_2, 32, .inl (fun _ => 0))), (q_3, .inl (cA_4, 224, .inl (fun _ => 0))), (q_5, .inl (cA_6, 32, .inl (fun _ => 0))), (q_7, .inl (cA_8, 2304, .inl (fun _ => 0))), (q_9, .inl (cA_10, 16384, .inl (fun _ => 0))), (q_19, .inl (cA_20, 7, .inl (fun _ => 0))), (q_15, .inl (cA_16, 2, .inl (upd (upd (fun _ => 0) 0 (-1)) 1 (-1)))), (q_13, .inl (cA_14, 2, .inl (upd (upd (fun _ => 0) 0 ((-1) : Int32)) 1 ((-1) : Int32)))), (q_17, .inl (cA_18, 32, .inl fc0)), (q_11, .inl (cA_12, 14, .inl (upd (upd fc1 12 0) 13 3)))]
abbrev po_c_FontShelf_init (h0 : Nat) (u : (Nat → Int32) × (Nat → Int32)) : Prop := match u with
  | (fc0, fc1) => True
abbrev q_c_FontShelf_init (dC : Nat → ClassId) (dI : Nat → Nat → Nat) (h0 : Nat) (A : Nat → Prop) : Array Value → State → Outcome → State → Prop := va_Qv (po_c_FontShelf_init h0) (at_c_FontShelf_init dC dI h0 A) A
abbrev rm_c_FontShelf_init : Room := { frames := 5, cells := 10, slots := 19033, locals := 113 }
set_option maxHeartbeats 4000000 in
set_option maxRecDepth 100000 in
theorem c_FontShelf_init (l : Launch) (dC : Nat → ClassId) (dI : Nat → Nat → Nat) (tt : Nat → Nat) (h0 : Nat) (sz : Nat)  : Met l y_FontShelf_init w_FontShelf_init rm_c_FontShelf_init (va_Pc [.ref h0] (fun U => U.heap.size = sz ∧ va_P (dC, dI) vcl [(h0, .inr (3, [.null, .null, .null, .int 0, .null, .int 0, .null, .int 0, .null, .null, .int 0, .int 0, .null, .int 0, .null, .null]))] U.heap ∧ va_K (dC, dI) vcl [] U ∧ va_D (fun _ => True) [(h0, .inr (3, [.null, .null, .null, .int 0, .null, .int 0, .null, .int 0, .null, .null, .int 0, .int 0, .null, .int 0, .null, .null]))] ∧ SF tt (va_A [(h0, .inr (3, [.null, .null, .null, .int 0, .null, .int 0, .null, .int 0, .null, .null, .int 0, .int 0, .null, .int 0, .null, .null]))] sz) U U.heap)) (q_c_FontShelf_init dC dI h0 (va_A [(h0, .inr (3, [.null, .null, .null, .int 0, .null, .int 0, .null, .int 0, .null, .null, .int 0, .int 0, .null, .int 0, .null, .null]))] sz)) 10 19033 (va_A [(h0, .inr (3, [.null, .null, .null, .int 0, .null, .int 0, .null, .int 0, .null, .null, .int 0, .int 0, .null, .int 0, .null, .null]))] sz) := by
  refine Met.ofW (cc := b_FontShelf_init) (maxL := 1) (ret := none) (by decide) rfl ?_
  intro p e s m args below meth c s₁ B hml hv
  obtain ⟨rfl, hsz, hP, hK, hD0, hF⟩ := hv
  have hx := B.exec
  have hb := B.bytes
  have hr := B.returns
  have hwd : ∀ w ∈ gT, w.before _ s = true := fun w h => atoms_spec (ws := w_FontShelf_init) B.pre w (List.mem_cons_of_mem _ h)
  have hown : s.vm.findClass R_FontShelf = some m.cls := findClass_of_methodNamed B.named
  have hlocks := B.notSynchronized
  have hin : meth.name = "<init>" := (name_of_methodNamed B.named B.method).1
  subst hsz
  have hD := hD0.self (sz := s.heap.size)
  generalize hAe : va_A [(h0, .inr (3, [.null, .null, .null, .int 0, .null, .int 0, .null, .int 0, .null, .null, .int 0, .int 0, .null, .int 0, .null, .null]))] s.heap.size = A at hD hF ⊢
  have hA : ∀ q : Nat, s.heap.size ≤ q → A q := fun q h => by rw [← hAe]; exact Or.inr h
  have hS : va_S A s.heap s.heap [] := va_S.rf
  have hP : va_P (dC, dI) vcl [(h0, .inr (3, [.null, .null, .null, .int 0, .null, .int 0, .null, .int 0, .null, .null, .int 0, .int 0, .null, .int 0, .null, .null]))] s.heap := hP
  have hl := lv_entry ([.ref h0]) (n := 1) (Nat.le_of_ble_eq_true rfl)
  rw [lg_entry_eq]
  generalize (lg_sl ([.ref h0]) ++ List.replicate (1 - (lg_sl ([.ref h0])).length) Slot.unset).toArray = ls at hl ⊢
  have hl : lv_has ls 1 [(0, .ref h0)] := hl
  refine lv_aload_n hx hb d_FontShelf_init_0 rfl (lv_at hl 0 rfl) ?_
  refine W.objInit hx hb hown (hwd _ wd_2_11) (hwd _ wd_1_35) (hwd _ wd_1_36) rfl (by rw [hml]; exact hl.1) rfl d_FontShelf_init_1 (Nat.le_of_ble_eq_true rfl) (Nat.le_of_ble_eq_true rfl) ?_
  refine W.eq (g2 := F0 m 4 ls []) rfl ?_
  refine lv_aload_n hx hb d_FontShelf_init_4 rfl (lv_at hl 0 rfl) ?_
  refine lv_bipush (v := 32) hx hb d_FontShelf_init_5 (by decide) ?_
  refine va_newa (atype := .int) (N' := 32) (a0 := (32, .inl (fun _ => 0))) (ty := .int) (n := 32) hx hb (hwd _ wd_1_167) rfl hK hP hD hS hA (fun _ => rfl) (by decide) (by decide) (by decide) (Nat.le_of_ble_eq_true rfl) (Nat.le_of_ble_eq_true rfl) d_FontShelf_init_7 ?_
  clear hP hD hS hK
  intro q_1 cA_2 H hK hP hD hS
  replace hP : va_P (dC, dI) vcl [(h0, .inr (3, [.null, .null, .null, .int 0, .null, .int 0, .null, .int 0, .null, .null, .int 0, .int 0, .null, .int 0, .null, .null])), (q_1, .inl (cA_2, 32, .inl (fun _ => 0)))] H := hP
  replace hD : va_D A [(h0, .inr (3, [.null, .null, .null, .int 0, .null, .int 0, .null, .int 0, .null, .null, .int 0, .int 0, .null, .int 0, .null, .null])), (q_1, .inl (cA_2, 32, .inl (fun _ => 0)))] := hD
  replace hK : va_K (dC, dI) vcl [(cA_2, .int)] s := hK
  refine W.widen (k := 1) (n := 32) (by decide) (by decide) ?_
  refine va_putF (D := (dC, dI)) (ci := 3) (v := .ref q_1) (ty := (.array .int)) (C := R_FontShelf) (T := F_FontShelf) (N := 16) hx hb hwd i_FontShelf t_FontShelf to_FontShelf no_FontShelf hown hK hP hD hS 0 rfl rfl 0 (by decide) (hwd _ wd_2_98) (fun _ h9 => h9) rfl hin rfl (by decide +kernel) rfl rfl (Nat.le_of_ble_eq_true rfl) d_FontShelf_init_9 ?_
  clear hP hD hS
  intro H locs hP hD hS
  replace hP : va_P (dC, dI) vcl [(h0, .inr (3, [.ref q_1, .null, .null, .int 0, .null, .int 0, .null, .int 0, .null, .null, .int 0, .int 0, .null, .int 0, .null, .null])), (q_1, .inl (cA_2, 32, .inl (fun _ => 0)))] H := hP
  replace hD : va_D A [(h0, .inr (3, [.ref q_1, .null, .null, .int 0, .null, .int 0, .null, .int 0, .null, .null, .int 0, .int 0, .null, .int 0, .null, .null])), (q_1, .inl (cA_2, 32, .inl (fun _ => 0)))] := hD
  refine lv_aload_n hx hb d_FontShelf_init_12 rfl (lv_at hl 0 rfl) ?_
  refine lv_sipush (v := 224) hx hb d_FontShelf_init_13 (by decide) ?_
  refine va_newa (atype := .int) (N' := 224) (a0 := (224, .inl (fun _ => 0))) (ty := .int) (n := 224) hx hb (hwd _ wd_1_167) rfl hK hP hD hS hA (fun _ => rfl) (by decide) (by decide) (by decide) (Nat.le_of_ble_eq_true rfl) (Nat.le_of_ble_eq_true rfl) d_FontShelf_init_16 ?_
  clear hP hD hS hK
  intro q_3 cA_4 H hK hP hD hS
  replace hP : va_P (dC, dI) vcl [(h0, .inr (3, [.ref q_1, .null, .null, .int 0, .null, .int 0, .null, .int 0, .null, .null, .int 0, .int 0, .null, .int 0, .null, .null])), (q_1, .inl (cA_2, 32, .inl (fun _ => 0))), (q_3, .inl (cA_4, 224, .inl (fun _ => 0)))] H := hP
  replace hD : va_D A [(h0, .inr (3, [.ref q_1, .null, .null, .int 0, .null, .int 0, .null, .int 0, .null, .null, .int 0, .int 0, .null, .int 0, .null, .null])), (q_1, .inl (cA_2, 32, .inl (fun _ => 0))), (q_3, .inl (cA_4, 224, .inl (fun _ => 0)))] := hD
  replace hK : va_K (dC, dI) vcl [(cA_2, .int), (cA_4, .int)] s := hK
  refine W.widen (k := 2) (n := 256) (by decide) (by decide) ?_
  refine va_putF (D := (dC, dI)) (ci := 3) (v := .ref q_3) (ty := (.array .int)) (C := R_FontShelf) (T := F_FontShelf) (N := 16) hx hb hwd i_FontShelf t_FontShelf to_FontShelf no_FontShelf hown hK hP hD hS 0 rfl rfl 1 (by decide) (hwd _ wd_2_99) (fun _ h9 => h9) rfl hin rfl (by decide +kernel) rfl rfl (Nat.le_of_ble_eq_true rfl) d_FontShelf_init_18 ?_
  clear hP hD hS
  intro H locs hP hD hS
  replace hP : va_P (dC, dI) vcl [(h0, .inr (3, [.ref q_1, .ref q_3, .null, .int 0, .null, .int 0, .null, .int 0, .null, .null, .int 0, .int 0, .null, .int 0, .null, .null])), (q_1, .inl (cA_2, 32, .inl (fun _ => 0))), (q_3, .inl (cA_4, 224, .inl (fun _ => 0)))] H := hP
  replace hD : va_D A [(h0, .inr (3, [.ref q_1, .ref q_3, .null, .int 0, .null, .int 0, .null, .int 0, .null, .null, .int 0, .int 0, .null, .int 0, .null, .null])), (q_1, .inl (cA_2, 32, .inl (fun _ => 0))), (q_3, .inl (cA_4, 224, .inl (fun _ => 0)))] := hD
  refine lv_aload_n hx hb d_FontShelf_init_21 rfl (lv_at hl 0 rfl) ?_
  refine lv_bipush (v := 32) hx hb d_FontShelf_init_22 (by decide) ?_
  refine va_newa (atype := .boolean) (N' := 32) (a0 := (32, .inl (fun _ => 0))) (ty := .boolean) (n := 32) hx hb (hwd _ wd_2_150) rfl hK hP hD hS hA (fun _ => rfl) (by decide) (by decide) (by decide) (Nat.le_of_ble_eq_true rfl) (Nat.le_of_ble_eq_true rfl) d_FontShelf_init_24 ?_
  clear hP hD hS hK
  intro q_5 cA_6 H hK hP hD hS
  replace hP : va_P (dC, dI) vcl [(h0, .inr (3, [.ref q_1, .ref q_3, .null, .int 0, .null, .int 0, .null, .int 0, .null, .null, .int 0, .int 0, .null, .int 0, .null, .null])), (q_1, .inl (cA_2, 32, .inl (fun _ => 0))), (q_3, .inl (cA_4, 224, .inl (fun _ => 0))), (q_5, .inl (cA_6, 32, .inl (fun _ => 0)))] H := hP
  replace hD : va_D A [(h0, .inr (3, [.ref q_1, .ref q_3, .null, .int 0, .null, .int 0, .null, .int 0, .null, .null, .int 0, .int 0, .null, .int 0, .null, .null])), (q_1, .inl (cA_2, 32, .inl (fun _ => 0))), (q_3, .inl (cA_4, 224, .inl (fun _ => 0))), (q_5, .inl (cA_6, 32, .inl (fun _ => 0)))] := hD
  replace hK : va_K (dC, dI) vcl [(cA_2, .int), (cA_4, .int), (cA_6, .boolean)] s := hK
  refine W.widen (k := 3) (n := 288) (by decide) (by decide) ?_
  refine va_putF (D := (dC, dI)) (ci := 3) (v := .ref q_5) (ty := (.array .boolean)) (C := R_FontShelf) (T := F_FontShelf) (N := 16) hx hb hwd i_FontShelf t_FontShelf to_FontShelf no_FontShelf hown hK hP hD hS 0 rfl rfl 2 (by decide) (hwd _ wd_2_100) (fun _ h9 => h9) rfl hin rfl (by decide +kernel) rfl rfl (Nat.le_of_ble_eq_true rfl) d_FontShelf_init_26 ?_
  clear hP hD hS
  intro H locs hP hD hS
  replace hP : va_P (dC, dI) vcl [(h0, .inr (3, [.ref q_1, .ref q_3, .ref q_5, .int 0, .null, .int 0, .null, .int 0, .null, .null, .int 0, .int 0, .null, .int 0, .null, .null])), (q_1, .inl (cA_2, 32, .inl (fun _ => 0))), (q_3, .inl (cA_4, 224, .inl (fun _ => 0))), (q_5, .inl (cA_6, 32, .inl (fun _ => 0)))] H := hP
  replace hD : va_D A [(h0, .inr (3, [.ref q_1, .ref q_3, .ref q_5, .int 0, .null, .int 0, .null, .int 0, .null, .null, .int 0, .int 0, .null, .int 0, .null, .null])), (q_1, .inl (cA_2, 32, .inl (fun _ => 0))), (q_3, .inl (cA_4, 224, .inl (fun _ => 0))), (q_5, .inl (cA_6, 32, .inl (fun _ => 0)))] := hD
  refine lv_aload_n hx hb d_FontShelf_init_29 rfl (lv_at hl 0 rfl) ?_
  refine lv_sipush (v := 2304) hx hb d_FontShelf_init_30 (by decide) ?_
  refine va_newa (atype := .int) (N' := 2304) (a0 := (2304, .inl (fun _ => 0))) (ty := .int) (n := 2304) hx hb (hwd _ wd_1_167) rfl hK hP hD hS hA (fun _ => rfl) (by decide) (by decide) (by decide) (Nat.le_of_ble_eq_true rfl) (Nat.le_of_ble_eq_true rfl) d_FontShelf_init_33 ?_
  clear hP hD hS hK
  intro q_7 cA_8 H hK hP hD hS
  replace hP : va_P (dC, dI) vcl [(h0, .inr (3, [.ref q_1, .ref q_3, .ref q_5, .int 0, .null, .int 0, .null, .int 0, .null, .null, .int 0, .int 0, .null, .int 0, .null, .null])), (q_1, .inl (cA_2, 32, .inl (fun _ => 0))), (q_3, .inl (cA_4, 224, .inl (fun _ => 0))), (q_5, .inl (cA_6, 32, .inl (fun _ => 0))), (q_7, .inl (cA_8, 2304, .inl (fun _ => 0)))] H := hP
  replace hD : va_D A [(h0, .inr (3, [.ref q_1, .ref q_3, .ref q_5, .int 0, .null, .int 0, .null, .int 0, .null, .null, .int 0, .int 0, .null, .int 0, .null, .null])), (q_1, .inl (cA_2, 32, .inl (fun _ => 0))), (q_3, .inl (cA_4, 224, .inl (fun _ => 0))), (q_5, .inl (cA_6, 32, .inl (fun _ => 0))), (q_7, .inl (cA_8, 2304, .inl (fun _ => 0)))] := hD
  replace hK : va_K (dC, dI) vcl [(cA_2, .int), (cA_4, .int), (cA_6, .boolean), (cA_8, .int)] s := hK
  refine W.widen (k := 4) (n := 2592) (by decide) (by decide) ?_
  refine va_putF (D := (dC, dI)) (ci := 3) (v := .ref q_7) (ty := (.array .int)) (C := R_FontShelf) (T := F_FontShelf) (N := 16) hx hb hwd i_FontShelf t_FontShelf to_FontShelf no_FontShelf hown hK hP hD hS 0 rfl rfl 4 (by decide) (hwd _ wd_2_103) (fun _ h9 => h9) rfl hin rfl (by decide +kernel) rfl rfl (Nat.le_of_ble_eq_true rfl) d_FontShelf_init_35 ?_
  clear hP hD hS
  intro H locs hP hD hS
  replace hP : va_P (dC, dI) vcl [(h0, .inr (3, [.ref q_1, .ref q_3, .ref q_5, .int 0, .ref q_7, .int 0, .null, .int 0, .null, .null, .int 0, .int 0, .null, .int 0, .null, .null])), (q_1, .inl (cA_2, 32, .inl (fun _ => 0))), (q_3, .inl (cA_4, 224, .inl (fun _ => 0))), (q_5, .inl (cA_6, 32, .inl (fun _ => 0))), (q_7, .inl (cA_8, 2304, .inl (fun _ => 0)))] H := hP
  replace hD : va_D A [(h0, .inr (3, [.ref q_1, .ref q_3, .ref q_5, .int 0, .ref q_7, .int 0, .null, .int 0, .null, .null, .int 0, .int 0, .null, .int 0, .null, .null])), (q_1, .inl (cA_2, 32, .inl (fun _ => 0))), (q_3, .inl (cA_4, 224, .inl (fun _ => 0))), (q_5, .inl (cA_6, 32, .inl (fun _ => 0))), (q_7, .inl (cA_8, 2304, .inl (fun _ => 0)))] := hD
  refine lv_aload_n hx hb d_FontShelf_init_38 rfl (lv_at hl 0 rfl) ?_
  refine lv_sipush (v := 16384) hx hb d_FontShelf_init_39 (by decide) ?_
  refine va_newa (atype := .byte) (N' := 16384) (a0 := (16384, .inl (fun _ => 0))) (ty := .byte) (n := 16384) hx hb (hwd _ wd_1_166) rfl hK hP hD hS hA (fun _ => rfl) (by decide) (by decide) (by decide) (Nat.le_of_ble_eq_true rfl) (Nat.le_of_ble_eq_true rfl) d_FontShelf_init_42 ?_
  clear hP hD hS hK
  intro q_9 cA_10 H hK hP hD hS
  replace hP : va_P (dC, dI) vcl [(h0, .inr (3, [.ref q_1, .ref q_3, .ref q_5, .int 0, .ref q_7, .int 0, .null, .int 0, .null, .null, .int 0, .int 0, .null, .int 0, .null, .null])), (q_1, .inl (cA_2, 32, .inl (fun _ => 0))), (q_3, .inl (cA_4, 224, .inl (fun _ => 0))), (q_5, .inl (cA_6, 32, .inl (fun _ => 0))), (q_7, .inl (cA_8, 2304, .inl (fun _ => 0))), (q_9, .inl (cA_10, 16384, .inl (fun _ => 0)))] H := hP
  replace hD : va_D A [(h0, .inr (3, [.ref q_1, .ref q_3, .ref q_5, .int 0, .ref q_7, .int 0, .null, .int 0, .null, .null, .int 0, .int 0, .null, .int 0, .null, .null])), (q_1, .inl (cA_2, 32, .inl (fun _ => 0))), (q_3, .inl (cA_4, 224, .inl (fun _ => 0))), (q_5, .inl (cA_6, 32, .inl (fun _ => 0))), (q_7, .inl (cA_8, 2304, .inl (fun _ => 0))), (q_9, .inl (cA_10, 16384, .inl (fun _ => 0)))] := hD
  replace hK : va_K (dC, dI) vcl [(cA_2, .int), (cA_4, .int), (cA_6, .boolean), (cA_8, .int), (cA_10, .byte)] s := hK
  refine W.widen (k := 5) (n := 18976) (by decide) (by decide) ?_
  refine va_putF (D := (dC, dI)) (ci := 3) (v := .ref q_9) (ty := (.array .byte)) (C := R_FontShelf) (T := F_FontShelf) (N := 16) hx hb hwd i_FontShelf t_FontShelf to_FontShelf no_FontShelf hown hK hP hD hS 0 rfl rfl 6 (by decide) (hwd _ wd_2_106) (fun _ h9 => h9) rfl hin rfl (by decide +kernel) rfl rfl (Nat.le_of_ble_eq_true rfl) d_FontShelf_init_44 ?_
  clear hP hD hS
  intro H locs hP hD hS
  replace hP : va_P (dC, dI) vcl [(h0, .inr (3, [.ref q_1, .ref q_3, .ref q_5, .int 0, .ref q_7, .int 0, .ref q_9, .int 0, .null, .null, .int 0, .int 0, .null, .int 0, .null, .null])), (q_1, .inl (cA_2, 32, .inl (fun _ => 0))), (q_3, .inl (cA_4, 224, .inl (fun _ => 0))), (q_5, .inl (cA_6, 32, .inl (fun _ => 0))), (q_7, .inl (cA_8, 2304, .inl (fun _ => 0))), (q_9, .inl (cA_10, 16384, .inl (fun _ => 0)))] H := hP
  replace hD : va_D A [(h0, .inr (3, [.ref q_1, .ref q_3, .ref q_5, .int 0, .ref q_7, .int 0, .ref q_9, .int 0, .null, .null, .int 0, .int 0, .null, .int 0, .null, .null])), (q_1, .inl (cA_2, 32, .inl (fun _ => 0))), (q_3, .inl (cA_4, 224, .inl (fun _ => 0))), (q_5, .inl (cA_6, 32, .inl (fun _ => 0))), (q_7, .inl (cA_8, 2304, .inl (fun _ => 0))), (q_9, .inl (cA_10, 16384, .inl (fun _ => 0)))] := hD
  refine lv_aload_n hx hb d_FontShelf_init_47 rfl (lv_at hl 0 rfl) ?_
  refine lv_bipush (v := 14) hx hb d_FontShelf_init_48 (by decide) ?_
  refine va_newa (atype := .int) (N' := 14) (a0 := (14, .inl (fun _ => 0))) (ty := .int) (n := 14) hx hb (hwd _ wd_1_167) rfl hK hP hD hS hA (fun _ => rfl) (by decide) (by decide) (by decide) (Nat.le_of_ble_eq_true rfl) (Nat.le_of_ble_eq_true rfl) d_FontShelf_init_50 ?_
  clear hP hD hS hK
  intro q_11 cA_12 H hK hP hD hS
  replace hP : va_P (dC, dI) vcl [(h0, .inr (3, [.ref q_1, .ref q_3, .ref q_5, .int 0, .ref q_7, .int 0, .ref q_9, .int 0, .null, .null, .int 0, .int 0, .null, .int 0, .null, .null])), (q_1, .inl (cA_2, 32, .inl (fun _ => 0))), (q_3, .inl (cA_4, 224, .inl (fun _ => 0))), (q_5, .inl (cA_6, 32, .inl (fun _ => 0))), (q_7, .inl (cA_8, 2304, .inl (fun _ => 0))), (q_9, .inl (cA_10, 16384, .inl (fun _ => 0))), (q_11, .inl (cA_12, 14, .inl (fun _ => 0)))] H := hP
  replace hD : va_D A [(h0, .inr (3, [.ref q_1, .ref q_3, .ref q_5, .int 0, .ref q_7, .int 0, .ref q_9, .int 0, .null, .null, .int 0, .int 0, .null, .int 0, .null, .null])), (q_1, .inl (cA_2, 32, .inl (fun _ => 0))), (q_3, .inl (cA_4, 224, .inl (fun _ => 0))), (q_5, .inl (cA_6, 32, .inl (fun _ => 0))), (q_7, .inl (cA_8, 2304, .inl (fun _ => 0))), (q_9, .inl (cA_10, 16384, .inl (fun _ => 0))), (q_11, .inl (cA_12, 14, .inl (fun _ => 0)))] := hD
  replace hK : va_K (dC, dI) vcl [(cA_2, .int), (cA_4, .int), (cA_6, .boolean), (cA_8, .int), (cA_10, .byte), (cA_12, .int)] s := hK
  refine W.widen (k := 6) (n := 18990) (by decide) (by decide) ?_
  refine va_putF (D := (dC, dI)) (ci := 3) (v := .ref q_11) (ty := (.array .int)) (C := R_FontShelf) (T := F_FontShelf) (N := 16) hx hb hwd i_FontShelf t_FontShelf to_FontShelf no_FontShelf hown hK hP hD hS 0 rfl rfl 8 (by decide) (hwd _ wd_2_109) (fun _ h9 => h9) rfl hin rfl (by decide +kernel) rfl rfl (Nat.le_of_ble_eq_true rfl) d_FontShelf_init_52 ?_
  clear hP hD hS
  intro H locs hP hD hS
  replace hP : va_P (dC, dI) vcl [(h0, .inr (3, [.ref q_1, .ref q_3, .ref q_5, .int 0, .ref q_7, .int 0, .ref q_9, .int 0, .ref q_11, .null, .int 0, .int 0, .null, .int 0, .null, .null])), (q_1, .inl (cA_2, 32, .inl (fun _ => 0))), (q_3, .inl (cA_4, 224, .inl (fun _ => 0))), (q_5, .inl (cA_6, 32, .inl (fun _ => 0))), (q_7, .inl (cA_8, 2304, .inl (fun _ => 0))), (q_9, .inl (cA_10, 16384, .inl (fun _ => 0))), (q_11, .inl (cA_12, 14, .inl (fun _ => 0)))] H := hP
  replace hD : va_D A [(h0, .inr (3, [.ref q_1, .ref q_3, .ref q_5, .int 0, .ref q_7, .int 0, .ref q_9, .int 0, .ref q_11, .null, .int 0, .int 0, .null, .int 0, .null, .null])), (q_1, .inl (cA_2, 32, .inl (fun _ => 0))), (q_3, .inl (cA_4, 224, .inl (fun _ => 0))), (q_5, .inl (cA_6, 32, .inl (fun _ => 0))), (q_7, .inl (cA_8, 2304, .inl (fun _ => 0))), (q_9, .inl (cA_10, 16384, .inl (fun _ => 0))), (q_11, .inl (cA_12, 14, .inl (fun _ => 0)))] := hD
  refine lv_aload_n hx hb d_FontShelf_init_55 rfl (lv_at hl 0 rfl) ?_
  refine lv_iconst (v := 2) hx hb d_FontShelf_init_56 (by decide) ?_
  refine va_newa (atype := .int) (N' := 2) (a0 := (2, .inl (fun _ => 0))) (ty := .int) (n := 2) hx hb (hwd _ wd_1_167) rfl hK hP hD hS hA (fun _ => rfl) (by decide) (by decide) (by decide) (Nat.le_of_ble_eq_true rfl) (Nat.le_of_ble_eq_true rfl) d_FontShelf_init_57 ?_
  clear hP hD hS hK
  intro q_13 cA_14 H hK hP hD hS
  replace hP : va_P (dC, dI) vcl [(h0, .inr (3, [.ref q_1, .ref q_3, .ref q_5, .int 0, .ref q_7, .int 0, .ref q_9, .int 0, .ref q_11, .null, .int 0, .int 0, .null, .int 0, .null, .null])), (q_1, .inl (cA_2, 32, .inl (fun _ => 0))), (q_3, .inl (cA_4, 224, .inl (fun _ => 0))), (q_5, .inl (cA_6, 32, .inl (fun _ => 0))), (q_7, .inl (cA_8, 2304, .inl (fun _ => 0))), (q_9, .inl (cA_10, 16384, .inl (fun _ => 0))), (q_11, .inl (cA_12, 14, .inl (fun _ => 0))), (q_13, .inl (cA_14, 2, .inl (fun _ => 0)))] H := hP
  replace hD : va_D A [(h0, .inr (3, [.ref q_1, .ref q_3, .ref q_5, .int 0, .ref q_7, .int 0, .ref q_9, .int 0, .ref q_11, .null, .int 0, .int 0, .null, .int 0, .null, .null])), (q_1, .inl (cA_2, 32, .inl (fun _ => 0))), (q_3, .inl (cA_4, 224, .inl (fun _ => 0))), (q_5, .inl (cA_6, 32, .inl (fun _ => 0))), (q_7, .inl (cA_8, 2304, .inl (fun _ => 0))), (q_9, .inl (cA_10, 16384, .inl (fun _ => 0))), (q_11, .inl (cA_12, 14, .inl (fun _ => 0))), (q_13, .inl (cA_14, 2, .inl (fun _ => 0)))] := hD
  replace hK : va_K (dC, dI) vcl [(cA_2, .int), (cA_4, .int), (cA_6, .boolean), (cA_8, .int), (cA_10, .byte), (cA_12, .int), (cA_14, .int)] s := hK
  refine W.widen (k := 7) (n := 18992) (by decide) (by decide) ?_
  refine va_putF (D := (dC, dI)) (ci := 3) (v := .ref q_13) (ty := (.array .int)) (C := R_FontShelf) (T := F_FontShelf) (N := 16) hx hb hwd i_FontShelf t_FontShelf to_FontShelf no_FontShelf hown hK hP hD hS 0 rfl rfl 9 (by decide) (hwd _ wd_2_110) (fun _ h9 => h9) rfl hin rfl (by decide +kernel) rfl rfl (Nat.le_of_ble_eq_true rfl) d_FontShelf_init_59 ?_
  clear hP hD hS
  intro H locs hP hD hS
  replace hP : va_P (dC, dI) vcl [(h0, .inr (3, [.ref q_1, .ref q_3, .ref q_5, .int 0, .ref q_7, .int 0, .ref q_9, .int 0, .ref q_11, .ref q_13, .int 0, .int 0, .null, .int 0, .null, .null])), (q_1, .inl (cA_2, 32, .inl (fun _ => 0))), (q_3, .inl (cA_4, 224, .inl (fun _ => 0))), (q_5, .inl (cA_6, 32, .inl (fun _ => 0))), (q_7, .inl (cA_8, 2304, .inl (fun _ => 0))), (q_9, .inl (cA_10, 16384, .inl (fun _ => 0))), (q_11, .inl (cA_12, 14, .inl (fun _ => 0))), (q_13, .inl (cA_14, 2, .inl (fun _ => 0)))] H := hP
  replace hD : va_D A [(h0, .inr (3, [.ref q_1, .ref q_3, .ref q_5, .int 0, .ref q_7, .int 0, .ref q_9, .int 0, .ref q_11, .ref q_13, .int 0, .int 0, .null, .int 0, .null, .null])), (q_1, .inl (cA_2, 32, .inl (fun _ => 0))), (q_3, .inl (cA_4, 224, .inl (fun _ => 0))), (q_5, .inl (cA_6, 32, .inl (fun _ => 0))), (q_7, .inl (cA_8, 2304, .inl (fun _ => 0))), (q_9, .inl (cA_10, 16384, .inl (fun _ => 0))), (q_11, .inl (cA_12, 14, .inl (fun _ => 0))), (q_13, .inl (cA_14, 2, .inl (fun _ => 0)))] := hD
  refine lv_aload_n hx hb d_FontShelf_init_62 rfl (lv_at hl 0 rfl) ?_
  refine lv_iconst (v := 2) hx hb d_FontShelf_init_63 (by decide) ?_
  refine va_newa (atype := .int) (N' := 2) (a0 := (2, .inl (fun _ => 0))) (ty := .int) (n := 2) hx hb (hwd _ wd_1_167) rfl hK hP hD hS hA (fun _ => rfl) (by decide) (by decide) (by decide) (Nat.le_of_ble_eq_true rfl) (Nat.le_of_ble_eq_true rfl) d_FontShelf_init_64 ?_
  clear hP hD hS hK
  intro q_15 cA_16 H hK hP hD hS
  replace hP : va_P (dC, dI) vcl [(h0, .inr (3, [.ref q_1, .ref q_3, .ref q_5, .int 0, .ref q_7, .int 0, .ref q_9, .int 0, .ref q_11, .ref q_13, .int 0, .int 0, .null, .int 0, .null, .null])), (q_1, .inl (cA_2, 32, .inl (fun _ => 0))), (q_3, .inl (cA_4, 224, .inl (fun _ => 0))), (q_5, .inl (cA_6, 32, .inl (fun _ => 0))), (q_7, .inl (cA_8, 2304, .inl (fun _ => 0))), (q_9, .inl (cA_10, 16384, .inl (fun _ => 0))), (q_11, .inl (cA_12, 14, .inl (fun _ => 0))), (q_13, .inl (cA_14, 2, .inl (fun _ => 0))), (q_15, .inl (cA_16, 2, .inl (fun _ => 0)))] H := hP
  replace hD : va_D A [(h0, .inr (3, [.ref q_1, .ref q_3, .ref q_5, .int 0, .ref q_7, .int 0, .ref q_9, .int 0, .ref q_11, .ref q_13, .int 0, .int 0, .null, .int 0, .null, .null])), (q_1, .inl (cA_2, 32, .inl (fun _ => 0))), (q_3, .inl (cA_4, 224, .inl (fun _ => 0))), (q_5, .inl (cA_6, 32, .inl (fun _ => 0))), (q_7, .inl (cA_8, 2304, .inl (fun _ => 0))), (q_9, .inl (cA_10, 16384, .inl (fun _ => 0))), (q_11, .inl (cA_12, 14, .inl (fun _ => 0))), (q_13, .inl (cA_14, 2, .inl (fun _ => 0))), (q_15, .inl (cA_16, 2, .inl (fun _ => 0)))] := hD
  replace hK : va_K (dC, dI) vcl [(cA_2, .int), (cA_4, .int), (cA_6, .boolean), (cA_8, .int), (cA_10, .byte), (cA_12, .int), (cA_14, .int), (cA_16, .int)] s := hK
  refine W.widen (k := 8) (n := 18994) (by decide) (by decide) ?_
  refine va_putF (D := (dC, dI)) (ci := 3) (v := .ref q_15) (ty := (.array .int)) (C := R_FontShelf) (T := F_FontShelf) (N := 16) hx hb hwd i_FontShelf t_FontShelf to_FontShelf no_FontShelf hown hK hP hD hS 0 rfl rfl 12 (by decide) (hwd _ wd_2_113) (fun _ h9 => h9) rfl hin rfl (by decide +kernel) rfl rfl (Nat.le_of_ble_eq_true rfl) d_FontShelf_init_66 ?_
  clear hP hD hS
  intro H locs hP hD hS
  replace hP : va_P (dC, dI) vcl [(h0, .inr (3, [.ref q_1, .ref q_3, .ref q_5, .int 0, .ref q_7, .int 0, .ref q_9, .int 0, .ref q_11, .ref q_13, .int 0, .int 0, .ref q_15, .int 0, .null, .null])), (q_1, .inl (cA_2, 32, .inl (fun _ => 0))), (q_3, .inl (cA_4, 224, .inl (fun _ => 0))), (q_5, .inl (cA_6, 32, .inl (fun _ => 0))), (q_7, .inl (cA_8, 2304, .inl (fun _ => 0))), (q_9, .inl (cA_10, 16384, .inl (fun _ => 0))), (q_11, .inl (cA_12, 14, .inl (fun _ => 0))), (q_13, .inl (cA_14, 2, .inl (fun _ => 0))), (q_15, .inl (cA_16, 2, .inl (fun _ => 0)))] H := hP
  replace hD : va_D A [(h0, .inr (3, [.ref q_1, .ref q_3, .ref q_5, .int 0, .ref q_7, .int 0, .ref q_9, .int 0, .ref q_11, .ref q_13, .int 0, .int 0, .ref q_15, .int 0, .null, .null])), (q_1, .inl (cA_2, 32, .inl (fun _ => 0))), (q_3, .inl (cA_4, 224, .inl (fun _ => 0))), (q_5, .inl (cA_6, 32, .inl (fun _ => 0))), (q_7, .inl (cA_8, 2304, .inl (fun _ => 0))), (q_9, .inl (cA_10, 16384, .inl (fun _ => 0))), (q_11, .inl (cA_12, 14, .inl (fun _ => 0))), (q_13, .inl (cA_14, 2, .inl (fun _ => 0))), (q_15, .inl (cA_16, 2, .inl (fun _ => 0)))] := hD
  refine lv_aload_n hx hb d_FontShelf_init_69 rfl (lv_at hl 0 rfl) ?_
  refine lv_bipush (v := 32) hx hb d_FontShelf_init_70 (by decide) ?_
  refine va_newa (atype := .boolean) (N' := 32) (a0 := (32, .inl (fun _ => 0))) (ty := .boolean) (n := 32) hx hb (hwd _ wd_2_150) rfl hK hP hD hS hA (fun _ => rfl) (by decide) (by decide) (by decide) (Nat.le_of_ble_eq_true rfl) (Nat.le_of_ble_eq_true rfl) d_FontShelf_init_72 ?_
  clear hP hD hS hK
  intro q_17 cA_18 H hK hP hD hS
  replace hP : va_P (dC, dI) vcl [(h0, .inr (3, [.ref q_1, .ref q_3, .ref q_5, .int 0, .ref q_7, .int 0, .ref q_9, .int 0, .ref q_11, .ref q_13, .int 0, .int 0, .ref q_15, .int 0, .null, .null])), (q_1, .inl (cA_2, 32, .inl (fun _ => 0))), (q_3, .inl (cA_4, 224, .inl (fun _ => 0))), (q_5, .inl (cA_6, 32, .inl (fun _ => 0))), (q_7, .inl (cA_8, 2304, .inl (fun _ => 0))), (q_9, .inl (cA_10, 16384, .inl (fun _ => 0))), (q_11, .inl (cA_12, 14, .inl (fun _ => 0))), (q_13, .inl (cA_14, 2, .inl (fun _ => 0))), (q_15, .inl (cA_16, 2, .inl (fun _ => 0))), (q_17, .inl (cA_18, 32, .inl (fun _ => 0)))] H := hP
  replace hD : va_D A [(h0, .inr (3, [.ref q_1, .ref q_3, .ref q_5, .int 0, .ref q_7, .int 0, .ref q_9, .int 0, .ref q_11, .ref q_13, .int 0, .int 0, .ref q_15, .int 0, .null, .null])), (q_1, .inl (cA_2, 32, .inl (fun _ => 0))), (q_3, .inl (cA_4, 224, .inl (fun _ => 0))), (q_5, .inl (cA_6, 32, .inl (fun _ => 0))), (q_7, .inl (cA_8, 2304, .inl (fun _ => 0))), (q_9, .inl (cA_10, 16384, .inl (fun _ => 0))), (q_11, .inl (cA_12, 14, .inl (fun _ => 0))), (q_13, .inl (cA_14, 2, .inl (fun _ => 0))), (q_15, .inl (cA_16, 2, .inl (fun _ => 0))), (q_17, .inl (cA_18, 32, .inl (fun _ => 0)))] := hD
  replace hK : va_K (dC, dI) vcl [(cA_2, .int), (cA_4, .int), (cA_6, .boolean), (cA_8, .int), (cA_10, .byte), (cA_12, .int), (cA_14, .int), (cA_16, .int), (cA_18, .boolean)] s := hK
  refine W.widen (k := 9) (n := 19026) (by decide) (by decide) ?_
  refine va_putF (D := (dC, dI)) (ci := 3) (v := .ref q_17) (ty := (.array .boolean)) (C := R_FontShelf) (T := F_FontShelf) (N := 16) hx hb hwd i_FontShelf t_FontShelf to_FontShelf no_FontShelf hown hK hP hD hS 0 rfl rfl 14 (by decide) (hwd _ wd_2_115) (fun _ h9 => h9) rfl hin rfl (by decide +kernel) rfl rfl (Nat.le_of_ble_eq_true rfl) d_FontShelf_init_74 ?_
  clear hP hD hS
  intro H locs hP hD hS
  replace hP : va_P (dC, dI) vcl [(h0, .inr (3, [.ref q_1, .ref q_3, .ref q_5, .int 0, .ref q_7, .int 0, .ref q_9, .int 0, .ref q_11, .ref q_13, .int 0, .int 0, .ref q_15, .int 0, .ref q_17, .null])), (q_1, .inl (cA_2, 32, .inl (fun _ => 0))), (q_3, .inl (cA_4, 224, .inl (fun _ => 0))), (q_5, .inl (cA_6, 32, .inl (fun _ => 0))), (q_7, .inl (cA_8, 2304, .inl (fun _ => 0))), (q_9, .inl (cA_10, 16384, .inl (fun _ => 0))), (q_11, .inl (cA_12, 14, .inl (fun _ => 0))), (q_13, .inl (cA_14, 2, .inl (fun _ => 0))), (q_15, .inl (cA_16, 2, .inl (fun _ => 0))), (q_17, .inl (cA_18, 32, .inl (fun _ => 0)))] H := hP
  replace hD : va_D A [(h0, .inr (3, [.ref q_1, .ref q_3, .ref q_5, .int 0, .ref q_7, .int 0, .ref q_9, .int 0, .ref q_11, .ref q_13, .int 0, .int 0, .ref q_15, .int 0, .ref q_17, .null])), (q_1, .inl (cA_2, 32, .inl (fun _ => 0))), (q_3, .inl (cA_4, 224, .inl (fun _ => 0))), (q_5, .inl (cA_6, 32, .inl (fun _ => 0))), (q_7, .inl (cA_8, 2304, .inl (fun _ => 0))), (q_9, .inl (cA_10, 16384, .inl (fun _ => 0))), (q_11, .inl (cA_12, 14, .inl (fun _ => 0))), (q_13, .inl (cA_14, 2, .inl (fun _ => 0))), (q_15, .inl (cA_16, 2, .inl (fun _ => 0))), (q_17, .inl (cA_18, 32, .inl (fun _ => 0)))] := hD
  refine lv_aload_n hx hb d_FontShelf_init_77 rfl (lv_at hl 0 rfl) ?_
  refine lv_bipush (v := 7) hx hb d_FontShelf_init_78 (by decide) ?_
  refine va_newa (atype := .int) (N' := 7) (a0 := (7, .inl (fun _ => 0))) (ty := .int) (n := 7) hx hb (hwd _ wd_1_167) rfl hK hP hD hS hA (fun _ => rfl) (by decide) (by decide) (by decide) (Nat.le_of_ble_eq_true rfl) (Nat.le_of_ble_eq_true rfl) d_FontShelf_init_80 ?_
  clear hP hD hS hK
  intro q_19 cA_20 H hK hP hD hS
  replace hP : va_P (dC, dI) vcl [(h0, .inr (3, [.ref q_1, .ref q_3, .ref q_5, .int 0, .ref q_7, .int 0, .ref q_9, .int 0, .ref q_11, .ref q_13, .int 0, .int 0, .ref q_15, .int 0, .ref q_17, .null])), (q_1, .inl (cA_2, 32, .inl (fun _ => 0))), (q_3, .inl (cA_4, 224, .inl (fun _ => 0))), (q_5, .inl (cA_6, 32, .inl (fun _ => 0))), (q_7, .inl (cA_8, 2304, .inl (fun _ => 0))), (q_9, .inl (cA_10, 16384, .inl (fun _ => 0))), (q_11, .inl (cA_12, 14, .inl (fun _ => 0))), (q_13, .inl (cA_14, 2, .inl (fun _ => 0))), (q_15, .inl (cA_16, 2, .inl (fun _ => 0))), (q_17, .inl (cA_18, 32, .inl (fun _ => 0))), (q_19, .inl (cA_20, 7, .inl (fun _ => 0)))] H := hP
  replace hD : va_D A [(h0, .inr (3, [.ref q_1, .ref q_3, .ref q_5, .int 0, .ref q_7, .int 0, .ref q_9, .int 0, .ref q_11, .ref q_13, .int 0, .int 0, .ref q_15, .int 0, .ref q_17, .null])), (q_1, .inl (cA_2, 32, .inl (fun _ => 0))), (q_3, .inl (cA_4, 224, .inl (fun _ => 0))), (q_5, .inl (cA_6, 32, .inl (fun _ => 0))), (q_7, .inl (cA_8, 2304, .inl (fun _ => 0))), (q_9, .inl (cA_10, 16384, .inl (fun _ => 0))), (q_11, .inl (cA_12, 14, .inl (fun _ => 0))), (q_13, .inl (cA_14, 2, .inl (fun _ => 0))), (q_15, .inl (cA_16, 2, .inl (fun _ => 0))), (q_17, .inl (cA_18, 32, .inl (fun _ => 0))), (q_19, .inl (cA_20, 7, .inl (fun _ => 0)))] := hD
  replace hK : va_K (dC, dI) vcl [(cA_2, .int), (cA_4, .int), (cA_6, .boolean), (cA_8, .int), (cA_10, .byte), (cA_12, .int), (cA_14, .int), (cA_16, .int), (cA_18, .boolean), (cA_20, .int)] s := hK
  refine W.widen (k := 10) (n := 19033) (by decide) (by decide) ?_
  refine va_putF (D := (dC, dI)) (ci := 3) (v := .ref q_19) (ty := (.array .int)) (C := R_FontShelf) (T := F_FontShelf) (N := 16) hx hb hwd i_FontShelf t_FontShelf to_FontShelf no_FontShelf hown hK hP hD hS 0 rfl rfl 15 (by decide) (hwd _ wd_2_116) (fun _ h9 => h9) rfl hin rfl (by decide +kernel) rfl rfl (Nat.le_of_ble_eq_true rfl) d_FontShelf_init_82 ?_
  clear hP hD hS
  intro H locs hP hD hS
  replace hP : va_P (dC, dI) vcl [(h0, .inr (3, [.ref q_1, .ref q_3, .ref q_5, .int 0, .ref q_7, .int 0, .ref q_9, .int 0, .ref q_11, .ref q_13, .int 0, .int 0, .ref q_15, .int 0, .ref q_17, .ref q_19])), (q_1, .inl (cA_2, 32, .inl (fun _ => 0))), (q_3, .inl (cA_4, 224, .inl (fun _ => 0))), (q_5, .inl (cA_6, 32, .inl (fun _ => 0))), (q_7, .inl (cA_8, 2304, .inl (fun _ => 0))), (q_9, .inl (cA_10, 16384, .inl (fun _ => 0))), (q_11, .inl (cA_12, 14, .inl (fun _ => 0))), (q_13, .inl (cA_14, 2, .inl (fun _ => 0))), (q_15, .inl (cA_16, 2, .inl (fun _ => 0))), (q_17, .inl (cA_18, 32, .inl (fun _ => 0))), (q_19, .inl (cA_20, 7, .inl (fun _ => 0)))] H := hP
  replace hD : va_D A [(h0, .inr (3, [.ref q_1, .ref q_3, .ref q_5, .int 0, .ref q_7, .int 0, .ref q_9, .int 0, .ref q_11, .ref q_13, .int 0, .int 0, .ref q_15, .int 0, .ref q_17, .ref q_19])), (q_1, .inl (cA_2, 32, .inl (fun _ => 0))), (q_3, .inl (cA_4, 224, .inl (fun _ => 0))), (q_5, .inl (cA_6, 32, .inl (fun _ => 0))), (q_7, .inl (cA_8, 2304, .inl (fun _ => 0))), (q_9, .inl (cA_10, 16384, .inl (fun _ => 0))), (q_11, .inl (cA_12, 14, .inl (fun _ => 0))), (q_13, .inl (cA_14, 2, .inl (fun _ => 0))), (q_15, .inl (cA_16, 2, .inl (fun _ => 0))), (q_17, .inl (cA_18, 32, .inl (fun _ => 0))), (q_19, .inl (cA_20, 7, .inl (fun _ => 0)))] := hD
  refine lv_aload_n hx hb d_FontShelf_init_85 rfl (lv_at hl 0 rfl) ?_
  have hPc := hP.sub (ws' := [(h0, .inr (3, [.ref q_1, .ref q_3, .ref q_5, .int 0, .ref q_7, .int 0, .ref q_9, .int 0, .ref q_11, .ref q_13, .int 0, .int 0, .ref q_15, .int 0, .ref q_17, .ref q_19])), (q_13, .inl (cA_14, 2, .inl (fun _ => 0))), (q_17, .inl (cA_18, 32, .inl (fun _ => 0))), (q_11, .inl (cA_12, 14, .inl (fun _ => 0))), (q_15, .inl (cA_16, 2, .inl (fun _ => 0)))]) [0, 7, 9, 6, 8] rfl
  have hDc := hD.sub (ws' := [(h0, .inr (3, [.ref q_1, .ref q_3, .ref q_5, .int 0, .ref q_7, .int 0, .ref q_9, .int 0, .ref q_11, .ref q_13, .int 0, .int 0, .ref q_15, .int 0, .ref q_17, .ref q_19])), (q_13, .inl (cA_14, 2, .inl (fun _ => 0))), (q_17, .inl (cA_18, 32, .inl (fun _ => 0))), (q_11, .inl (cA_12, 14, .inl (fun _ => 0))), (q_15, .inl (cA_16, 2, .inl (fun _ => 0)))]) [0, 7, 9, 6, 8] (by decide) rfl
  have hKc := hK.sub (tys' := [(cA_14, .int), (cA_18, .boolean), (cA_12, .int), (cA_16, .int)]) [6, 8, 5, 7] rfl
  have hFc := va_free (wc := [(h0, .inr (3, [.ref q_1, .ref q_3, .ref q_5, .int 0, .ref q_7, .int 0, .ref q_9, .int 0, .ref q_11, .ref q_13, .int 0, .int 0, .ref q_15, .int 0, .ref q_17, .ref q_19])), (q_13, .inl (cA_14, 2, .inl (fun _ => 0))), (q_17, .inl (cA_18, 32, .inl (fun _ => 0))), (q_11, .inl (cA_12, 14, .inl (fun _ => 0))), (q_15, .inl (cA_16, 2, .inl (fun _ => 0)))]) hD hS hA [0, 7, 9, 6, 8] rfl
  refine va_callv (va_runV (As := []) (rest := []) ⟨hx, hb, hml, hown, hwd⟩ (c_Shelf_endJob_0 l dC dI tt h0 q_1 q_3 q_5 q_7 0 q_9 0 q_11 q_13 0 0 q_15 0 q_17 q_19 cA_14 (fun _ => 0) cA_18 (fun _ => 0) cA_12 (fun _ => 0) cA_16 (fun _ => 0) H.size ) (cwV 0 hwd (gV gd_FontShelf_endJob wd_2_12 wd_2_13 wd_2_14 wd_1_5) rfl rfl rfl (by decide +kernel) ⟨Nat.le_of_ble_eq_true rfl, Nat.le_of_ble_eq_true rfl⟩) ⟨fun a U g mk q => by obtain ⟨q0, q1, qP, qK, qD, qF⟩ := q; exact ⟨q0, q1, qP, va_K.moved (u := U) (U := U.calling g mk a) (Vm.Alike.refl U.vm) qK, qD, SF.same (u := U) (U := U.calling g mk a) rfl qF⟩, va_recv hKc hPc (ci := 3) (q0 := 0) rfl rfl, fun U hU hW => ⟨rfl, by rw [hU], by rw [hU]; exact hPc, va_K.moved hW.alike hKc, hDc.weaken (fun _ _ _ _ => trivial), by rw [hU]; exact SF.narrow (SF.moved hW (SF.kept hF (fun a h1 h2 => hS.2.1 a h1 h2))) hFc⟩⟩ rfl rfl hl.1 rfl (lv_room (Nat.le_of_ble_eq_true rfl)) d_FontShelf_init_86 ⟨Nat.le_of_ble_eq_true rfl, Nat.le_of_ble_eq_true rfl⟩) hS (fun q _ h => hFc q h) hFc ?_
  clear hPc hDc hKc hS
  intro u_22 t H1 locs ht hvm hw hB hz1 hk1 hS
  obtain ⟨fc0_23, fc1_24⟩ := u_22
  obtain ⟨hP1, hK1, hD1⟩ := hB
  rw [ht] at hP1
  have hK1 := va_K.moved hvm.symm hK1
  try dsimp only at hw
  have hJ := va_join (wr := [(q_1, .inl (cA_2, 32, .inl (fun _ => 0))), (q_3, .inl (cA_4, 224, .inl (fun _ => 0))), (q_5, .inl (cA_6, 32, .inl (fun _ => 0))), (q_7, .inl (cA_8, 2304, .inl (fun _ => 0))), (q_9, .inl (cA_10, 16384, .inl (fun _ => 0))), (q_19, .inl (cA_20, 7, .inl (fun _ => 0)))]) (w1 := [(q_15, .inl (cA_16, 2, .inl (upd (upd (fun _ => 0) 0 (-1)) 1 (-1)))), (h0, .inr (3, [.ref q_1, .ref q_3, .ref q_5, .int 0, .ref q_7, .int 0, .ref q_9, .int 0, .ref q_11, .ref q_13, .int 0, .int 0, .ref q_15, .int 1, .ref q_17, .ref q_19])), (q_13, .inl (cA_14, 2, .inl (upd (upd (fun _ => 0) 0 ((-1) : Int32)) 1 ((-1) : Int32)))), (q_17, .inl (cA_18, 32, .inl fc0_23)), (q_11, .inl (cA_12, 14, .inl (upd (upd fc1_24 12 0) 13 3)))]) hP hD [0, 7, 9, 6, 8] [1, 2, 3, 4, 5, 10] rfl rfl (by decide) (by decide) hk1 hFc hP1 hD1
  clear hP hD hk1 hFc hP1 hD1 hz1
  obtain ⟨hP, hD⟩ := hJ
  clear hK1 ht hvm
  generalize H1 = H at hP hS ⊢
  replace hP : va_P (dC, dI) vcl [(q_1, .inl (cA_2, 32, .inl (fun _ => 0))), (q_3, .inl (cA_4, 224, .inl (fun _ => 0))), (q_5, .inl (cA_6, 32, .inl (fun _ => 0))), (q_7, .inl (cA_8, 2304, .inl (fun _ => 0))), (q_9, .inl (cA_10, 16384, .inl (fun _ => 0))), (q_19, .inl (cA_20, 7, .inl (fun _ => 0))), (q_15, .inl (cA_16, 2, .inl (upd (upd (fun _ => 0) 0 (-1)) 1 (-1)))), (h0, .inr (3, [.ref q_1, .ref q_3, .ref q_5, .int 0, .ref q_7, .int 0, .ref q_9, .int 0, .ref q_11, .ref q_13, .int 0, .int 0, .ref q_15, .int 1, .ref q_17, .ref q_19])), (q_13, .inl (cA_14, 2, .inl (upd (upd (fun _ => 0) 0 ((-1) : Int32)) 1 ((-1) : Int32)))), (q_17, .inl (cA_18, 32, .inl fc0_23)), (q_11, .inl (cA_12, 14, .inl (upd (upd fc1_24 12 0) 13 3)))] H := hP
  replace hD : va_D A [(q_1, .inl (cA_2, 32, .inl (fun _ => 0))), (q_3, .inl (cA_4, 224, .inl (fun _ => 0))), (q_5, .inl (cA_6, 32, .inl (fun _ => 0))), (q_7, .inl (cA_8, 2304, .inl (fun _ => 0))), (q_9, .inl (cA_10, 16384, .inl (fun _ => 0))), (q_19, .inl (cA_20, 7, .inl (fun _ => 0))), (q_15, .inl (cA_16, 2, .inl (upd (upd (fun _ => 0) 0 (-1)) 1 (-1)))), (h0, .inr (3, [.ref q_1, .ref q_3, .ref q_5, .int 0, .ref q_7, .int 0, .ref q_9, .int 0, .ref q_11, .ref q_13, .int 0, .int 0, .ref q_15, .int 1, .ref q_17, .ref q_19])), (q_13, .inl (cA_14, 2, .inl (upd (upd (fun _ => 0) 0 ((-1) : Int32)) 1 ((-1) : Int32)))), (q_17, .inl (cA_18, 32, .inl fc0_23)), (q_11, .inl (cA_12, 14, .inl (upd (upd fc1_24 12 0) 13 3)))] := hD
  have hP9 := hP.sub (ws' := [(h0, .inr (3, [.ref q_1, .ref q_3, .ref q_5, .int 0, .ref q_7, .int 0, .ref q_9, .int 0, .ref q_11, .ref q_13, .int 0, .int 0, .ref q_15, .int 1, .ref q_17, .ref q_19])), (q_1, .inl (cA_2, 32, .inl (fun _ => 0))), (q_3, .inl (cA_4, 224, .inl (fun _ => 0))), (q_5, .inl (cA_6, 32, .inl (fun _ => 0))), (q_7, .inl (cA_8, 2304, .inl (fun _ => 0))), (q_9, .inl (cA_10, 16384, .inl (fun _ => 0))), (q_19, .inl (cA_20, 7, .inl (fun _ => 0))), (q_15, .inl (cA_16, 2, .inl (upd (upd (fun _ => 0) 0 (-1)) 1 (-1)))), (q_13, .inl (cA_14, 2, .inl (upd (upd (fun _ => 0) 0 ((-1) : Int32)) 1 ((-1) : Int32)))), (q_17, .inl (cA_18, 32, .inl fc0_23)), (q_11, .inl (cA_12, 14, .inl (upd (upd fc1_24 12 0) 13 3)))]) [7, 0, 1, 2, 3, 4, 5, 6, 8, 9, 10] rfl
  have hD9 := hD.sub (ws' := [(h0, .inr (3, [.ref q_1, .ref q_3, .ref q_5, .int 0, .ref q_7, .int 0, .ref q_9, .int 0, .ref q_11, .ref q_13, .int 0, .int 0, .ref q_15, .int 1, .ref q_17, .ref q_19])), (q_1, .inl (cA_2, 32, .inl (fun _ => 0))), (q_3, .inl (cA_4, 224, .inl (fun _ => 0))), (q_5, .inl (cA_6, 32, .inl (fun _ => 0))), (q_7, .inl (cA_8, 2304, .inl (fun _ => 0))), (q_9, .inl (cA_10, 16384, .inl (fun _ => 0))), (q_19, .inl (cA_20, 7, .inl (fun _ => 0))), (q_15, .inl (cA_16, 2, .inl (upd (upd (fun _ => 0) 0 (-1)) 1 (-1)))), (q_13, .inl (cA_14, 2, .inl (upd (upd (fun _ => 0) 0 ((-1) : Int32)) 1 ((-1) : Int32)))), (q_17, .inl (cA_18, 32, .inl fc0_23)), (q_11, .inl (cA_12, 14, .inl (upd (upd fc1_24 12 0) 13 3)))]) [7, 0, 1, 2, 3, 4, 5, 6, 8, 9, 10] (by decide) rfl
  have hK9 := hK.sub (tys' := [(cA_2, .int), (cA_4, .int), (cA_6, .boolean), (cA_8, .int), (cA_10, .byte), (cA_20, .int), (cA_16, .int), (cA_14, .int), (cA_18, .boolean), (cA_12, .int)]) [0, 1, 2, 3, 4, 9, 7, 6, 8, 5] rfl
  exact W.vret hx hb hr (fun t ht hW => ⟨⟨(fc0_23, fc1_24), rfl, (trivial), q_1, q_3, q_5, q_7, q_9, q_19, q_15, q_13, q_17, q_11, cA_2, cA_4, cA_6, cA_8, cA_10, cA_20, cA_16, cA_14, cA_18, cA_12, by rw [ht]; exact hP9, va_K.moved hW.alike hK9, hD9⟩, hS.F ht⟩) hS.2.2 d_FontShelf_init_89

abbrev at_c_wordsOf (dC : Nat → ClassId) (dI : Nat → Nat → Nat) (x : Int32) (A : Nat → Prop) (u : Unit) (t : State) : Prop := match u with
  | _ => va_P (dC, dI) vcl [] t.heap ∧ va_K (dC, dI) vcl [] t ∧ va_D A []
abbrev po_c_wordsOf (x : Int32) (r : Int32) (u : Unit) : Prop := match u with
  | _ => r = (x + 63) / 64
abbrev q_c_wordsOf (dC : Nat → ClassId) (dI : Nat → Nat → Nat) (x : Int32) (A : Nat → Prop) : Array Value → State → Outcome → State → Prop := va_Qi (po_c_wordsOf x) (at_c_wordsOf dC dI x A) A
abbrev rm_c_wordsOf : Room := { frames := 0, cells := 0, slots := 0, locals := 0 }
set_option maxHeartbeats 4000000 in
set_option maxRecDepth 100000 in
theorem c_wordsOf (l : Launch) (dC : Nat → ClassId) (dI : Nat → Nat → Nat) (tt : Nat → Nat) (x : Int32) (sz : Nat)  : Met l y_Sheet_wordsOf w_Sheet_wordsOf rm_c_wordsOf (va_Pc [.int x] (fun U => U.heap.size = sz ∧ va_P (dC, dI) vcl [] U.heap ∧ va_K (dC, dI) vcl [] U ∧ va_D (fun _ => True) [] ∧ SF tt (va_A [] sz) U U.heap)) (q_c_wordsOf dC dI x (va_A [] sz)) 0 0 (va_A [] sz) := by
  refine Met.ofW (cc := b_Sheet_wordsOf) (maxL := 1) (ret := (some .int)) (by decide) rfl ?_
  intro p e s m args below meth c s₁ B hml hv
  obtain ⟨rfl, hsz, hP, hK, hD0, hF⟩ := hv
  have hx := B.exec
  have hb := B.bytes
  have hr := B.returns
  have hwd : ∀ w ∈ gT, w.before _ s = true := fun w h => atoms_spec (ws := w_Sheet_wordsOf) B.pre w (List.mem_cons_of_mem _ h)
  have hown : s.vm.findClass R_Sheet = some m.cls := findClass_of_methodNamed B.named
  have hlocks := B.notSynchronized
  subst hsz
  have hD := hD0.self (sz := s.heap.size)
  generalize hAe : va_A [] s.heap.size = A at hD hF ⊢
  have hA : ∀ q : Nat, s.heap.size ≤ q → A q := fun q h => by rw [← hAe]; exact Or.inr h
  have hS : va_S A s.heap s.heap [] := va_S.rf
  have hP : va_P (dC, dI) vcl [] s.heap := hP
  have hl := lv_entry ([.int x]) (n := 1) (Nat.le_of_ble_eq_true rfl)
  rw [lg_entry_eq]
  generalize (lg_sl ([.int x]) ++ List.replicate (1 - (lg_sl ([.int x])).length) Slot.unset).toArray = ls at hl ⊢
  have hl : lv_has ls 1 [(0, .int x)] := hl
  refine lv_iload_n hx hb d_Sheet_wordsOf_0 rfl (lv_at hl 0 rfl) ?_
  refine lv_bipush (v := 63) hx hb d_Sheet_wordsOf_1 (by decide) ?_
  refine lv_iadd hx hb d_Sheet_wordsOf_3 ?_
  refine lv_bipush (v := 64) hx hb d_Sheet_wordsOf_4 (by decide) ?_
  refine lv_idiv hx hb d_Sheet_wordsOf_6 (by decide) ?_
  have hP9 := hP.sub (ws' := []) [] rfl
  have hD9 := hD.sub (ws' := []) [] (by decide) rfl
  have hK9 := hK.sub (tys' := []) [] rfl
  exact W.iret (v := (x + 63) / 64) hx hb hr (fun t ht hW => ⟨⟨((x + 63) / 64), (), rfl, (show ((x + 63) / 64 : Int32) = (x + 63) / 64 from (by first | exact trivial | rfl | simp [*])), by rw [ht]; exact hP9, va_K.moved hW.alike hK9, hD9⟩, hS.F ht⟩) hS.2.2 d_Sheet_wordsOf_7
