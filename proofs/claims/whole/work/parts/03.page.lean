theorem wd_1_2 : (Jvm.Cond.initialized "SheetPrinter$Page") ∈ gT := gT_in (in_1 _ (List.mem_of_getElem? (i := 2) rfl)) rfl
theorem wd_1_3 : (Jvm.Cond.initialized "java/lang/Math") ∈ gT := gT_in (in_1 _ (List.mem_of_getElem? (i := 3) rfl)) rfl
theorem wd_1_35 : (Jvm.Cond.instanceMethod ({ cls := "java/lang/Object", name := "<init>", desc := "()V" } : Jvm.MethodName)) ∈ gT := gT_in (in_1 _ (List.mem_of_getElem? (i := 35) rfl)) rfl
theorem wd_1_36 : (Jvm.Cond.code ({ cls := "java/lang/Object", name := "<init>", desc := "()V" } : Jvm.MethodName) object_method_1_code (1 : Nat) (Option.none : Option Jvm.ClassFile.FieldType)) ∈ gT := gT_in (in_1 _ (List.mem_of_getElem? (i := 36) rfl)) rfl
theorem wd_1_42 : (Jvm.Cond.code ({ cls := "SheetPrinter$Page", name := "<init>", desc := "(I)V" } : Jvm.MethodName) prog_8_method_1_code (2 : Nat) (Option.none : Option Jvm.ClassFile.FieldType)) ∈ gT := gT_in (in_1 _ (List.mem_of_getElem? (i := 42) rfl)) rfl
theorem wd_1_43 : (Jvm.Cond.methodLink "SheetPrinter$Page" (5 : Nat) ({ cls := "java/lang/Object", name := "<init>", desc := "()V" } : Jvm.MethodName)) ∈ gT := gT_in (in_1 _ (List.mem_of_getElem? (i := 43) rfl)) rfl
theorem wd_1_44 : (Jvm.Cond.methodLink "SheetPrinter$Page" (22 : Nat) ({ cls := "SheetPrinter$Page", name := "reset", desc := "()V" } : Jvm.MethodName)) ∈ gT := gT_in (in_1 _ (List.mem_of_getElem? (i := 44) rfl)) rfl
theorem wd_1_45 : (Jvm.Cond.instanceMethod ({ cls := "SheetPrinter$Page", name := "reset", desc := "()V" } : Jvm.MethodName)) ∈ gT := gT_in (in_1 _ (List.mem_of_getElem? (i := 45) rfl)) rfl
theorem wd_1_46 : (Jvm.Cond.selects "SheetPrinter$Page" ({ cls := "SheetPrinter$Page", name := "reset", desc := "()V" } : Jvm.MethodName) ({ cls := "SheetPrinter$Page", name := "reset", desc := "()V" } : Jvm.MethodName)) ∈ gT := gT_in (in_1 _ (List.mem_of_getElem? (i := 46) rfl)) rfl
theorem wd_1_47 : (Jvm.Cond.code ({ cls := "SheetPrinter$Page", name := "reset", desc := "()V" } : Jvm.MethodName) prog_8_method_2_code (1 : Nat) (Option.none : Option Jvm.ClassFile.FieldType)) ∈ gT := gT_in (in_1 _ (List.mem_of_getElem? (i := 47) rfl)) rfl
theorem wd_1_48 : (Jvm.Cond.methodLink "SheetPrinter$Page" (56 : Nat) ({ cls := "SheetPrinter$Page", name := "setDefaults", desc := "()V" } : Jvm.MethodName)) ∈ gT := gT_in (in_1 _ (List.mem_of_getElem? (i := 48) rfl)) rfl
theorem wd_1_50 : (Jvm.Cond.instanceMethod ({ cls := "SheetPrinter$Page", name := "setDefaults", desc := "()V" } : Jvm.MethodName)) ∈ gT := gT_in (in_1 _ (List.mem_of_getElem? (i := 50) rfl)) rfl
theorem wd_1_51 : (Jvm.Cond.code ({ cls := "SheetPrinter$Page", name := "setDefaults", desc := "()V" } : Jvm.MethodName) prog_8_method_3_code (1 : Nat) (Option.none : Option Jvm.ClassFile.FieldType)) ∈ gT := gT_in (in_1 _ (List.mem_of_getElem? (i := 51) rfl)) rfl
theorem wd_1_52 : (Jvm.Cond.methodLink "SheetPrinter$Page" (62 : Nat) ({ cls := "SheetPrinter$Page", name := "height", desc := "()I" } : Jvm.MethodName)) ∈ gT := gT_in (in_1 _ (List.mem_of_getElem? (i := 52) rfl)) rfl
theorem wd_1_53 : (Jvm.Cond.instanceMethod ({ cls := "SheetPrinter$Page", name := "height", desc := "()I" } : Jvm.MethodName)) ∈ gT := gT_in (in_1 _ (List.mem_of_getElem? (i := 53) rfl)) rfl
theorem wd_1_54 : (Jvm.Cond.selects "SheetPrinter$Page" ({ cls := "SheetPrinter$Page", name := "height", desc := "()I" } : Jvm.MethodName) ({ cls := "SheetPrinter$Page", name := "height", desc := "()I" } : Jvm.MethodName)) ∈ gT := gT_in (in_1 _ (List.mem_of_getElem? (i := 54) rfl)) rfl
theorem wd_1_55 : (Jvm.Cond.code ({ cls := "SheetPrinter$Page", name := "height", desc := "()I" } : Jvm.MethodName) prog_8_method_12_code (1 : Nat) (Option.some Jvm.ClassFile.FieldType.int)) ∈ gT := gT_in (in_1 _ (List.mem_of_getElem? (i := 55) rfl)) rfl
theorem wd_1_56 : (Jvm.Cond.methodLink "SheetPrinter$Page" (105 : Nat) ({ cls := "SheetPrinter$Page", name := "onSide", desc := "()Z" } : Jvm.MethodName)) ∈ gT := gT_in (in_1 _ (List.mem_of_getElem? (i := 56) rfl)) rfl
theorem wd_1_58 : (Jvm.Cond.instanceMethod ({ cls := "SheetPrinter$Page", name := "onSide", desc := "()Z" } : Jvm.MethodName)) ∈ gT := gT_in (in_1 _ (List.mem_of_getElem? (i := 58) rfl)) rfl
theorem wd_1_59 : (Jvm.Cond.code ({ cls := "SheetPrinter$Page", name := "onSide", desc := "()Z" } : Jvm.MethodName) prog_8_method_10_code (1 : Nat) (Option.some Jvm.ClassFile.FieldType.boolean)) ∈ gT := gT_in (in_1 _ (List.mem_of_getElem? (i := 59) rfl)) rfl
theorem wd_1_60 : (Jvm.Cond.fieldLink "SheetPrinter$Page" (112 : Nat) "SheetPrinter$Page" "ACROSS" "[I") ∈ gT := gT_in (in_1 _ (List.mem_of_getElem? (i := 60) rfl)) rfl
theorem wd_1_62 : (Jvm.Cond.methodLink "SheetPrinter$Page" (91 : Nat) ({ cls := "SheetPrinter$Page", name := "ofSize", desc := "([I)I" } : Jvm.MethodName)) ∈ gT := gT_in (in_1 _ (List.mem_of_getElem? (i := 62) rfl)) rfl
theorem wd_1_64 : (Jvm.Cond.instanceMethod ({ cls := "SheetPrinter$Page", name := "ofSize", desc := "([I)I" } : Jvm.MethodName)) ∈ gT := gT_in (in_1 _ (List.mem_of_getElem? (i := 64) rfl)) rfl
theorem wd_1_65 : (Jvm.Cond.code ({ cls := "SheetPrinter$Page", name := "ofSize", desc := "([I)I" } : Jvm.MethodName) prog_8_method_9_code (2 : Nat) (Option.some Jvm.ClassFile.FieldType.int)) ∈ gT := gT_in (in_1 _ (List.mem_of_getElem? (i := 65) rfl)) rfl
theorem wd_1_66 : (Jvm.Cond.fieldLink "SheetPrinter$Page" (109 : Nat) "SheetPrinter$Page" "DOWN" "[I") ∈ gT := gT_in (in_1 _ (List.mem_of_getElem? (i := 66) rfl)) rfl
theorem wd_1_68 : (Jvm.Cond.methodLink "SheetPrinter$Page" (72 : Nat) ({ cls := "SheetPrinter$Page", name := "width", desc := "()I" } : Jvm.MethodName)) ∈ gT := gT_in (in_1 _ (List.mem_of_getElem? (i := 68) rfl)) rfl
theorem wd_1_69 : (Jvm.Cond.instanceMethod ({ cls := "SheetPrinter$Page", name := "width", desc := "()I" } : Jvm.MethodName)) ∈ gT := gT_in (in_1 _ (List.mem_of_getElem? (i := 69) rfl)) rfl
theorem wd_1_70 : (Jvm.Cond.selects "SheetPrinter$Page" ({ cls := "SheetPrinter$Page", name := "width", desc := "()I" } : Jvm.MethodName) ({ cls := "SheetPrinter$Page", name := "width", desc := "()I" } : Jvm.MethodName)) ∈ gT := gT_in (in_1 _ (List.mem_of_getElem? (i := 70) rfl)) rfl
theorem wd_1_71 : (Jvm.Cond.code ({ cls := "SheetPrinter$Page", name := "width", desc := "()I" } : Jvm.MethodName) prog_8_method_11_code (1 : Nat) (Option.some Jvm.ClassFile.FieldType.int)) ∈ gT := gT_in (in_1 _ (List.mem_of_getElem? (i := 71) rfl)) rfl
theorem wd_1_72 : (Jvm.Cond.methodLink "SheetPrinter$Page" (78 : Nat) ({ cls := "SheetPrinter$Page", name := "setX", desc := "(J)V" } : Jvm.MethodName)) ∈ gT := gT_in (in_1 _ (List.mem_of_getElem? (i := 72) rfl)) rfl
theorem wd_1_73 : (Jvm.Cond.instanceMethod ({ cls := "SheetPrinter$Page", name := "setX", desc := "(J)V" } : Jvm.MethodName)) ∈ gT := gT_in (in_1 _ (List.mem_of_getElem? (i := 73) rfl)) rfl
theorem wd_1_74 : (Jvm.Cond.selects "SheetPrinter$Page" ({ cls := "SheetPrinter$Page", name := "setX", desc := "(J)V" } : Jvm.MethodName) ({ cls := "SheetPrinter$Page", name := "setX", desc := "(J)V" } : Jvm.MethodName)) ∈ gT := gT_in (in_1 _ (List.mem_of_getElem? (i := 74) rfl)) rfl
theorem wd_1_75 : (Jvm.Cond.code ({ cls := "SheetPrinter$Page", name := "setX", desc := "(J)V" } : Jvm.MethodName) prog_8_method_17_code (3 : Nat) (Option.none : Option Jvm.ClassFile.FieldType)) ∈ gT := gT_in (in_1 _ (List.mem_of_getElem? (i := 75) rfl)) rfl
theorem wd_1_76 : (Jvm.Cond.methodLink "SheetPrinter$Page" (115 : Nat) ({ cls := "java/lang/Math", name := "min", desc := "(JJ)J" } : Jvm.MethodName)) ∈ gT := gT_in (in_1 _ (List.mem_of_getElem? (i := 76) rfl)) rfl
theorem wd_1_77 : (Jvm.Cond.static ({ cls := "java/lang/Math", name := "min", desc := "(JJ)J" } : Jvm.MethodName)) ∈ gT := gT_in (in_1 _ (List.mem_of_getElem? (i := 77) rfl)) rfl
theorem wd_1_78 : (Jvm.Cond.code ({ cls := "java/lang/Math", name := "min", desc := "(JJ)J" } : Jvm.MethodName) prog_25_method_70_code (4 : Nat) (Option.some Jvm.ClassFile.FieldType.long)) ∈ gT := gT_in (in_1 _ (List.mem_of_getElem? (i := 78) rfl)) rfl
theorem wd_1_79 : (Jvm.Cond.methodLink "SheetPrinter$Page" (119 : Nat) ({ cls := "java/lang/Math", name := "max", desc := "(JJ)J" } : Jvm.MethodName)) ∈ gT := gT_in (in_1 _ (List.mem_of_getElem? (i := 79) rfl)) rfl
theorem wd_1_80 : (Jvm.Cond.static ({ cls := "java/lang/Math", name := "max", desc := "(JJ)J" } : Jvm.MethodName)) ∈ gT := gT_in (in_1 _ (List.mem_of_getElem? (i := 80) rfl)) rfl
theorem wd_1_81 : (Jvm.Cond.code ({ cls := "java/lang/Math", name := "max", desc := "(JJ)J" } : Jvm.MethodName) prog_25_method_66_code (4 : Nat) (Option.some Jvm.ClassFile.FieldType.long)) ∈ gT := gT_in (in_1 _ (List.mem_of_getElem? (i := 81) rfl)) rfl
theorem wd_1_82 : (Jvm.Cond.methodLink "SheetPrinter$Page" (82 : Nat) ({ cls := "SheetPrinter$Page", name := "home", desc := "()I" } : Jvm.MethodName)) ∈ gT := gT_in (in_1 _ (List.mem_of_getElem? (i := 82) rfl)) rfl
theorem wd_1_84 : (Jvm.Cond.instanceMethod ({ cls := "SheetPrinter$Page", name := "home", desc := "()I" } : Jvm.MethodName)) ∈ gT := gT_in (in_1 _ (List.mem_of_getElem? (i := 84) rfl)) rfl
theorem wd_1_85 : (Jvm.Cond.code ({ cls := "SheetPrinter$Page", name := "home", desc := "()I" } : Jvm.MethodName) prog_8_method_19_code (1 : Nat) (Option.some Jvm.ClassFile.FieldType.int)) ∈ gT := gT_in (in_1 _ (List.mem_of_getElem? (i := 85) rfl)) rfl
theorem wd_1_86 : (Jvm.Cond.methodLink "SheetPrinter$Page" (85 : Nat) ({ cls := "SheetPrinter$Page", name := "setY", desc := "(J)V" } : Jvm.MethodName)) ∈ gT := gT_in (in_1 _ (List.mem_of_getElem? (i := 86) rfl)) rfl
theorem wd_1_87 : (Jvm.Cond.instanceMethod ({ cls := "SheetPrinter$Page", name := "setY", desc := "(J)V" } : Jvm.MethodName)) ∈ gT := gT_in (in_1 _ (List.mem_of_getElem? (i := 87) rfl)) rfl
theorem wd_1_88 : (Jvm.Cond.selects "SheetPrinter$Page" ({ cls := "SheetPrinter$Page", name := "setY", desc := "(J)V" } : Jvm.MethodName) ({ cls := "SheetPrinter$Page", name := "setY", desc := "(J)V" } : Jvm.MethodName)) ∈ gT := gT_in (in_1 _ (List.mem_of_getElem? (i := 88) rfl)) rfl
theorem wd_1_89 : (Jvm.Cond.code ({ cls := "SheetPrinter$Page", name := "setY", desc := "(J)V" } : Jvm.MethodName) prog_8_method_18_code (3 : Nat) (Option.none : Option Jvm.ClassFile.FieldType)) ∈ gT := gT_in (in_1 _ (List.mem_of_getElem? (i := 89) rfl)) rfl
theorem wd_1_90 : (Jvm.Cond.fieldLink "SheetPrinter$Page" (18 : Nat) "SheetPrinter$Page" "dpi" "I") ∈ gT := gT_in (in_1 _ (List.mem_of_getElem? (i := 90) rfl)) rfl
theorem wd_1_93 : (Jvm.Cond.fieldLink "SheetPrinter$Page" (25 : Nat) "SheetPrinter$Page" "size" "I") ∈ gT := gT_in (in_1 _ (List.mem_of_getElem? (i := 93) rfl)) rfl
theorem wd_1_94 : (Jvm.Cond.fieldLink "SheetPrinter$Page" (28 : Nat) "SheetPrinter$Page" "orientation" "I") ∈ gT := gT_in (in_1 _ (List.mem_of_getElem? (i := 94) rfl)) rfl
theorem wd_1_97 : (Jvm.Cond.fieldLink "SheetPrinter$Page" (47 : Nat) "SheetPrinter$Page" "copies" "I") ∈ gT := gT_in (in_1 _ (List.mem_of_getElem? (i := 97) rfl)) rfl
theorem wd_1_99 : (Jvm.Cond.fieldLink "SheetPrinter$Page" (59 : Nat) "SheetPrinter$Page" "top" "I") ∈ gT := gT_in (in_1 _ (List.mem_of_getElem? (i := 99) rfl)) rfl
theorem wd_1_100 : (Jvm.Cond.fieldLink "SheetPrinter$Page" (66 : Nat) "SheetPrinter$Page" "length" "I") ∈ gT := gT_in (in_1 _ (List.mem_of_getElem? (i := 100) rfl)) rfl
theorem wd_1_101 : (Jvm.Cond.fieldLink "SheetPrinter$Page" (69 : Nat) "SheetPrinter$Page" "left" "I") ∈ gT := gT_in (in_1 _ (List.mem_of_getElem? (i := 101) rfl)) rfl
theorem wd_1_102 : (Jvm.Cond.fieldLink "SheetPrinter$Page" (75 : Nat) "SheetPrinter$Page" "right" "I") ∈ gT := gT_in (in_1 _ (List.mem_of_getElem? (i := 102) rfl)) rfl
theorem wd_1_103 : (Jvm.Cond.fieldLink "SheetPrinter$Page" (31 : Nat) "SheetPrinter$Page" "stepAcross" "I") ∈ gT := gT_in (in_1 _ (List.mem_of_getElem? (i := 103) rfl)) rfl
theorem wd_1_105 : (Jvm.Cond.fieldLink "SheetPrinter$Page" (34 : Nat) "SheetPrinter$Page" "stepDown" "I") ∈ gT := gT_in (in_1 _ (List.mem_of_getElem? (i := 105) rfl)) rfl
theorem wd_1_110 : (Jvm.Cond.fieldLink "SheetPrinter$Page" (121 : Nat) "SheetPrinter$Page" "x" "I") ∈ gT := gT_in (in_1 _ (List.mem_of_getElem? (i := 110) rfl)) rfl
theorem wd_1_113 : (Jvm.Cond.fieldLink "SheetPrinter$Page" (124 : Nat) "SheetPrinter$Page" "y" "I") ∈ gT := gT_in (in_1 _ (List.mem_of_getElem? (i := 113) rfl)) rfl
theorem wd_1_115 : (Jvm.Cond.fieldLink "SheetPrinter$Page" (37 : Nat) "SheetPrinter$Page" "wrap" "Z") ∈ gT := gT_in (in_1 _ (List.mem_of_getElem? (i := 115) rfl)) rfl
theorem wd_1_117 : (Jvm.Cond.fieldLink "SheetPrinter$Page" (41 : Nat) "SheetPrinter$Page" "skip" "Z") ∈ gT := gT_in (in_1 _ (List.mem_of_getElem? (i := 117) rfl)) rfl
theorem wd_1_119 : (Jvm.Cond.fieldLink "SheetPrinter$Page" (44 : Nat) "SheetPrinter$Page" "lineEnd" "I") ∈ gT := gT_in (in_1 _ (List.mem_of_getElem? (i := 119) rfl)) rfl
theorem wd_1_121 : (Jvm.Cond.fieldLink "SheetPrinter$Page" (50 : Nat) "SheetPrinter$Page" "font" "I") ∈ gT := gT_in (in_1 _ (List.mem_of_getElem? (i := 121) rfl)) rfl
theorem wd_1_124 : (Jvm.Cond.fieldLink "SheetPrinter$Page" (11 : Nat) "SheetPrinter$Page" "stack" "[I") ∈ gT := gT_in (in_1 _ (List.mem_of_getElem? (i := 124) rfl)) rfl
theorem wd_1_125 : (Jvm.Cond.fieldLink "SheetPrinter$Page" (53 : Nat) "SheetPrinter$Page" "stacked" "I") ∈ gT := gT_in (in_1 _ (List.mem_of_getElem? (i := 125) rfl)) rfl
theorem wd_1_126 : (Jvm.Cond.fieldLink "SheetPrinter$Page" (15 : Nat) "SheetPrinter$Page" "kept" "[I") ∈ gT := gT_in (in_1 _ (List.mem_of_getElem? (i := 126) rfl)) rfl
theorem wd_1_127 : (Jvm.Cond.laysFinal "SheetPrinter$Page" "SheetPrinter$Page" "dpi" "I") ∈ gT := gT_in (in_1 _ (List.mem_of_getElem? (i := 127) rfl)) rfl
theorem wd_1_129 : (Jvm.Cond.lays "SheetPrinter$Page" "SheetPrinter$Page" "size" "I") ∈ gT := gT_in (in_1 _ (List.mem_of_getElem? (i := 129) rfl)) rfl
theorem wd_1_131 : (Jvm.Cond.lays "SheetPrinter$Page" "SheetPrinter$Page" "orientation" "I") ∈ gT := gT_in (in_1 _ (List.mem_of_getElem? (i := 131) rfl)) rfl
theorem wd_1_133 : (Jvm.Cond.lays "SheetPrinter$Page" "SheetPrinter$Page" "copies" "I") ∈ gT := gT_in (in_1 _ (List.mem_of_getElem? (i := 133) rfl)) rfl
theorem wd_1_135 : (Jvm.Cond.lays "SheetPrinter$Page" "SheetPrinter$Page" "top" "I") ∈ gT := gT_in (in_1 _ (List.mem_of_getElem? (i := 135) rfl)) rfl
theorem wd_1_137 : (Jvm.Cond.lays "SheetPrinter$Page" "SheetPrinter$Page" "length" "I") ∈ gT := gT_in (in_1 _ (List.mem_of_getElem? (i := 137) rfl)) rfl
theorem wd_1_139 : (Jvm.Cond.lays "SheetPrinter$Page" "SheetPrinter$Page" "left" "I") ∈ gT := gT_in (in_1 _ (List.mem_of_getElem? (i := 139) rfl)) rfl
theorem wd_1_141 : (Jvm.Cond.lays "SheetPrinter$Page" "SheetPrinter$Page" "right" "I") ∈ gT := gT_in (in_1 _ (List.mem_of_getElem? (i := 141) rfl)) rfl
theorem wd_1_143 : (Jvm.Cond.lays "SheetPrinter$Page" "SheetPrinter$Page" "stepAcross" "I") ∈ gT := gT_in (in_1 _ (List.mem_of_getElem? (i := 143) rfl)) rfl
theorem wd_1_145 : (Jvm.Cond.lays "SheetPrinter$Page" "SheetPrinter$Page" "stepDown" "I") ∈ gT := gT_in (in_1 _ (List.mem_of_getElem? (i := 145) rfl)) rfl
theorem wd_1_147 : (Jvm.Cond.lays "SheetPrinter$Page" "SheetPrinter$Page" "x" "I") ∈ gT := gT_in (in_1 _ (List.mem_of_getElem? (i := 147) rfl)) rfl
theorem wd_1_149 : (Jvm.Cond.lays "SheetPrinter$Page" "SheetPrinter$Page" "y" "I") ∈ gT := gT_in (in_1 _ (List.mem_of_getElem? (i := 149) rfl)) rfl
theorem wd_1_151 : (Jvm.Cond.lays "SheetPrinter$Page" "SheetPrinter$Page" "wrap" "Z") ∈ gT := gT_in (in_1 _ (List.mem_of_getElem? (i := 151) rfl)) rfl
theorem wd_1_153 : (Jvm.Cond.lays "SheetPrinter$Page" "SheetPrinter$Page" "skip" "Z") ∈ gT := gT_in (in_1 _ (List.mem_of_getElem? (i := 153) rfl)) rfl
theorem wd_1_155 : (Jvm.Cond.lays "SheetPrinter$Page" "SheetPrinter$Page" "lineEnd" "I") ∈ gT := gT_in (in_1 _ (List.mem_of_getElem? (i := 155) rfl)) rfl
theorem wd_1_157 : (Jvm.Cond.lays "SheetPrinter$Page" "SheetPrinter$Page" "font" "I") ∈ gT := gT_in (in_1 _ (List.mem_of_getElem? (i := 157) rfl)) rfl
theorem wd_1_159 : (Jvm.Cond.laysFinal "SheetPrinter$Page" "SheetPrinter$Page" "stack" "[I") ∈ gT := gT_in (in_1 _ (List.mem_of_getElem? (i := 159) rfl)) rfl
theorem wd_1_161 : (Jvm.Cond.lays "SheetPrinter$Page" "SheetPrinter$Page" "stacked" "I") ∈ gT := gT_in (in_1 _ (List.mem_of_getElem? (i := 161) rfl)) rfl
theorem wd_1_163 : (Jvm.Cond.laysFinal "SheetPrinter$Page" "SheetPrinter$Page" "kept" "[I") ∈ gT := gT_in (in_1 _ (List.mem_of_getElem? (i := 163) rfl)) rfl
theorem wd_1_167 : (Jvm.Cond.arrayClass Jvm.ClassFile.FieldType.int) ∈ gT := gT_in (in_1 _ (List.mem_of_getElem? (i := 167) rfl)) rfl
theorem wd_5_199 : (Jvm.Cond.code ({ cls := "SheetPrinter$Page", name := "sizeNumber", desc := "()I" } : Jvm.MethodName) prog_8_method_4_code (1 : Nat) (Option.some Jvm.ClassFile.FieldType.int)) ∈ gT := gT_in (in_5 _ (List.mem_of_getElem? (i := 199) rfl)) rfl
theorem wd_5_200 : (Jvm.Cond.fieldLink "SheetPrinter$Page" (88 : Nat) "SheetPrinter$Page" "SIZES" "[I") ∈ gT := gT_in (in_5 _ (List.mem_of_getElem? (i := 200) rfl)) rfl
theorem ws_0 : Cond.selects "SheetPrinter$Page" ⟨"SheetPrinter$Page", "setDefaults", "()V"⟩ ⟨"SheetPrinter$Page", "setDefaults", "()V"⟩ ∈ gT := gT_in (List.mem_append_left _ (List.mem_of_getElem? (i := 0) rfl)) rfl
theorem ws_1 : Cond.selects "SheetPrinter$Page" ⟨"SheetPrinter$Page", "onSide", "()Z"⟩ ⟨"SheetPrinter$Page", "onSide", "()Z"⟩ ∈ gT := gT_in (List.mem_append_left _ (List.mem_of_getElem? (i := 1) rfl)) rfl
theorem ws_2 : Cond.selects "SheetPrinter$Page" ⟨"SheetPrinter$Page", "ofSize", "([I)I"⟩ ⟨"SheetPrinter$Page", "ofSize", "([I)I"⟩ ∈ gT := gT_in (List.mem_append_left _ (List.mem_of_getElem? (i := 2) rfl)) rfl
theorem ws_3 : Cond.selects "SheetPrinter$Page" ⟨"SheetPrinter$Page", "home", "()I"⟩ ⟨"SheetPrinter$Page", "home", "()I"⟩ ∈ gT := gT_in (List.mem_append_left _ (List.mem_of_getElem? (i := 3) rfl)) rfl
theorem i_Page : ∀ w ∈ u_ws R_Page F_Page 19, w ∈ gT := by
  intro w h
  obtain ⟨k, hk, rfl⟩ := List.mem_map.mp h
  have hk := List.mem_range.mp hk
  match k, hk with
  | 0, _ => exact wd_1_127
  | 1, _ => exact wd_1_129
  | 2, _ => exact wd_1_131
  | 3, _ => exact wd_1_133
  | 4, _ => exact wd_1_135
  | 5, _ => exact wd_1_137
  | 6, _ => exact wd_1_139
  | 7, _ => exact wd_1_141
  | 8, _ => exact wd_1_143
  | 9, _ => exact wd_1_145
  | 10, _ => exact wd_1_147
  | 11, _ => exact wd_1_149
  | 12, _ => exact wd_1_151
  | 13, _ => exact wd_1_153
  | 14, _ => exact wd_1_155
  | 15, _ => exact wd_1_157
  | 16, _ => exact wd_1_159
  | 17, _ => exact wd_1_161
  | 18, _ => exact wd_1_163
  | k + 19, hk => exact absurd hk (by omega)
abbrev b_Page_onSide : ByteArray := prog_8_method_10_code
abbrev y_Page_onSide : MethodName := ⟨"SheetPrinter$Page", "onSide", "()Z"⟩
abbrev w_Page_onSide : List Cond := .code y_Page_onSide b_Page_onSide 1 (some .boolean) :: gT
theorem gd_Page_onSide : GoodIn gT w_Page_onSide := gW wd_1_59
theorem d_Page_onSide_0 : decode b_Page_onSide 0 = .ok (.aload_n 0, 1) := by decide +kernel
theorem d_Page_onSide_1 : decode b_Page_onSide 1 = .ok (.getfield 28, 3) := by decide +kernel
theorem d_Page_onSide_4 : decode b_Page_onSide 4 = .ok (.iconst 1, 1) := by decide +kernel
theorem d_Page_onSide_5 : decode b_Page_onSide 5 = .ok (.iand, 1) := by decide +kernel
theorem d_Page_onSide_6 : decode b_Page_onSide 6 = .ok (.iconst 1, 1) := by decide +kernel
theorem d_Page_onSide_7 : decode b_Page_onSide 7 = .ok (.if_icmp .ne 7, 3) := by decide +kernel
theorem d_Page_onSide_10 : decode b_Page_onSide 10 = .ok (.iconst 1, 1) := by decide +kernel
theorem d_Page_onSide_11 : decode b_Page_onSide 11 = .ok (.goto 4, 3) := by decide +kernel
theorem d_Page_onSide_14 : decode b_Page_onSide 14 = .ok (.iconst 0, 1) := by decide +kernel
theorem d_Page_onSide_15 : decode b_Page_onSide 15 = .ok (.ireturn, 1) := by decide +kernel
abbrev b_Page_ofSize : ByteArray := prog_8_method_9_code
abbrev y_Page_ofSize : MethodName := ⟨"SheetPrinter$Page", "ofSize", "([I)I"⟩
abbrev w_Page_ofSize : List Cond := .code y_Page_ofSize b_Page_ofSize 2 (some .int) :: gT
theorem gd_Page_ofSize : GoodIn gT w_Page_ofSize := gW wd_1_65
theorem d_Page_ofSize_0 : decode b_Page_ofSize 0 = .ok (.aload_n 0, 1) := by decide +kernel
theorem d_Page_ofSize_1 : decode b_Page_ofSize 1 = .ok (.getfield 25, 3) := by decide +kernel
theorem d_Page_ofSize_4 : decode b_Page_ofSize 4 = .ok (.ifCond .lt 21, 3) := by decide +kernel
theorem d_Page_ofSize_7 : decode b_Page_ofSize 7 = .ok (.aload_n 0, 1) := by decide +kernel
theorem d_Page_ofSize_8 : decode b_Page_ofSize 8 = .ok (.getfield 25, 3) := by decide +kernel
theorem d_Page_ofSize_11 : decode b_Page_ofSize 11 = .ok (.aload_n 1, 1) := by decide +kernel
theorem d_Page_ofSize_12 : decode b_Page_ofSize 12 = .ok (.arraylength, 1) := by decide +kernel
theorem d_Page_ofSize_13 : decode b_Page_ofSize 13 = .ok (.if_icmp .ge 12, 3) := by decide +kernel
theorem d_Page_ofSize_16 : decode b_Page_ofSize 16 = .ok (.aload_n 1, 1) := by decide +kernel
theorem d_Page_ofSize_17 : decode b_Page_ofSize 17 = .ok (.aload_n 0, 1) := by decide +kernel
theorem d_Page_ofSize_18 : decode b_Page_ofSize 18 = .ok (.getfield 25, 3) := by decide +kernel
theorem d_Page_ofSize_21 : decode b_Page_ofSize 21 = .ok (.iaload, 1) := by decide +kernel
theorem d_Page_ofSize_22 : decode b_Page_ofSize 22 = .ok (.goto 4, 3) := by decide +kernel
theorem d_Page_ofSize_25 : decode b_Page_ofSize 25 = .ok (.iconst 0, 1) := by decide +kernel
theorem d_Page_ofSize_26 : decode b_Page_ofSize 26 = .ok (.ireturn, 1) := by decide +kernel
abbrev b_Page_width : ByteArray := prog_8_method_11_code
abbrev y_Page_width : MethodName := ⟨"SheetPrinter$Page", "width", "()I"⟩
abbrev w_Page_width : List Cond := .code y_Page_width b_Page_width 1 (some .int) :: gT
theorem gd_Page_width : GoodIn gT w_Page_width := gW wd_1_71
theorem d_Page_width_0 : decode b_Page_width 0 = .ok (.aload_n 0, 1) := by decide +kernel
theorem d_Page_width_1 : decode b_Page_width 1 = .ok (.invokevirtual 105, 3) := by decide +kernel
theorem d_Page_width_4 : decode b_Page_width 4 = .ok (.ifCond .eq 17, 3) := by decide +kernel
theorem d_Page_width_7 : decode b_Page_width 7 = .ok (.aload_n 0, 1) := by decide +kernel
theorem d_Page_width_8 : decode b_Page_width 8 = .ok (.getstatic 109, 3) := by decide +kernel
theorem d_Page_width_11 : decode b_Page_width 11 = .ok (.invokevirtual 91, 3) := by decide +kernel
theorem d_Page_width_14 : decode b_Page_width 14 = .ok (.sipush 2880, 3) := by decide +kernel
theorem d_Page_width_17 : decode b_Page_width 17 = .ok (.isub, 1) := by decide +kernel
theorem d_Page_width_18 : decode b_Page_width 18 = .ok (.goto 14, 3) := by decide +kernel
theorem d_Page_width_21 : decode b_Page_width 21 = .ok (.aload_n 0, 1) := by decide +kernel
theorem d_Page_width_22 : decode b_Page_width 22 = .ok (.getstatic 112, 3) := by decide +kernel
theorem d_Page_width_25 : decode b_Page_width 25 = .ok (.invokevirtual 91, 3) := by decide +kernel
theorem d_Page_width_28 : decode b_Page_width 28 = .ok (.sipush 3600, 3) := by decide +kernel
theorem d_Page_width_31 : decode b_Page_width 31 = .ok (.isub, 1) := by decide +kernel
theorem d_Page_width_32 : decode b_Page_width 32 = .ok (.ireturn, 1) := by decide +kernel
abbrev b_Page_height : ByteArray := prog_8_method_12_code
abbrev y_Page_height : MethodName := ⟨"SheetPrinter$Page", "height", "()I"⟩
abbrev w_Page_height : List Cond := .code y_Page_height b_Page_height 1 (some .int) :: gT
theorem gd_Page_height : GoodIn gT w_Page_height := gW wd_1_55
theorem d_Page_height_0 : decode b_Page_height 0 = .ok (.aload_n 0, 1) := by decide +kernel
theorem d_Page_height_1 : decode b_Page_height 1 = .ok (.invokevirtual 105, 3) := by decide +kernel
theorem d_Page_height_4 : decode b_Page_height 4 = .ok (.ifCond .eq 13, 3) := by decide +kernel
theorem d_Page_height_7 : decode b_Page_height 7 = .ok (.aload_n 0, 1) := by decide +kernel
theorem d_Page_height_8 : decode b_Page_height 8 = .ok (.getstatic 112, 3) := by decide +kernel
theorem d_Page_height_11 : decode b_Page_height 11 = .ok (.invokevirtual 91, 3) := by decide +kernel
theorem d_Page_height_14 : decode b_Page_height 14 = .ok (.goto 10, 3) := by decide +kernel
theorem d_Page_height_17 : decode b_Page_height 17 = .ok (.aload_n 0, 1) := by decide +kernel
theorem d_Page_height_18 : decode b_Page_height 18 = .ok (.getstatic 109, 3) := by decide +kernel
theorem d_Page_height_21 : decode b_Page_height 21 = .ok (.invokevirtual 91, 3) := by decide +kernel
theorem d_Page_height_24 : decode b_Page_height 24 = .ok (.ireturn, 1) := by decide +kernel
abbrev b_Page_home : ByteArray := prog_8_method_19_code
abbrev y_Page_home : MethodName := ⟨"SheetPrinter$Page", "home", "()I"⟩
abbrev w_Page_home : List Cond := .code y_Page_home b_Page_home 1 (some .int) :: gT
theorem gd_Page_home : GoodIn gT w_Page_home := gW wd_1_85
theorem d_Page_home_0 : decode b_Page_home 0 = .ok (.aload_n 0, 1) := by decide +kernel
theorem d_Page_home_1 : decode b_Page_home 1 = .ok (.getfield 59, 3) := by decide +kernel
theorem d_Page_home_4 : decode b_Page_home 4 = .ok (.aload_n 0, 1) := by decide +kernel
theorem d_Page_home_5 : decode b_Page_home 5 = .ok (.getfield 34, 3) := by decide +kernel
theorem d_Page_home_8 : decode b_Page_home 8 = .ok (.iconst 3, 1) := by decide +kernel
theorem d_Page_home_9 : decode b_Page_home 9 = .ok (.imul, 1) := by decide +kernel
theorem d_Page_home_10 : decode b_Page_home 10 = .ok (.iconst 4, 1) := by decide +kernel
theorem d_Page_home_11 : decode b_Page_home 11 = .ok (.idiv, 1) := by decide +kernel
theorem d_Page_home_12 : decode b_Page_home 12 = .ok (.iadd, 1) := by decide +kernel
theorem d_Page_home_13 : decode b_Page_home 13 = .ok (.ireturn, 1) := by decide +kernel
abbrev b_Page_setX : ByteArray := prog_8_method_17_code
abbrev y_Page_setX : MethodName := ⟨"SheetPrinter$Page", "setX", "(J)V"⟩
abbrev w_Page_setX : List Cond := .code y_Page_setX b_Page_setX 3 none :: gT
theorem gd_Page_setX : GoodIn gT w_Page_setX := gW wd_1_75
theorem d_Page_setX_0 : decode b_Page_setX 0 = .ok (.aload_n 0, 1) := by decide +kernel
theorem d_Page_setX_1 : decode b_Page_setX 1 = .ok (.lconst 0, 1) := by decide +kernel
theorem d_Page_setX_2 : decode b_Page_setX 2 = .ok (.aload_n 0, 1) := by decide +kernel
theorem d_Page_setX_3 : decode b_Page_setX 3 = .ok (.invokevirtual 72, 3) := by decide +kernel
theorem d_Page_setX_6 : decode b_Page_setX 6 = .ok (.i2l, 1) := by decide +kernel
theorem d_Page_setX_7 : decode b_Page_setX 7 = .ok (.lload_n 1, 1) := by decide +kernel
theorem d_Page_setX_8 : decode b_Page_setX 8 = .ok (.invokestatic 115, 3) := by decide +kernel
theorem d_Page_setX_11 : decode b_Page_setX 11 = .ok (.invokestatic 119, 3) := by decide +kernel
theorem d_Page_setX_14 : decode b_Page_setX 14 = .ok (.l2i, 1) := by decide +kernel
theorem d_Page_setX_15 : decode b_Page_setX 15 = .ok (.putfield 121, 3) := by decide +kernel
theorem d_Page_setX_18 : decode b_Page_setX 18 = .ok (.return_, 1) := by decide +kernel
abbrev b_Page_setY : ByteArray := prog_8_method_18_code
abbrev y_Page_setY : MethodName := ⟨"SheetPrinter$Page", "setY", "(J)V"⟩
abbrev w_Page_setY : List Cond := .code y_Page_setY b_Page_setY 3 none :: gT
theorem gd_Page_setY : GoodIn gT w_Page_setY := gW wd_1_89
theorem d_Page_setY_0 : decode b_Page_setY 0 = .ok (.aload_n 0, 1) := by decide +kernel
theorem d_Page_setY_1 : decode b_Page_setY 1 = .ok (.lconst 0, 1) := by decide +kernel
theorem d_Page_setY_2 : decode b_Page_setY 2 = .ok (.aload_n 0, 1) := by decide +kernel
theorem d_Page_setY_3 : decode b_Page_setY 3 = .ok (.invokevirtual 62, 3) := by decide +kernel
theorem d_Page_setY_6 : decode b_Page_setY 6 = .ok (.i2l, 1) := by decide +kernel
theorem d_Page_setY_7 : decode b_Page_setY 7 = .ok (.lload_n 1, 1) := by decide +kernel
theorem d_Page_setY_8 : decode b_Page_setY 8 = .ok (.invokestatic 115, 3) := by decide +kernel
theorem d_Page_setY_11 : decode b_Page_setY 11 = .ok (.invokestatic 119, 3) := by decide +kernel
theorem d_Page_setY_14 : decode b_Page_setY 14 = .ok (.l2i, 1) := by decide +kernel
theorem d_Page_setY_15 : decode b_Page_setY 15 = .ok (.putfield 124, 3) := by decide +kernel
theorem d_Page_setY_18 : decode b_Page_setY 18 = .ok (.return_, 1) := by decide +kernel
abbrev b_Page_setDefaults : ByteArray := prog_8_method_3_code
abbrev y_Page_setDefaults : MethodName := ⟨"SheetPrinter$Page", "setDefaults", "()V"⟩
abbrev w_Page_setDefaults : List Cond := .code y_Page_setDefaults b_Page_setDefaults 1 none :: gT
theorem gd_Page_setDefaults : GoodIn gT w_Page_setDefaults := gW wd_1_51
theorem d_Page_setDefaults_0 : decode b_Page_setDefaults 0 = .ok (.aload_n 0, 1) := by decide +kernel
theorem d_Page_setDefaults_1 : decode b_Page_setDefaults 1 = .ok (.sipush 3600, 3) := by decide +kernel
theorem d_Page_setDefaults_4 : decode b_Page_setDefaults 4 = .ok (.putfield 59, 3) := by decide +kernel
theorem d_Page_setDefaults_7 : decode b_Page_setDefaults 7 = .ok (.aload_n 0, 1) := by decide +kernel
theorem d_Page_setDefaults_8 : decode b_Page_setDefaults 8 = .ok (.aload_n 0, 1) := by decide +kernel
theorem d_Page_setDefaults_9 : decode b_Page_setDefaults 9 = .ok (.invokevirtual 62, 3) := by decide +kernel
theorem d_Page_setDefaults_12 : decode b_Page_setDefaults 12 = .ok (.sipush 7200, 3) := by decide +kernel
theorem d_Page_setDefaults_15 : decode b_Page_setDefaults 15 = .ok (.isub, 1) := by decide +kernel
theorem d_Page_setDefaults_16 : decode b_Page_setDefaults 16 = .ok (.putfield 66, 3) := by decide +kernel
theorem d_Page_setDefaults_19 : decode b_Page_setDefaults 19 = .ok (.aload_n 0, 1) := by decide +kernel
theorem d_Page_setDefaults_20 : decode b_Page_setDefaults 20 = .ok (.iconst 0, 1) := by decide +kernel
theorem d_Page_setDefaults_21 : decode b_Page_setDefaults 21 = .ok (.putfield 69, 3) := by decide +kernel
theorem d_Page_setDefaults_24 : decode b_Page_setDefaults 24 = .ok (.aload_n 0, 1) := by decide +kernel
theorem d_Page_setDefaults_25 : decode b_Page_setDefaults 25 = .ok (.aload_n 0, 1) := by decide +kernel
theorem d_Page_setDefaults_26 : decode b_Page_setDefaults 26 = .ok (.invokevirtual 72, 3) := by decide +kernel
theorem d_Page_setDefaults_29 : decode b_Page_setDefaults 29 = .ok (.putfield 75, 3) := by decide +kernel
theorem d_Page_setDefaults_32 : decode b_Page_setDefaults 32 = .ok (.aload_n 0, 1) := by decide +kernel
theorem d_Page_setDefaults_33 : decode b_Page_setDefaults 33 = .ok (.lconst 0, 1) := by decide +kernel
theorem d_Page_setDefaults_34 : decode b_Page_setDefaults 34 = .ok (.invokevirtual 78, 3) := by decide +kernel
theorem d_Page_setDefaults_37 : decode b_Page_setDefaults 37 = .ok (.aload_n 0, 1) := by decide +kernel
theorem d_Page_setDefaults_38 : decode b_Page_setDefaults 38 = .ok (.aload_n 0, 1) := by decide +kernel
theorem d_Page_setDefaults_39 : decode b_Page_setDefaults 39 = .ok (.invokevirtual 82, 3) := by decide +kernel
theorem d_Page_setDefaults_42 : decode b_Page_setDefaults 42 = .ok (.i2l, 1) := by decide +kernel
theorem d_Page_setDefaults_43 : decode b_Page_setDefaults 43 = .ok (.invokevirtual 85, 3) := by decide +kernel
theorem d_Page_setDefaults_46 : decode b_Page_setDefaults 46 = .ok (.return_, 1) := by decide +kernel
abbrev b_Page_reset : ByteArray := prog_8_method_2_code
abbrev y_Page_reset : MethodName := ⟨"SheetPrinter$Page", "reset", "()V"⟩
abbrev w_Page_reset : List Cond := .code y_Page_reset b_Page_reset 1 none :: gT
theorem gd_Page_reset : GoodIn gT w_Page_reset := gW wd_1_47
theorem d_Page_reset_0 : decode b_Page_reset 0 = .ok (.aload_n 0, 1) := by decide +kernel
theorem d_Page_reset_1 : decode b_Page_reset 1 = .ok (.iconst 1, 1) := by decide +kernel
theorem d_Page_reset_2 : decode b_Page_reset 2 = .ok (.putfield 25, 3) := by decide +kernel
theorem d_Page_reset_5 : decode b_Page_reset 5 = .ok (.aload_n 0, 1) := by decide +kernel
theorem d_Page_reset_6 : decode b_Page_reset 6 = .ok (.iconst 0, 1) := by decide +kernel
theorem d_Page_reset_7 : decode b_Page_reset 7 = .ok (.putfield 28, 3) := by decide +kernel
theorem d_Page_reset_10 : decode b_Page_reset 10 = .ok (.aload_n 0, 1) := by decide +kernel
theorem d_Page_reset_11 : decode b_Page_reset 11 = .ok (.sipush 720, 3) := by decide +kernel
theorem d_Page_reset_14 : decode b_Page_reset 14 = .ok (.putfield 31, 3) := by decide +kernel
theorem d_Page_reset_17 : decode b_Page_reset 17 = .ok (.aload_n 0, 1) := by decide +kernel
theorem d_Page_reset_18 : decode b_Page_reset 18 = .ok (.sipush 1200, 3) := by decide +kernel
theorem d_Page_reset_21 : decode b_Page_reset 21 = .ok (.putfield 34, 3) := by decide +kernel
theorem d_Page_reset_24 : decode b_Page_reset 24 = .ok (.aload_n 0, 1) := by decide +kernel
theorem d_Page_reset_25 : decode b_Page_reset 25 = .ok (.iconst 0, 1) := by decide +kernel
theorem d_Page_reset_26 : decode b_Page_reset 26 = .ok (.putfield 37, 3) := by decide +kernel
theorem d_Page_reset_29 : decode b_Page_reset 29 = .ok (.aload_n 0, 1) := by decide +kernel
theorem d_Page_reset_30 : decode b_Page_reset 30 = .ok (.iconst 0, 1) := by decide +kernel
theorem d_Page_reset_31 : decode b_Page_reset 31 = .ok (.putfield 41, 3) := by decide +kernel
theorem d_Page_reset_34 : decode b_Page_reset 34 = .ok (.aload_n 0, 1) := by decide +kernel
theorem d_Page_reset_35 : decode b_Page_reset 35 = .ok (.iconst 0, 1) := by decide +kernel
theorem d_Page_reset_36 : decode b_Page_reset 36 = .ok (.putfield 44, 3) := by decide +kernel
theorem d_Page_reset_39 : decode b_Page_reset 39 = .ok (.aload_n 0, 1) := by decide +kernel
theorem d_Page_reset_40 : decode b_Page_reset 40 = .ok (.iconst 1, 1) := by decide +kernel
theorem d_Page_reset_41 : decode b_Page_reset 41 = .ok (.putfield 47, 3) := by decide +kernel
theorem d_Page_reset_44 : decode b_Page_reset 44 = .ok (.aload_n 0, 1) := by decide +kernel
theorem d_Page_reset_45 : decode b_Page_reset 45 = .ok (.iconst 0, 1) := by decide +kernel
theorem d_Page_reset_46 : decode b_Page_reset 46 = .ok (.putfield 50, 3) := by decide +kernel
theorem d_Page_reset_49 : decode b_Page_reset 49 = .ok (.aload_n 0, 1) := by decide +kernel
theorem d_Page_reset_50 : decode b_Page_reset 50 = .ok (.iconst 0, 1) := by decide +kernel
theorem d_Page_reset_51 : decode b_Page_reset 51 = .ok (.putfield 53, 3) := by decide +kernel
theorem d_Page_reset_54 : decode b_Page_reset 54 = .ok (.aload_n 0, 1) := by decide +kernel
theorem d_Page_reset_55 : decode b_Page_reset 55 = .ok (.invokevirtual 56, 3) := by decide +kernel
theorem d_Page_reset_58 : decode b_Page_reset 58 = .ok (.return_, 1) := by decide +kernel
abbrev b_Page_init : ByteArray := prog_8_method_1_code
abbrev y_Page_init : MethodName := ⟨"SheetPrinter$Page", "<init>", "(I)V"⟩
abbrev w_Page_init : List Cond := .code y_Page_init b_Page_init 2 none :: gT
theorem gd_Page_init : GoodIn gT w_Page_init := gW wd_1_42
theorem d_Page_init_0 : decode b_Page_init 0 = .ok (.aload_n 0, 1) := by decide +kernel
theorem d_Page_init_1 : decode b_Page_init 1 = .ok (.invokespecial 5, 3) := by decide +kernel
theorem d_Page_init_4 : decode b_Page_init 4 = .ok (.aload_n 0, 1) := by decide +kernel
theorem d_Page_init_5 : decode b_Page_init 5 = .ok (.bipush 40, 2) := by decide +kernel
theorem d_Page_init_7 : decode b_Page_init 7 = .ok (.newarray .int, 2) := by decide +kernel
theorem d_Page_init_9 : decode b_Page_init 9 = .ok (.putfield 11, 3) := by decide +kernel
theorem d_Page_init_12 : decode b_Page_init 12 = .ok (.aload_n 0, 1) := by decide +kernel
theorem d_Page_init_13 : decode b_Page_init 13 = .ok (.bipush 106, 2) := by decide +kernel
theorem d_Page_init_15 : decode b_Page_init 15 = .ok (.newarray .int, 2) := by decide +kernel
theorem d_Page_init_17 : decode b_Page_init 17 = .ok (.putfield 15, 3) := by decide +kernel
theorem d_Page_init_20 : decode b_Page_init 20 = .ok (.aload_n 0, 1) := by decide +kernel
theorem d_Page_init_21 : decode b_Page_init 21 = .ok (.iload_n 1, 1) := by decide +kernel
theorem d_Page_init_22 : decode b_Page_init 22 = .ok (.putfield 18, 3) := by decide +kernel
theorem d_Page_init_25 : decode b_Page_init 25 = .ok (.aload_n 0, 1) := by decide +kernel
theorem d_Page_init_26 : decode b_Page_init 26 = .ok (.invokevirtual 22, 3) := by decide +kernel
theorem d_Page_init_29 : decode b_Page_init 29 = .ok (.return_, 1) := by decide +kernel
abbrev b_Page_sizeNumber : ByteArray := prog_8_method_4_code
abbrev y_Page_sizeNumber : MethodName := ⟨"SheetPrinter$Page", "sizeNumber", "()I"⟩
abbrev w_Page_sizeNumber : List Cond := .code y_Page_sizeNumber b_Page_sizeNumber 1 (some .int) :: gT
theorem gd_Page_sizeNumber : GoodIn gT w_Page_sizeNumber := gW wd_5_199
theorem d_Page_sizeNumber_0 : decode b_Page_sizeNumber 0 = .ok (.aload_n 0, 1) := by decide +kernel
theorem d_Page_sizeNumber_1 : decode b_Page_sizeNumber 1 = .ok (.getstatic 88, 3) := by decide +kernel
theorem d_Page_sizeNumber_4 : decode b_Page_sizeNumber 4 = .ok (.invokevirtual 91, 3) := by decide +kernel
theorem d_Page_sizeNumber_7 : decode b_Page_sizeNumber 7 = .ok (.ireturn, 1) := by decide +kernel
def pg_W (k : Nat) (o : Int32) : Int32 := if o &&& 1 = 1 then tb_Page_DOWN k - 2880 else tb_Page_ACROSS k - 3600
def pg_H (k : Nat) (o : Int32) : Int32 := if o &&& 1 = 1 then tb_Page_ACROSS k else tb_Page_DOWN k
def pg_cl (w : Int32) (q : Int64) : Int32 := (if (if q < w.toInt64 then q else w.toInt64) < 0 then 0 else (if q < w.toInt64 then q else w.toInt64)).toInt32
def pg_home (t v : Int32) : Int32 := t + v * 3 / 4

abbrev at_c_onSide (dC : Nat → ClassId) (dI : Nat → Nat → Nat) (h0 : Nat) (p_dpi : Int32) (p_size : Int32) (p_orientation : Int32) (p_copies : Int32) (p_top : Int32) (p_length : Int32) (p_left : Int32) (p_right : Int32) (p_stepAcross : Int32) (p_stepDown : Int32) (p_x : Int32) (p_y : Int32) (p_wrap : Int32) (p_skip : Int32) (p_lineEnd : Int32) (p_font : Int32) (p_stack : Nat) (p_stacked : Int32) (p_kept : Nat) (A : Nat → Prop) (u : Unit) (t : State) : Prop := match u with
  | _ => va_P (dC, dI) vcl [(h0, .inr (8, [.int p_dpi, .int p_size, .int p_orientation, .int p_copies, .int p_top, .int p_length, .int p_left, .int p_right, .int p_stepAcross, .int p_stepDown, .int p_x, .int p_y, .int p_wrap, .int p_skip, .int p_lineEnd, .int p_font, .ref p_stack, .int p_stacked, .ref p_kept]))] t.heap ∧ va_K (dC, dI) vcl [] t ∧ va_D A [(h0, .inr (8, [.int p_dpi, .int p_size, .int p_orientation, .int p_copies, .int p_top, .int p_length, .int p_left, .int p_right, .int p_stepAcross, .int p_stepDown, .int p_x, .int p_y, .int p_wrap, .int p_skip, .int p_lineEnd, .int p_font, .ref p_stack, .int p_stacked, .ref p_kept]))]
abbrev po_c_onSide (h0 : Nat) (p_dpi : Int32) (p_size : Int32) (p_orientation : Int32) (p_copies : Int32) (p_top : Int32) (p_length : Int32) (p_left : Int32) (p_right : Int32) (p_stepAcross : Int32) (p_stepDown : Int32) (p_x : Int32) (p_y : Int32) (p_wrap : Int32) (p_skip : Int32) (p_lineEnd : Int32) (p_font : Int32) (p_stack : Nat) (p_stacked : Int32) (p_kept : Nat) (r : Int32) (u : Unit) : Prop := match u with
  | _ => r = if p_orientation &&& 1 = 1 then 1 else 0
abbrev q_c_onSide (dC : Nat → ClassId) (dI : Nat → Nat → Nat) (h0 : Nat) (p_dpi : Int32) (p_size : Int32) (p_orientation : Int32) (p_copies : Int32) (p_top : Int32) (p_length : Int32) (p_left : Int32) (p_right : Int32) (p_stepAcross : Int32) (p_stepDown : Int32) (p_x : Int32) (p_y : Int32) (p_wrap : Int32) (p_skip : Int32) (p_lineEnd : Int32) (p_font : Int32) (p_stack : Nat) (p_stacked : Int32) (p_kept : Nat) (A : Nat → Prop) : Array Value → State → Outcome → State → Prop := va_Qi (po_c_onSide h0 p_dpi p_size p_orientation p_copies p_top p_length p_left p_right p_stepAcross p_stepDown p_x p_y p_wrap p_skip p_lineEnd p_font p_stack p_stacked p_kept) (at_c_onSide dC dI h0 p_dpi p_size p_orientation p_copies p_top p_length p_left p_right p_stepAcross p_stepDown p_x p_y p_wrap p_skip p_lineEnd p_font p_stack p_stacked p_kept A) A
abbrev rm_c_onSide : Room := { frames := 0, cells := 0, slots := 0, locals := 0 }
set_option maxHeartbeats 4000000 in
set_option maxRecDepth 100000 in
/-- onSide() -/
theorem c_onSide (l : Launch) (dC : Nat → ClassId) (dI : Nat → Nat → Nat) (tt : Nat → Nat) (h0 : Nat) (p_dpi : Int32) (p_size : Int32) (p_orientation : Int32) (p_copies : Int32) (p_top : Int32) (p_length : Int32) (p_left : Int32) (p_right : Int32) (p_stepAcross : Int32) (p_stepDown : Int32) (p_x : Int32) (p_y : Int32) (p_wrap : Int32) (p_skip : Int32) (p_lineEnd : Int32) (p_font : Int32) (p_stack : Nat) (p_stacked : Int32) (p_kept : Nat) (sz : Nat)  : Met l y_Page_onSide w_Page_onSide rm_c_onSide (va_Pc [.ref h0] (fun U => U.heap.size = sz ∧ va_P (dC, dI) vcl [(h0, .inr (8, [.int p_dpi, .int p_size, .int p_orientation, .int p_copies, .int p_top, .int p_length, .int p_left, .int p_right, .int p_stepAcross, .int p_stepDown, .int p_x, .int p_y, .int p_wrap, .int p_skip, .int p_lineEnd, .int p_font, .ref p_stack, .int p_stacked, .ref p_kept]))] U.heap ∧ va_K (dC, dI) vcl [] U ∧ va_D (fun _ => True) [(h0, .inr (8, [.int p_dpi, .int p_size, .int p_orientation, .int p_copies, .int p_top, .int p_length, .int p_left, .int p_right, .int p_stepAcross, .int p_stepDown, .int p_x, .int p_y, .int p_wrap, .int p_skip, .int p_lineEnd, .int p_font, .ref p_stack, .int p_stacked, .ref p_kept]))] ∧ SF tt (va_A [(h0, .inr (8, [.int p_dpi, .int p_size, .int p_orientation, .int p_copies, .int p_top, .int p_length, .int p_left, .int p_right, .int p_stepAcross, .int p_stepDown, .int p_x, .int p_y, .int p_wrap, .int p_skip, .int p_lineEnd, .int p_font, .ref p_stack, .int p_stacked, .ref p_kept]))] sz) U U.heap)) (q_c_onSide dC dI h0 p_dpi p_size p_orientation p_copies p_top p_length p_left p_right p_stepAcross p_stepDown p_x p_y p_wrap p_skip p_lineEnd p_font p_stack p_stacked p_kept (va_A [(h0, .inr (8, [.int p_dpi, .int p_size, .int p_orientation, .int p_copies, .int p_top, .int p_length, .int p_left, .int p_right, .int p_stepAcross, .int p_stepDown, .int p_x, .int p_y, .int p_wrap, .int p_skip, .int p_lineEnd, .int p_font, .ref p_stack, .int p_stacked, .ref p_kept]))] sz)) 0 0 (va_A [(h0, .inr (8, [.int p_dpi, .int p_size, .int p_orientation, .int p_copies, .int p_top, .int p_length, .int p_left, .int p_right, .int p_stepAcross, .int p_stepDown, .int p_x, .int p_y, .int p_wrap, .int p_skip, .int p_lineEnd, .int p_font, .ref p_stack, .int p_stacked, .ref p_kept]))] sz) := by
  refine Met.ofW (cc := b_Page_onSide) (maxL := 1) (ret := (some .boolean)) (by decide) rfl ?_
  intro p e s m args below meth c s₁ B hml hv
  obtain ⟨rfl, hsz, hP, hK, hD0, hF⟩ := hv
  have hx := B.exec
  have hb := B.bytes
  have hr := B.returns
  have hwd : ∀ w ∈ gT, w.before _ s = true := fun w h => atoms_spec (ws := w_Page_onSide) B.pre w (List.mem_cons_of_mem _ h)
  have hown : s.vm.findClass R_Page = some m.cls := findClass_of_methodNamed B.named
  have hlocks := B.notSynchronized
  subst hsz
  have hD := hD0.self (sz := s.heap.size)
  generalize hAe : va_A [(h0, .inr (8, [.int p_dpi, .int p_size, .int p_orientation, .int p_copies, .int p_top, .int p_length, .int p_left, .int p_right, .int p_stepAcross, .int p_stepDown, .int p_x, .int p_y, .int p_wrap, .int p_skip, .int p_lineEnd, .int p_font, .ref p_stack, .int p_stacked, .ref p_kept]))] s.heap.size = A at hD hF ⊢
  have hA : ∀ q : Nat, s.heap.size ≤ q → A q := fun q h => by rw [← hAe]; exact Or.inr h
  have hS : va_S A s.heap s.heap [] := va_S.rf
  have hP : va_P (dC, dI) vcl [(h0, .inr (8, [.int p_dpi, .int p_size, .int p_orientation, .int p_copies, .int p_top, .int p_length, .int p_left, .int p_right, .int p_stepAcross, .int p_stepDown, .int p_x, .int p_y, .int p_wrap, .int p_skip, .int p_lineEnd, .int p_font, .ref p_stack, .int p_stacked, .ref p_kept]))] s.heap := hP
  have hl := lv_entry ([.ref h0]) (n := 1) (Nat.le_of_ble_eq_true rfl)
  rw [lg_entry_eq]
  generalize (lg_sl ([.ref h0]) ++ List.replicate (1 - (lg_sl ([.ref h0])).length) Slot.unset).toArray = ls at hl ⊢
  have hl : lv_has ls 1 [(0, .ref h0)] := hl
  refine lv_aload_n hx hb d_Page_onSide_0 rfl (lv_at hl 0 rfl) ?_
  refine va_get (D := (dC, dI)) (ci := 8) (v := .int p_orientation) (C := R_Page) (T := F_Page) (N := 19) hx hb hwd i_Page hown hK hP 0 rfl rfl 2 (by decide) (hwd _ wd_1_94) (fun _ h9 => h9) rfl d_Page_onSide_1 ?_
  refine lv_iconst (v := 1) hx hb d_Page_onSide_4 (by decide) ?_
  refine lv_iand hx hb d_Page_onSide_5 ?_
  refine lv_iconst (v := 1) hx hb d_Page_onSide_6 (by decide) ?_
  refine lv_icmp_ne (tgt := 14) hx hb d_Page_onSide_7 (by decide) (fun c7 => ?_) (fun c7 => ?_)
  · refine lv_iconst (v := 0) hx hb d_Page_onSide_14 (by decide) ?_
    have hP9 := hP.sub (ws' := [(h0, .inr (8, [.int p_dpi, .int p_size, .int p_orientation, .int p_copies, .int p_top, .int p_length, .int p_left, .int p_right, .int p_stepAcross, .int p_stepDown, .int p_x, .int p_y, .int p_wrap, .int p_skip, .int p_lineEnd, .int p_font, .ref p_stack, .int p_stacked, .ref p_kept]))]) [0] rfl
    have hD9 := hD.sub (ws' := [(h0, .inr (8, [.int p_dpi, .int p_size, .int p_orientation, .int p_copies, .int p_top, .int p_length, .int p_left, .int p_right, .int p_stepAcross, .int p_stepDown, .int p_x, .int p_y, .int p_wrap, .int p_skip, .int p_lineEnd, .int p_font, .ref p_stack, .int p_stacked, .ref p_kept]))]) [0] (by decide) rfl
    have hK9 := hK.sub (tys' := []) [] rfl
    exact W.zret (v := 0) hx hb hr (by decide) (fun t ht hW => ⟨⟨0, (), rfl, (show (0 : Int32) = if p_orientation &&& 1 = 1 then 1 else 0 from (by rw [if_neg c7])), by rw [ht]; exact hP9, va_K.moved hW.alike hK9, hD9⟩, hS.F ht⟩) hS.2.2 d_Page_onSide_15
  · refine lv_iconst (v := 1) hx hb d_Page_onSide_10 (by decide) ?_
    refine lv_goto (tgt := 15) hx hb d_Page_onSide_11 (by decide) ?_
    have hP9 := hP.sub (ws' := [(h0, .inr (8, [.int p_dpi, .int p_size, .int p_orientation, .int p_copies, .int p_top, .int p_length, .int p_left, .int p_right, .int p_stepAcross, .int p_stepDown, .int p_x, .int p_y, .int p_wrap, .int p_skip, .int p_lineEnd, .int p_font, .ref p_stack, .int p_stacked, .ref p_kept]))]) [0] rfl
    have hD9 := hD.sub (ws' := [(h0, .inr (8, [.int p_dpi, .int p_size, .int p_orientation, .int p_copies, .int p_top, .int p_length, .int p_left, .int p_right, .int p_stepAcross, .int p_stepDown, .int p_x, .int p_y, .int p_wrap, .int p_skip, .int p_lineEnd, .int p_font, .ref p_stack, .int p_stacked, .ref p_kept]))]) [0] (by decide) rfl
    have hK9 := hK.sub (tys' := []) [] rfl
    exact W.zret (v := 1) hx hb hr (by decide) (fun t ht hW => ⟨⟨1, (), rfl, (show (1 : Int32) = if p_orientation &&& 1 = 1 then 1 else 0 from (by rw [if_pos c7])), by rw [ht]; exact hP9, va_K.moved hW.alike hK9, hD9⟩, hS.F ht⟩) hS.2.2 d_Page_onSide_15

abbrev at_c_ofSize_DOWN (dC : Nat → ClassId) (dI : Nat → Nat → Nat) (h0 : Nat) (p_dpi : Int32) (p_size : Int32) (p_orientation : Int32) (p_copies : Int32) (p_top : Int32) (p_length : Int32) (p_left : Int32) (p_right : Int32) (p_stepAcross : Int32) (p_stepDown : Int32) (p_x : Int32) (p_y : Int32) (p_wrap : Int32) (p_skip : Int32) (p_lineEnd : Int32) (p_font : Int32) (p_stack : Nat) (p_stacked : Int32) (p_kept : Nat) (k : Nat) (A : Nat → Prop) (u : Unit) (t : State) : Prop := match u with
  | _ => va_P (dC, dI) vcl [(h0, .inr (8, [.int p_dpi, .int p_size, .int p_orientation, .int p_copies, .int p_top, .int p_length, .int p_left, .int p_right, .int p_stepAcross, .int p_stepDown, .int p_x, .int p_y, .int p_wrap, .int p_skip, .int p_lineEnd, .int p_font, .ref p_stack, .int p_stacked, .ref p_kept]))] t.heap ∧ va_K (dC, dI) vcl [] t ∧ va_D A [(h0, .inr (8, [.int p_dpi, .int p_size, .int p_orientation, .int p_copies, .int p_top, .int p_length, .int p_left, .int p_right, .int p_stepAcross, .int p_stepDown, .int p_x, .int p_y, .int p_wrap, .int p_skip, .int p_lineEnd, .int p_font, .ref p_stack, .int p_stacked, .ref p_kept]))]
abbrev po_c_ofSize_DOWN (h0 : Nat) (p_dpi : Int32) (p_size : Int32) (p_orientation : Int32) (p_copies : Int32) (p_top : Int32) (p_length : Int32) (p_left : Int32) (p_right : Int32) (p_stepAcross : Int32) (p_stepDown : Int32) (p_x : Int32) (p_y : Int32) (p_wrap : Int32) (p_skip : Int32) (p_lineEnd : Int32) (p_font : Int32) (p_stack : Nat) (p_stacked : Int32) (p_kept : Nat) (k : Nat) (r : Int32) (u : Unit) : Prop := match u with
  | _ => r = tb_Page_DOWN k
abbrev q_c_ofSize_DOWN (dC : Nat → ClassId) (dI : Nat → Nat → Nat) (h0 : Nat) (p_dpi : Int32) (p_size : Int32) (p_orientation : Int32) (p_copies : Int32) (p_top : Int32) (p_length : Int32) (p_left : Int32) (p_right : Int32) (p_stepAcross : Int32) (p_stepDown : Int32) (p_x : Int32) (p_y : Int32) (p_wrap : Int32) (p_skip : Int32) (p_lineEnd : Int32) (p_font : Int32) (p_stack : Nat) (p_stacked : Int32) (p_kept : Nat) (k : Nat) (A : Nat → Prop) : Array Value → State → Outcome → State → Prop := va_Qi (po_c_ofSize_DOWN h0 p_dpi p_size p_orientation p_copies p_top p_length p_left p_right p_stepAcross p_stepDown p_x p_y p_wrap p_skip p_lineEnd p_font p_stack p_stacked p_kept k) (at_c_ofSize_DOWN dC dI h0 p_dpi p_size p_orientation p_copies p_top p_length p_left p_right p_stepAcross p_stepDown p_x p_y p_wrap p_skip p_lineEnd p_font p_stack p_stacked p_kept k A) A
abbrev rm_c_ofSize_DOWN : Room := { frames := 0, cells := 0, slots := 0, locals := 0 }
set_option maxHeartbeats 4000000 in
set_option maxRecDepth 100000 in
theorem c_ofSize_DOWN (l : Launch) (dC : Nat → ClassId) (dI : Nat → Nat → Nat) (tt : Nat → Nat) (h0 : Nat) (p_dpi : Int32) (p_size : Int32) (p_orientation : Int32) (p_copies : Int32) (p_top : Int32) (p_length : Int32) (p_left : Int32) (p_right : Int32) (p_stepAcross : Int32) (p_stepDown : Int32) (p_x : Int32) (p_y : Int32) (p_wrap : Int32) (p_skip : Int32) (p_lineEnd : Int32) (p_font : Int32) (p_stack : Nat) (p_stacked : Int32) (p_kept : Nat) (k : Nat) (sz : Nat) (hs : p_size = nI k) (hk : k < 5) : Met l y_Page_ofSize w_Page_ofSize rm_c_ofSize_DOWN (va_Pc [.ref h0, .ref (tt 1)] (fun U => U.heap.size = sz ∧ va_P (dC, dI) vcl [(h0, .inr (8, [.int p_dpi, .int p_size, .int p_orientation, .int p_copies, .int p_top, .int p_length, .int p_left, .int p_right, .int p_stepAcross, .int p_stepDown, .int p_x, .int p_y, .int p_wrap, .int p_skip, .int p_lineEnd, .int p_font, .ref p_stack, .int p_stacked, .ref p_kept]))] U.heap ∧ va_K (dC, dI) vcl [] U ∧ va_D (fun _ => True) [(h0, .inr (8, [.int p_dpi, .int p_size, .int p_orientation, .int p_copies, .int p_top, .int p_length, .int p_left, .int p_right, .int p_stepAcross, .int p_stepDown, .int p_x, .int p_y, .int p_wrap, .int p_skip, .int p_lineEnd, .int p_font, .ref p_stack, .int p_stacked, .ref p_kept]))] ∧ SF tt (va_A [(h0, .inr (8, [.int p_dpi, .int p_size, .int p_orientation, .int p_copies, .int p_top, .int p_length, .int p_left, .int p_right, .int p_stepAcross, .int p_stepDown, .int p_x, .int p_y, .int p_wrap, .int p_skip, .int p_lineEnd, .int p_font, .ref p_stack, .int p_stacked, .ref p_kept]))] sz) U U.heap)) (q_c_ofSize_DOWN dC dI h0 p_dpi p_size p_orientation p_copies p_top p_length p_left p_right p_stepAcross p_stepDown p_x p_y p_wrap p_skip p_lineEnd p_font p_stack p_stacked p_kept k (va_A [(h0, .inr (8, [.int p_dpi, .int p_size, .int p_orientation, .int p_copies, .int p_top, .int p_length, .int p_left, .int p_right, .int p_stepAcross, .int p_stepDown, .int p_x, .int p_y, .int p_wrap, .int p_skip, .int p_lineEnd, .int p_font, .ref p_stack, .int p_stacked, .ref p_kept]))] sz)) 0 0 (va_A [(h0, .inr (8, [.int p_dpi, .int p_size, .int p_orientation, .int p_copies, .int p_top, .int p_length, .int p_left, .int p_right, .int p_stepAcross, .int p_stepDown, .int p_x, .int p_y, .int p_wrap, .int p_skip, .int p_lineEnd, .int p_font, .ref p_stack, .int p_stacked, .ref p_kept]))] sz) := by
  refine Met.ofW (cc := b_Page_ofSize) (maxL := 2) (ret := (some .int)) (by decide) rfl ?_
  intro p e s m args below meth c s₁ B hml hv
  obtain ⟨rfl, hsz, hP, hK, hD0, hF⟩ := hv
  have hx := B.exec
  have hb := B.bytes
  have hr := B.returns
  have hwd : ∀ w ∈ gT, w.before _ s = true := fun w h => atoms_spec (ws := w_Page_ofSize) B.pre w (List.mem_cons_of_mem _ h)
  have hown : s.vm.findClass R_Page = some m.cls := findClass_of_methodNamed B.named
  have hlocks := B.notSynchronized
  subst hsz
  have hD := hD0.self (sz := s.heap.size)
  generalize hAe : va_A [(h0, .inr (8, [.int p_dpi, .int p_size, .int p_orientation, .int p_copies, .int p_top, .int p_length, .int p_left, .int p_right, .int p_stepAcross, .int p_stepDown, .int p_x, .int p_y, .int p_wrap, .int p_skip, .int p_lineEnd, .int p_font, .ref p_stack, .int p_stacked, .ref p_kept]))] s.heap.size = A at hD hF ⊢
  have hA : ∀ q : Nat, s.heap.size ≤ q → A q := fun q h => by rw [← hAe]; exact Or.inr h
  have hS : va_S A s.heap s.heap [] := va_S.rf
  have hP : va_P (dC, dI) vcl [(h0, .inr (8, [.int p_dpi, .int p_size, .int p_orientation, .int p_copies, .int p_top, .int p_length, .int p_left, .int p_right, .int p_stepAcross, .int p_stepDown, .int p_x, .int p_y, .int p_wrap, .int p_skip, .int p_lineEnd, .int p_font, .ref p_stack, .int p_stacked, .ref p_kept]))] s.heap := hP
  have hl := lv_entry ([.ref h0, .ref (tt 1)]) (n := 2) (Nat.le_of_ble_eq_true rfl)
  rw [lg_entry_eq]
  generalize (lg_sl ([.ref h0, .ref (tt 1)]) ++ List.replicate (2 - (lg_sl ([.ref h0, .ref (tt 1)])).length) Slot.unset).toArray = ls at hl ⊢
  have hl : lv_has ls 2 [(0, .ref h0), (1, .ref (tt 1))] := hl
  refine lv_aload_n hx hb d_Page_ofSize_0 rfl (lv_at hl 0 rfl) ?_
  refine va_get (D := (dC, dI)) (ci := 8) (v := .int p_size) (C := R_Page) (T := F_Page) (N := 19) hx hb hwd i_Page hown hK hP 0 rfl rfl 1 (by decide) (hwd _ wd_1_93) (fun _ h9 => h9) rfl d_Page_ofSize_1 ?_
  refine lv_if_lt (tgt := 25) hx hb d_Page_ofSize_4 (by decide) (fun c4 => absurd c4 (by rw [hs]; exact nI_pos (by omega))) (fun c4 => ?_)
  refine lv_aload_n hx hb d_Page_ofSize_7 rfl (lv_at hl 0 rfl) ?_
  refine va_get (D := (dC, dI)) (ci := 8) (v := .int p_size) (C := R_Page) (T := F_Page) (N := 19) hx hb hwd i_Page hown hK hP 0 rfl rfl 1 (by decide) (hwd _ wd_1_93) (fun _ h9 => h9) rfl d_Page_ofSize_8 ?_
  refine lv_aload_n hx hb d_Page_ofSize_11 rfl (lv_at hl 1 rfl) ?_
  refine va_tlen (v := 5) hx hb (SF_p1 hF).2 hS rfl d_Page_ofSize_12 ?_
  refine lv_icmp_ge (tgt := 25) hx hb d_Page_ofSize_13 (by decide) (fun c13 => absurd c13 (by rw [hs]; exact nI_ge (a := k) (b := 5) hk (by omega))) (fun c13 => ?_)
  refine lv_aload_n hx hb d_Page_ofSize_16 rfl (lv_at hl 1 rfl) ?_
  refine lv_aload_n hx hb d_Page_ofSize_17 rfl (lv_at hl 0 rfl) ?_
  refine va_get (D := (dC, dI)) (ci := 8) (v := .int p_size) (C := R_Page) (T := F_Page) (N := 19) hx hb hwd i_Page hown hK hP 0 rfl rfl 1 (by decide) (hwd _ wd_1_93) (fun _ h9 => h9) rfl d_Page_ofSize_18 ?_
  refine va_ti (v := .int (tb_Page_DOWN p_size.toNatClampNeg)) hx hb (SF_p1 hF).2 hS (by rw [hs]; exact vp_in_nI hk (by omega)) rfl d_Page_ofSize_21 ?_
  refine lv_topi (fun y_1 ey_1 => ?_)
  obtain rfl : y_1 = tb_Page_DOWN k := ey_1.trans (by rw [hs, nI_clamp (by omega)])
  refine lv_goto (tgt := 26) hx hb d_Page_ofSize_22 (by decide) ?_
  have hP9 := hP.sub (ws' := [(h0, .inr (8, [.int p_dpi, .int p_size, .int p_orientation, .int p_copies, .int p_top, .int p_length, .int p_left, .int p_right, .int p_stepAcross, .int p_stepDown, .int p_x, .int p_y, .int p_wrap, .int p_skip, .int p_lineEnd, .int p_font, .ref p_stack, .int p_stacked, .ref p_kept]))]) [0] rfl
  have hD9 := hD.sub (ws' := [(h0, .inr (8, [.int p_dpi, .int p_size, .int p_orientation, .int p_copies, .int p_top, .int p_length, .int p_left, .int p_right, .int p_stepAcross, .int p_stepDown, .int p_x, .int p_y, .int p_wrap, .int p_skip, .int p_lineEnd, .int p_font, .ref p_stack, .int p_stacked, .ref p_kept]))]) [0] (by decide) rfl
  have hK9 := hK.sub (tys' := []) [] rfl
  exact W.iret (v := tb_Page_DOWN k) hx hb hr (fun t ht hW => ⟨⟨(tb_Page_DOWN k), (), rfl, (show (tb_Page_DOWN k : Int32) = tb_Page_DOWN k from (by first | exact trivial | rfl | simp [*])), by rw [ht]; exact hP9, va_K.moved hW.alike hK9, hD9⟩, hS.F ht⟩) hS.2.2 d_Page_ofSize_26

abbrev at_c_ofSize_ACROSS (dC : Nat → ClassId) (dI : Nat → Nat → Nat) (h0 : Nat) (p_dpi : Int32) (p_size : Int32) (p_orientation : Int32) (p_copies : Int32) (p_top : Int32) (p_length : Int32) (p_left : Int32) (p_right : Int32) (p_stepAcross : Int32) (p_stepDown : Int32) (p_x : Int32) (p_y : Int32) (p_wrap : Int32) (p_skip : Int32) (p_lineEnd : Int32) (p_font : Int32) (p_stack : Nat) (p_stacked : Int32) (p_kept : Nat) (k : Nat) (A : Nat → Prop) (u : Unit) (t : State) : Prop := match u with
  | _ => va_P (dC, dI) vcl [(h0, .inr (8, [.int p_dpi, .int p_size, .int p_orientation, .int p_copies, .int p_top, .int p_length, .int p_left, .int p_right, .int p_stepAcross, .int p_stepDown, .int p_x, .int p_y, .int p_wrap, .int p_skip, .int p_lineEnd, .int p_font, .ref p_stack, .int p_stacked, .ref p_kept]))] t.heap ∧ va_K (dC, dI) vcl [] t ∧ va_D A [(h0, .inr (8, [.int p_dpi, .int p_size, .int p_orientation, .int p_copies, .int p_top, .int p_length, .int p_left, .int p_right, .int p_stepAcross, .int p_stepDown, .int p_x, .int p_y, .int p_wrap, .int p_skip, .int p_lineEnd, .int p_font, .ref p_stack, .int p_stacked, .ref p_kept]))]
abbrev po_c_ofSize_ACROSS (h0 : Nat) (p_dpi : Int32) (p_size : Int32) (p_orientation : Int32) (p_copies : Int32) (p_top : Int32) (p_length : Int32) (p_left : Int32) (p_right : Int32) (p_stepAcross : Int32) (p_stepDown : Int32) (p_x : Int32) (p_y : Int32) (p_wrap : Int32) (p_skip : Int32) (p_lineEnd : Int32) (p_font : Int32) (p_stack : Nat) (p_stacked : Int32) (p_kept : Nat) (k : Nat) (r : Int32) (u : Unit) : Prop := match u with
  | _ => r = tb_Page_ACROSS k
abbrev q_c_ofSize_ACROSS (dC : Nat → ClassId) (dI : Nat → Nat → Nat) (h0 : Nat) (p_dpi : Int32) (p_size : Int32) (p_orientation : Int32) (p_copies : Int32) (p_top : Int32) (p_length : Int32) (p_left : Int32) (p_right : Int32) (p_stepAcross : Int32) (p_stepDown : Int32) (p_x : Int32) (p_y : Int32) (p_wrap : Int32) (p_skip : Int32) (p_lineEnd : Int32) (p_font : Int32) (p_stack : Nat) (p_stacked : Int32) (p_kept : Nat) (k : Nat) (A : Nat → Prop) : Array Value → State → Outcome → State → Prop := va_Qi (po_c_ofSize_ACROSS h0 p_dpi p_size p_orientation p_copies p_top p_length p_left p_right p_stepAcross p_stepDown p_x p_y p_wrap p_skip p_lineEnd p_font p_stack p_stacked p_kept k) (at_c_ofSize_ACROSS dC dI h0 p_dpi p_size p_orientation p_copies p_top p_length p_left p_right p_stepAcross p_stepDown p_x p_y p_wrap p_skip p_lineEnd p_font p_stack p_stacked p_kept k A) A
abbrev rm_c_ofSize_ACROSS : Room := { frames := 0, cells := 0, slots := 0, locals := 0 }
set_option maxHeartbeats 4000000 in
set_option maxRecDepth 100000 in
theorem c_ofSize_ACROSS (l : Launch) (dC : Nat → ClassId) (dI : Nat → Nat → Nat) (tt : Nat → Nat) (h0 : Nat) (p_dpi : Int32) (p_size : Int32) (p_orientation : Int32) (p_copies : Int32) (p_top : Int32) (p_length : Int32) (p_left : Int32) (p_right : Int32) (p_stepAcross : Int32) (p_stepDown : Int32) (p_x : Int32) (p_y : Int32) (p_wrap : Int32) (p_skip : Int32) (p_lineEnd : Int32) (p_font : Int32) (p_stack : Nat) (p_stacked : Int32) (p_kept : Nat) (k : Nat) (sz : Nat) (hs : p_size = nI k) (hk : k < 5) : Met l y_Page_ofSize w_Page_ofSize rm_c_ofSize_ACROSS (va_Pc [.ref h0, .ref (tt 0)] (fun U => U.heap.size = sz ∧ va_P (dC, dI) vcl [(h0, .inr (8, [.int p_dpi, .int p_size, .int p_orientation, .int p_copies, .int p_top, .int p_length, .int p_left, .int p_right, .int p_stepAcross, .int p_stepDown, .int p_x, .int p_y, .int p_wrap, .int p_skip, .int p_lineEnd, .int p_font, .ref p_stack, .int p_stacked, .ref p_kept]))] U.heap ∧ va_K (dC, dI) vcl [] U ∧ va_D (fun _ => True) [(h0, .inr (8, [.int p_dpi, .int p_size, .int p_orientation, .int p_copies, .int p_top, .int p_length, .int p_left, .int p_right, .int p_stepAcross, .int p_stepDown, .int p_x, .int p_y, .int p_wrap, .int p_skip, .int p_lineEnd, .int p_font, .ref p_stack, .int p_stacked, .ref p_kept]))] ∧ SF tt (va_A [(h0, .inr (8, [.int p_dpi, .int p_size, .int p_orientation, .int p_copies, .int p_top, .int p_length, .int p_left, .int p_right, .int p_stepAcross, .int p_stepDown, .int p_x, .int p_y, .int p_wrap, .int p_skip, .int p_lineEnd, .int p_font, .ref p_stack, .int p_stacked, .ref p_kept]))] sz) U U.heap)) (q_c_ofSize_ACROSS dC dI h0 p_dpi p_size p_orientation p_copies p_top p_length p_left p_right p_stepAcross p_stepDown p_x p_y p_wrap p_skip p_lineEnd p_font p_stack p_stacked p_kept k (va_A [(h0, .inr (8, [.int p_dpi, .int p_size, .int p_orientation, .int p_copies, .int p_top, .int p_length, .int p_left, .int p_right, .int p_stepAcross, .int p_stepDown, .int p_x, .int p_y, .int p_wrap, .int p_skip, .int p_lineEnd, .int p_font, .ref p_stack, .int p_stacked, .ref p_kept]))] sz)) 0 0 (va_A [(h0, .inr (8, [.int p_dpi, .int p_size, .int p_orientation, .int p_copies, .int p_top, .int p_length, .int p_left, .int p_right, .int p_stepAcross, .int p_stepDown, .int p_x, .int p_y, .int p_wrap, .int p_skip, .int p_lineEnd, .int p_font, .ref p_stack, .int p_stacked, .ref p_kept]))] sz) := by
  refine Met.ofW (cc := b_Page_ofSize) (maxL := 2) (ret := (some .int)) (by decide) rfl ?_
  intro p e s m args below meth c s₁ B hml hv
  obtain ⟨rfl, hsz, hP, hK, hD0, hF⟩ := hv
  have hx := B.exec
  have hb := B.bytes
  have hr := B.returns
  have hwd : ∀ w ∈ gT, w.before _ s = true := fun w h => atoms_spec (ws := w_Page_ofSize) B.pre w (List.mem_cons_of_mem _ h)
  have hown : s.vm.findClass R_Page = some m.cls := findClass_of_methodNamed B.named
  have hlocks := B.notSynchronized
  subst hsz
  have hD := hD0.self (sz := s.heap.size)
  generalize hAe : va_A [(h0, .inr (8, [.int p_dpi, .int p_size, .int p_orientation, .int p_copies, .int p_top, .int p_length, .int p_left, .int p_right, .int p_stepAcross, .int p_stepDown, .int p_x, .int p_y, .int p_wrap, .int p_skip, .int p_lineEnd, .int p_font, .ref p_stack, .int p_stacked, .ref p_kept]))] s.heap.size = A at hD hF ⊢
  have hA : ∀ q : Nat, s.heap.size ≤ q → A q := fun q h => by rw [← hAe]; exact Or.inr h
  have hS : va_S A s.heap s.heap [] := va_S.rf
  have hP : va_P (dC, dI) vcl [(h0, .inr (8, [.int p_dpi, .int p_size, .int p_orientation, .int p_copies, .int p_top, .int p_length, .int p_left, .int p_right, .int p_stepAcross, .int p_stepDown, .int p_x, .int p_y, .int p_wrap, .int p_skip, .int p_lineEnd, .int p_font, .ref p_stack, .int p_stacked, .ref p_kept]))] s.heap := hP
  have hl := lv_entry ([.ref h0, .ref (tt 0)]) (n := 2) (Nat.le_of_ble_eq_true rfl)
  rw [lg_entry_eq]
  generalize (lg_sl ([.ref h0, .ref (tt 0)]) ++ List.replicate (2 - (lg_sl ([.ref h0, .ref (tt 0)])).length) Slot.unset).toArray = ls at hl ⊢
  have hl : lv_has ls 2 [(0, .ref h0), (1, .ref (tt 0))] := hl
  refine lv_aload_n hx hb d_Page_ofSize_0 rfl (lv_at hl 0 rfl) ?_
  refine va_get (D := (dC, dI)) (ci := 8) (v := .int p_size) (C := R_Page) (T := F_Page) (N := 19) hx hb hwd i_Page hown hK hP 0 rfl rfl 1 (by decide) (hwd _ wd_1_93) (fun _ h9 => h9) rfl d_Page_ofSize_1 ?_
  refine lv_if_lt (tgt := 25) hx hb d_Page_ofSize_4 (by decide) (fun c4 => absurd c4 (by rw [hs]; exact nI_pos (by omega))) (fun c4 => ?_)
  refine lv_aload_n hx hb d_Page_ofSize_7 rfl (lv_at hl 0 rfl) ?_
  refine va_get (D := (dC, dI)) (ci := 8) (v := .int p_size) (C := R_Page) (T := F_Page) (N := 19) hx hb hwd i_Page hown hK hP 0 rfl rfl 1 (by decide) (hwd _ wd_1_93) (fun _ h9 => h9) rfl d_Page_ofSize_8 ?_
  refine lv_aload_n hx hb d_Page_ofSize_11 rfl (lv_at hl 1 rfl) ?_
  refine va_tlen (v := 5) hx hb (SF_p0 hF).2 hS rfl d_Page_ofSize_12 ?_
  refine lv_icmp_ge (tgt := 25) hx hb d_Page_ofSize_13 (by decide) (fun c13 => absurd c13 (by rw [hs]; exact nI_ge (a := k) (b := 5) hk (by omega))) (fun c13 => ?_)
  refine lv_aload_n hx hb d_Page_ofSize_16 rfl (lv_at hl 1 rfl) ?_
  refine lv_aload_n hx hb d_Page_ofSize_17 rfl (lv_at hl 0 rfl) ?_
  refine va_get (D := (dC, dI)) (ci := 8) (v := .int p_size) (C := R_Page) (T := F_Page) (N := 19) hx hb hwd i_Page hown hK hP 0 rfl rfl 1 (by decide) (hwd _ wd_1_93) (fun _ h9 => h9) rfl d_Page_ofSize_18 ?_
  refine va_ti (v := .int (tb_Page_ACROSS p_size.toNatClampNeg)) hx hb (SF_p0 hF).2 hS (by rw [hs]; exact vp_in_nI hk (by omega)) rfl d_Page_ofSize_21 ?_
  refine lv_topi (fun y_1 ey_1 => ?_)
  obtain rfl : y_1 = tb_Page_ACROSS k := ey_1.trans (by rw [hs, nI_clamp (by omega)])
  refine lv_goto (tgt := 26) hx hb d_Page_ofSize_22 (by decide) ?_
  have hP9 := hP.sub (ws' := [(h0, .inr (8, [.int p_dpi, .int p_size, .int p_orientation, .int p_copies, .int p_top, .int p_length, .int p_left, .int p_right, .int p_stepAcross, .int p_stepDown, .int p_x, .int p_y, .int p_wrap, .int p_skip, .int p_lineEnd, .int p_font, .ref p_stack, .int p_stacked, .ref p_kept]))]) [0] rfl
  have hD9 := hD.sub (ws' := [(h0, .inr (8, [.int p_dpi, .int p_size, .int p_orientation, .int p_copies, .int p_top, .int p_length, .int p_left, .int p_right, .int p_stepAcross, .int p_stepDown, .int p_x, .int p_y, .int p_wrap, .int p_skip, .int p_lineEnd, .int p_font, .ref p_stack, .int p_stacked, .ref p_kept]))]) [0] (by decide) rfl
  have hK9 := hK.sub (tys' := []) [] rfl
  exact W.iret (v := tb_Page_ACROSS k) hx hb hr (fun t ht hW => ⟨⟨(tb_Page_ACROSS k), (), rfl, (show (tb_Page_ACROSS k : Int32) = tb_Page_ACROSS k from (by first | exact trivial | rfl | simp [*])), by rw [ht]; exact hP9, va_K.moved hW.alike hK9, hD9⟩, hS.F ht⟩) hS.2.2 d_Page_ofSize_26

abbrev at_c_ofSize_SIZES (dC : Nat → ClassId) (dI : Nat → Nat → Nat) (h0 : Nat) (p_dpi : Int32) (p_size : Int32) (p_orientation : Int32) (p_copies : Int32) (p_top : Int32) (p_length : Int32) (p_left : Int32) (p_right : Int32) (p_stepAcross : Int32) (p_stepDown : Int32) (p_x : Int32) (p_y : Int32) (p_wrap : Int32) (p_skip : Int32) (p_lineEnd : Int32) (p_font : Int32) (p_stack : Nat) (p_stacked : Int32) (p_kept : Nat) (k : Nat) (A : Nat → Prop) (u : Unit) (t : State) : Prop := match u with
  | _ => va_P (dC, dI) vcl [(h0, .inr (8, [.int p_dpi, .int p_size, .int p_orientation, .int p_copies, .int p_top, .int p_length, .int p_left, .int p_right, .int p_stepAcross, .int p_stepDown, .int p_x, .int p_y, .int p_wrap, .int p_skip, .int p_lineEnd, .int p_font, .ref p_stack, .int p_stacked, .ref p_kept]))] t.heap ∧ va_K (dC, dI) vcl [] t ∧ va_D A [(h0, .inr (8, [.int p_dpi, .int p_size, .int p_orientation, .int p_copies, .int p_top, .int p_length, .int p_left, .int p_right, .int p_stepAcross, .int p_stepDown, .int p_x, .int p_y, .int p_wrap, .int p_skip, .int p_lineEnd, .int p_font, .ref p_stack, .int p_stacked, .ref p_kept]))]
abbrev po_c_ofSize_SIZES (h0 : Nat) (p_dpi : Int32) (p_size : Int32) (p_orientation : Int32) (p_copies : Int32) (p_top : Int32) (p_length : Int32) (p_left : Int32) (p_right : Int32) (p_stepAcross : Int32) (p_stepDown : Int32) (p_x : Int32) (p_y : Int32) (p_wrap : Int32) (p_skip : Int32) (p_lineEnd : Int32) (p_font : Int32) (p_stack : Nat) (p_stacked : Int32) (p_kept : Nat) (k : Nat) (r : Int32) (u : Unit) : Prop := match u with
  | _ => r = tb_Page_SIZES k
abbrev q_c_ofSize_SIZES (dC : Nat → ClassId) (dI : Nat → Nat → Nat) (h0 : Nat) (p_dpi : Int32) (p_size : Int32) (p_orientation : Int32) (p_copies : Int32) (p_top : Int32) (p_length : Int32) (p_left : Int32) (p_right : Int32) (p_stepAcross : Int32) (p_stepDown : Int32) (p_x : Int32) (p_y : Int32) (p_wrap : Int32) (p_skip : Int32) (p_lineEnd : Int32) (p_font : Int32) (p_stack : Nat) (p_stacked : Int32) (p_kept : Nat) (k : Nat) (A : Nat → Prop) : Array Value → State → Outcome → State → Prop := va_Qi (po_c_ofSize_SIZES h0 p_dpi p_size p_orientation p_copies p_top p_length p_left p_right p_stepAcross p_stepDown p_x p_y p_wrap p_skip p_lineEnd p_font p_stack p_stacked p_kept k) (at_c_ofSize_SIZES dC dI h0 p_dpi p_size p_orientation p_copies p_top p_length p_left p_right p_stepAcross p_stepDown p_x p_y p_wrap p_skip p_lineEnd p_font p_stack p_stacked p_kept k A) A
abbrev rm_c_ofSize_SIZES : Room := { frames := 0, cells := 0, slots := 0, locals := 0 }
set_option maxHeartbeats 4000000 in
set_option maxRecDepth 100000 in
theorem c_ofSize_SIZES (l : Launch) (dC : Nat → ClassId) (dI : Nat → Nat → Nat) (tt : Nat → Nat) (h0 : Nat) (p_dpi : Int32) (p_size : Int32) (p_orientation : Int32) (p_copies : Int32) (p_top : Int32) (p_length : Int32) (p_left : Int32) (p_right : Int32) (p_stepAcross : Int32) (p_stepDown : Int32) (p_x : Int32) (p_y : Int32) (p_wrap : Int32) (p_skip : Int32) (p_lineEnd : Int32) (p_font : Int32) (p_stack : Nat) (p_stacked : Int32) (p_kept : Nat) (k : Nat) (sz : Nat) (hs : p_size = nI k) (hk : k < 5) : Met l y_Page_ofSize w_Page_ofSize rm_c_ofSize_SIZES (va_Pc [.ref h0, .ref (tt 13)] (fun U => U.heap.size = sz ∧ va_P (dC, dI) vcl [(h0, .inr (8, [.int p_dpi, .int p_size, .int p_orientation, .int p_copies, .int p_top, .int p_length, .int p_left, .int p_right, .int p_stepAcross, .int p_stepDown, .int p_x, .int p_y, .int p_wrap, .int p_skip, .int p_lineEnd, .int p_font, .ref p_stack, .int p_stacked, .ref p_kept]))] U.heap ∧ va_K (dC, dI) vcl [] U ∧ va_D (fun _ => True) [(h0, .inr (8, [.int p_dpi, .int p_size, .int p_orientation, .int p_copies, .int p_top, .int p_length, .int p_left, .int p_right, .int p_stepAcross, .int p_stepDown, .int p_x, .int p_y, .int p_wrap, .int p_skip, .int p_lineEnd, .int p_font, .ref p_stack, .int p_stacked, .ref p_kept]))] ∧ SF tt (va_A [(h0, .inr (8, [.int p_dpi, .int p_size, .int p_orientation, .int p_copies, .int p_top, .int p_length, .int p_left, .int p_right, .int p_stepAcross, .int p_stepDown, .int p_x, .int p_y, .int p_wrap, .int p_skip, .int p_lineEnd, .int p_font, .ref p_stack, .int p_stacked, .ref p_kept]))] sz) U U.heap)) (q_c_ofSize_SIZES dC dI h0 p_dpi p_size p_orientation p_copies p_top p_length p_left p_right p_stepAcross p_stepDown p_x p_y p_wrap p_skip p_lineEnd p_font p_stack p_stacked p_kept k (va_A [(h0, .inr (8, [.int p_dpi, .int p_size, .int p_orientation, .int p_copies, .int p_top, .int p_length, .int p_left, .int p_right, .int p_stepAcross, .int p_stepDown, .int p_x, .int p_y, .int p_wrap, .int p_skip, .int p_lineEnd, .int p_font, .ref p_stack, .int p_stacked, .ref p_kept]))] sz)) 0 0 (va_A [(h0, .inr (8, [.int p_dpi, .int p_size, .int p_orientation, .int p_copies, .int p_top, .int p_length, .int p_left, .int p_right, .int p_stepAcross, .int p_stepDown, .int p_x, .int p_y, .int p_wrap, .int p_skip, .int p_lineEnd, .int p_font, .ref p_stack, .int p_stacked, .ref p_kept]))] sz) := by
  refine Met.ofW (cc := b_Page_ofSize) (maxL := 2) (ret := (some .int)) (by decide) rfl ?_
  intro p e s m args below meth c s₁ B hml hv
  obtain ⟨rfl, hsz, hP, hK, hD0, hF⟩ := hv
  have hx := B.exec
  have hb := B.bytes
  have hr := B.returns
  have hwd : ∀ w ∈ gT, w.before _ s = true := fun w h => atoms_spec (ws := w_Page_ofSize) B.pre w (List.mem_cons_of_mem _ h)
  have hown : s.vm.findClass R_Page = some m.cls := findClass_of_methodNamed B.named
  have hlocks := B.notSynchronized
  subst hsz
  have hD := hD0.self (sz := s.heap.size)
  generalize hAe : va_A [(h0, .inr (8, [.int p_dpi, .int p_size, .int p_orientation, .int p_copies, .int p_top, .int p_length, .int p_left, .int p_right, .int p_stepAcross, .int p_stepDown, .int p_x, .int p_y, .int p_wrap, .int p_skip, .int p_lineEnd, .int p_font, .ref p_stack, .int p_stacked, .ref p_kept]))] s.heap.size = A at hD hF ⊢
  have hA : ∀ q : Nat, s.heap.size ≤ q → A q := fun q h => by rw [← hAe]; exact Or.inr h
  have hS : va_S A s.heap s.heap [] := va_S.rf
  have hP : va_P (dC, dI) vcl [(h0, .inr (8, [.int p_dpi, .int p_size, .int p_orientation, .int p_copies, .int p_top, .int p_length, .int p_left, .int p_right, .int p_stepAcross, .int p_stepDown, .int p_x, .int p_y, .int p_wrap, .int p_skip, .int p_lineEnd, .int p_font, .ref p_stack, .int p_stacked, .ref p_kept]))] s.heap := hP
  have hl := lv_entry ([.ref h0, .ref (tt 13)]) (n := 2) (Nat.le_of_ble_eq_true rfl)
  rw [lg_entry_eq]
  generalize (lg_sl ([.ref h0, .ref (tt 13)]) ++ List.replicate (2 - (lg_sl ([.ref h0, .ref (tt 13)])).length) Slot.unset).toArray = ls at hl ⊢
  have hl : lv_has ls 2 [(0, .ref h0), (1, .ref (tt 13))] := hl
  refine lv_aload_n hx hb d_Page_ofSize_0 rfl (lv_at hl 0 rfl) ?_
  refine va_get (D := (dC, dI)) (ci := 8) (v := .int p_size) (C := R_Page) (T := F_Page) (N := 19) hx hb hwd i_Page hown hK hP 0 rfl rfl 1 (by decide) (hwd _ wd_1_93) (fun _ h9 => h9) rfl d_Page_ofSize_1 ?_
  refine lv_if_lt (tgt := 25) hx hb d_Page_ofSize_4 (by decide) (fun c4 => absurd c4 (by rw [hs]; exact nI_pos (by omega))) (fun c4 => ?_)
  refine lv_aload_n hx hb d_Page_ofSize_7 rfl (lv_at hl 0 rfl) ?_
  refine va_get (D := (dC, dI)) (ci := 8) (v := .int p_size) (C := R_Page) (T := F_Page) (N := 19) hx hb hwd i_Page hown hK hP 0 rfl rfl 1 (by decide) (hwd _ wd_1_93) (fun _ h9 => h9) rfl d_Page_ofSize_8 ?_
  refine lv_aload_n hx hb d_Page_ofSize_11 rfl (lv_at hl 1 rfl) ?_
  refine va_tlen (v := 5) hx hb (SF_p13 hF).2 hS rfl d_Page_ofSize_12 ?_
  refine lv_icmp_ge (tgt := 25) hx hb d_Page_ofSize_13 (by decide) (fun c13 => absurd c13 (by rw [hs]; exact nI_ge (a := k) (b := 5) hk (by omega))) (fun c13 => ?_)
  refine lv_aload_n hx hb d_Page_ofSize_16 rfl (lv_at hl 1 rfl) ?_
  refine lv_aload_n hx hb d_Page_ofSize_17 rfl (lv_at hl 0 rfl) ?_
  refine va_get (D := (dC, dI)) (ci := 8) (v := .int p_size) (C := R_Page) (T := F_Page) (N := 19) hx hb hwd i_Page hown hK hP 0 rfl rfl 1 (by decide) (hwd _ wd_1_93) (fun _ h9 => h9) rfl d_Page_ofSize_18 ?_
  refine va_ti (v := .int (tb_Page_SIZES p_size.toNatClampNeg)) hx hb (SF_p13 hF).2 hS (by rw [hs]; exact vp_in_nI hk (by omega)) rfl d_Page_ofSize_21 ?_
  refine lv_topi (fun y_1 ey_1 => ?_)
  obtain rfl : y_1 = tb_Page_SIZES k := ey_1.trans (by rw [hs, nI_clamp (by omega)])
  refine lv_goto (tgt := 26) hx hb d_Page_ofSize_22 (by decide) ?_
  have hP9 := hP.sub (ws' := [(h0, .inr (8, [.int p_dpi, .int p_size, .int p_orientation, .int p_copies, .int p_top, .int p_length, .int p_left, .int p_right, .int p_stepAcross, .int p_stepDown, .int p_x, .int p_y, .int p_wrap, .int p_skip, .int p_lineEnd, .int p_font, .ref p_stack, .int p_stacked, .ref p_kept]))]) [0] rfl
  have hD9 := hD.sub (ws' := [(h0, .inr (8, [.int p_dpi, .int p_size, .int p_orientation, .int p_copies, .int p_top, .int p_length, .int p_left, .int p_right, .int p_stepAcross, .int p_stepDown, .int p_x, .int p_y, .int p_wrap, .int p_skip, .int p_lineEnd, .int p_font, .ref p_stack, .int p_stacked, .ref p_kept]))]) [0] (by decide) rfl
  have hK9 := hK.sub (tys' := []) [] rfl
  exact W.iret (v := tb_Page_SIZES k) hx hb hr (fun t ht hW => ⟨⟨(tb_Page_SIZES k), (), rfl, (show (tb_Page_SIZES k : Int32) = tb_Page_SIZES k from (by first | exact trivial | rfl | simp [*])), by rw [ht]; exact hP9, va_K.moved hW.alike hK9, hD9⟩, hS.F ht⟩) hS.2.2 d_Page_ofSize_26

abbrev at_c_width (dC : Nat → ClassId) (dI : Nat → Nat → Nat) (h0 : Nat) (p_dpi : Int32) (p_size : Int32) (p_orientation : Int32) (p_copies : Int32) (p_top : Int32) (p_length : Int32) (p_left : Int32) (p_right : Int32) (p_stepAcross : Int32) (p_stepDown : Int32) (p_x : Int32) (p_y : Int32) (p_wrap : Int32) (p_skip : Int32) (p_lineEnd : Int32) (p_font : Int32) (p_stack : Nat) (p_stacked : Int32) (p_kept : Nat) (k : Nat) (A : Nat → Prop) (u : Unit) (t : State) : Prop := match u with
  | _ => va_P (dC, dI) vcl [(h0, .inr (8, [.int p_dpi, .int p_size, .int p_orientation, .int p_copies, .int p_top, .int p_length, .int p_left, .int p_right, .int p_stepAcross, .int p_stepDown, .int p_x, .int p_y, .int p_wrap, .int p_skip, .int p_lineEnd, .int p_font, .ref p_stack, .int p_stacked, .ref p_kept]))] t.heap ∧ va_K (dC, dI) vcl [] t ∧ va_D A [(h0, .inr (8, [.int p_dpi, .int p_size, .int p_orientation, .int p_copies, .int p_top, .int p_length, .int p_left, .int p_right, .int p_stepAcross, .int p_stepDown, .int p_x, .int p_y, .int p_wrap, .int p_skip, .int p_lineEnd, .int p_font, .ref p_stack, .int p_stacked, .ref p_kept]))]
abbrev po_c_width (h0 : Nat) (p_dpi : Int32) (p_size : Int32) (p_orientation : Int32) (p_copies : Int32) (p_top : Int32) (p_length : Int32) (p_left : Int32) (p_right : Int32) (p_stepAcross : Int32) (p_stepDown : Int32) (p_x : Int32) (p_y : Int32) (p_wrap : Int32) (p_skip : Int32) (p_lineEnd : Int32) (p_font : Int32) (p_stack : Nat) (p_stacked : Int32) (p_kept : Nat) (k : Nat) (r : Int32) (u : Unit) : Prop := match u with
  | _ => r = pg_W k p_orientation
abbrev q_c_width (dC : Nat → ClassId) (dI : Nat → Nat → Nat) (h0 : Nat) (p_dpi : Int32) (p_size : Int32) (p_orientation : Int32) (p_copies : Int32) (p_top : Int32) (p_length : Int32) (p_left : Int32) (p_right : Int32) (p_stepAcross : Int32) (p_stepDown : Int32) (p_x : Int32) (p_y : Int32) (p_wrap : Int32) (p_skip : Int32) (p_lineEnd : Int32) (p_font : Int32) (p_stack : Nat) (p_stacked : Int32) (p_kept : Nat) (k : Nat) (A : Nat → Prop) : Array Value → State → Outcome → State → Prop := va_Qi (po_c_width h0 p_dpi p_size p_orientation p_copies p_top p_length p_left p_right p_stepAcross p_stepDown p_x p_y p_wrap p_skip p_lineEnd p_font p_stack p_stacked p_kept k) (at_c_width dC dI h0 p_dpi p_size p_orientation p_copies p_top p_length p_left p_right p_stepAcross p_stepDown p_x p_y p_wrap p_skip p_lineEnd p_font p_stack p_stacked p_kept k A) A
abbrev rm_c_width : Room := { frames := 1, cells := 0, slots := 0, locals := 21 }
set_option maxHeartbeats 4000000 in
set_option maxRecDepth 100000 in
theorem c_width (l : Launch) (dC : Nat → ClassId) (dI : Nat → Nat → Nat) (tt : Nat → Nat) (h0 : Nat) (p_dpi : Int32) (p_size : Int32) (p_orientation : Int32) (p_copies : Int32) (p_top : Int32) (p_length : Int32) (p_left : Int32) (p_right : Int32) (p_stepAcross : Int32) (p_stepDown : Int32) (p_x : Int32) (p_y : Int32) (p_wrap : Int32) (p_skip : Int32) (p_lineEnd : Int32) (p_font : Int32) (p_stack : Nat) (p_stacked : Int32) (p_kept : Nat) (k : Nat) (sz : Nat) (hs : p_size = nI k) (hk : k < 5) : Met l y_Page_width w_Page_width rm_c_width (va_Pc [.ref h0] (fun U => U.heap.size = sz ∧ va_P (dC, dI) vcl [(h0, .inr (8, [.int p_dpi, .int p_size, .int p_orientation, .int p_copies, .int p_top, .int p_length, .int p_left, .int p_right, .int p_stepAcross, .int p_stepDown, .int p_x, .int p_y, .int p_wrap, .int p_skip, .int p_lineEnd, .int p_font, .ref p_stack, .int p_stacked, .ref p_kept]))] U.heap ∧ va_K (dC, dI) vcl [] U ∧ va_D (fun _ => True) [(h0, .inr (8, [.int p_dpi, .int p_size, .int p_orientation, .int p_copies, .int p_top, .int p_length, .int p_left, .int p_right, .int p_stepAcross, .int p_stepDown, .int p_x, .int p_y, .int p_wrap, .int p_skip, .int p_lineEnd, .int p_font, .ref p_stack, .int p_stacked, .ref p_kept]))] ∧ SF tt (va_A [(h0, .inr (8, [.int p_dpi, .int p_size, .int p_orientation, .int p_copies, .int p_top, .int p_length, .int p_left, .int p_right, .int p_stepAcross, .int p_stepDown, .int p_x, .int p_y, .int p_wrap, .int p_skip, .int p_lineEnd, .int p_font, .ref p_stack, .int p_stacked, .ref p_kept]))] sz) U U.heap)) (q_c_width dC dI h0 p_dpi p_size p_orientation p_copies p_top p_length p_left p_right p_stepAcross p_stepDown p_x p_y p_wrap p_skip p_lineEnd p_font p_stack p_stacked p_kept k (va_A [(h0, .inr (8, [.int p_dpi, .int p_size, .int p_orientation, .int p_copies, .int p_top, .int p_length, .int p_left, .int p_right, .int p_stepAcross, .int p_stepDown, .int p_x, .int p_y, .int p_wrap, .int p_skip, .int p_lineEnd, .int p_font, .ref p_stack, .int p_stacked, .ref p_kept]))] sz)) 0 0 (va_A [(h0, .inr (8, [.int p_dpi, .int p_size, .int p_orientation, .int p_copies, .int p_top, .int p_length, .int p_left, .int p_right, .int p_stepAcross, .int p_stepDown, .int p_x, .int p_y, .int p_wrap, .int p_skip, .int p_lineEnd, .int p_font, .ref p_stack, .int p_stacked, .ref p_kept]))] sz) := by
  refine Met.ofW (cc := b_Page_width) (maxL := 1) (ret := (some .int)) (by decide) rfl ?_
  intro p e s m args below meth c s₁ B hml hv
  obtain ⟨rfl, hsz, hP, hK, hD0, hF⟩ := hv
  have hx := B.exec
  have hb := B.bytes
  have hr := B.returns
  have hwd : ∀ w ∈ gT, w.before _ s = true := fun w h => atoms_spec (ws := w_Page_width) B.pre w (List.mem_cons_of_mem _ h)
  have hown : s.vm.findClass R_Page = some m.cls := findClass_of_methodNamed B.named
  have hlocks := B.notSynchronized
  subst hsz
  have hD := hD0.self (sz := s.heap.size)
  generalize hAe : va_A [(h0, .inr (8, [.int p_dpi, .int p_size, .int p_orientation, .int p_copies, .int p_top, .int p_length, .int p_left, .int p_right, .int p_stepAcross, .int p_stepDown, .int p_x, .int p_y, .int p_wrap, .int p_skip, .int p_lineEnd, .int p_font, .ref p_stack, .int p_stacked, .ref p_kept]))] s.heap.size = A at hD hF ⊢
  have hA : ∀ q : Nat, s.heap.size ≤ q → A q := fun q h => by rw [← hAe]; exact Or.inr h
  have hS : va_S A s.heap s.heap [] := va_S.rf
  have hP : va_P (dC, dI) vcl [(h0, .inr (8, [.int p_dpi, .int p_size, .int p_orientation, .int p_copies, .int p_top, .int p_length, .int p_left, .int p_right, .int p_stepAcross, .int p_stepDown, .int p_x, .int p_y, .int p_wrap, .int p_skip, .int p_lineEnd, .int p_font, .ref p_stack, .int p_stacked, .ref p_kept]))] s.heap := hP
  have hl := lv_entry ([.ref h0]) (n := 1) (Nat.le_of_ble_eq_true rfl)
  rw [lg_entry_eq]
  generalize (lg_sl ([.ref h0]) ++ List.replicate (1 - (lg_sl ([.ref h0])).length) Slot.unset).toArray = ls at hl ⊢
  have hl : lv_has ls 1 [(0, .ref h0)] := hl
  refine lv_aload_n hx hb d_Page_width_0 rfl (lv_at hl 0 rfl) ?_
  have hPc := hP.sub (ws' := [(h0, .inr (8, [.int p_dpi, .int p_size, .int p_orientation, .int p_copies, .int p_top, .int p_length, .int p_left, .int p_right, .int p_stepAcross, .int p_stepDown, .int p_x, .int p_y, .int p_wrap, .int p_skip, .int p_lineEnd, .int p_font, .ref p_stack, .int p_stacked, .ref p_kept]))]) [0] rfl
  have hDc := hD.sub (ws' := [(h0, .inr (8, [.int p_dpi, .int p_size, .int p_orientation, .int p_copies, .int p_top, .int p_length, .int p_left, .int p_right, .int p_stepAcross, .int p_stepDown, .int p_x, .int p_y, .int p_wrap, .int p_skip, .int p_lineEnd, .int p_font, .ref p_stack, .int p_stacked, .ref p_kept]))]) [0] (by decide) rfl
  have hKc := hK.sub (tys' := []) [] rfl
  have hFc := va_free (wc := [(h0, .inr (8, [.int p_dpi, .int p_size, .int p_orientation, .int p_copies, .int p_top, .int p_length, .int p_left, .int p_right, .int p_stepAcross, .int p_stepDown, .int p_x, .int p_y, .int p_wrap, .int p_skip, .int p_lineEnd, .int p_font, .ref p_stack, .int p_stacked, .ref p_kept]))]) hD hS hA [0] rfl
  refine va_calli (va_runV (As := []) (rest := []) ⟨hx, hb, hml, hown, hwd⟩ (c_onSide l dC dI tt h0 p_dpi p_size p_orientation p_copies p_top p_length p_left p_right p_stepAcross p_stepDown p_x p_y p_wrap p_skip p_lineEnd p_font p_stack p_stacked p_kept s.heap.size ) (cwV 0 hwd (gV gd_Page_onSide wd_1_56 wd_1_58 ws_1 wd_1_2) rfl rfl rfl (by decide +kernel) ⟨Nat.le_of_ble_eq_true rfl, Nat.le_of_ble_eq_true rfl⟩) ⟨fun a U g mk q => by obtain ⟨q0, q1, qP, qK, qD, qF⟩ := q; exact ⟨q0, q1, qP, va_K.moved (u := U) (U := U.calling g mk a) (Vm.Alike.refl U.vm) qK, qD, SF.same (u := U) (U := U.calling g mk a) rfl qF⟩, va_recv hKc hPc (ci := 8) (q0 := 0) rfl rfl, fun U hU hW => ⟨rfl, by rw [hU], by rw [hU]; exact hPc, va_K.moved hW.alike hKc, hDc.weaken (fun _ _ _ _ => trivial), by rw [hU]; exact SF.narrow (SF.moved hW (SF.kept hF (fun a h1 h2 => hS.2.1 a h1 h2))) hFc⟩⟩ rfl rfl hl.1 rfl (lv_room (Nat.le_of_ble_eq_true rfl)) d_Page_width_1 ⟨Nat.le_of_ble_eq_true rfl, Nat.le_of_ble_eq_true rfl⟩) hS (fun q _ h => hFc q h) hFc ?_
  clear hPc hDc hKc hS
  intro r_1 u_2 t H1 locs ht hvm hw hB hz1 hk1 hS
  obtain ⟨hP1, hK1, hD1⟩ := hB
  rw [ht] at hP1
  have hK1 := va_K.moved hvm.symm hK1
  try dsimp only at hw
  have hJ := va_join (wr := []) (w1 := [(h0, .inr (8, [.int p_dpi, .int p_size, .int p_orientation, .int p_copies, .int p_top, .int p_length, .int p_left, .int p_right, .int p_stepAcross, .int p_stepDown, .int p_x, .int p_y, .int p_wrap, .int p_skip, .int p_lineEnd, .int p_font, .ref p_stack, .int p_stacked, .ref p_kept]))]) hP hD [0] [] rfl rfl (by decide) (by decide) hk1 hFc hP1 hD1
  clear hP hD hk1 hFc hP1 hD1 hz1
  obtain ⟨hP, hD⟩ := hJ
  clear hK1 ht hvm
  generalize H1 = H at hP hS ⊢
  replace hP : va_P (dC, dI) vcl [(h0, .inr (8, [.int p_dpi, .int p_size, .int p_orientation, .int p_copies, .int p_top, .int p_length, .int p_left, .int p_right, .int p_stepAcross, .int p_stepDown, .int p_x, .int p_y, .int p_wrap, .int p_skip, .int p_lineEnd, .int p_font, .ref p_stack, .int p_stacked, .ref p_kept]))] H := hP
  replace hD : va_D A [(h0, .inr (8, [.int p_dpi, .int p_size, .int p_orientation, .int p_copies, .int p_top, .int p_length, .int p_left, .int p_right, .int p_stepAcross, .int p_stepDown, .int p_x, .int p_y, .int p_wrap, .int p_skip, .int p_lineEnd, .int p_font, .ref p_stack, .int p_stacked, .ref p_kept]))] := hD
  obtain rfl := hw
  refine lv_if_eq (tgt := 21) hx hb d_Page_width_4 (by decide) (fun c4 => ?_) (fun c4 => ?_)
  · refine lv_aload_n hx hb d_Page_width_21 rfl (lv_at hl 0 rfl) ?_
    refine va_gets hx hb (SF_p0 hF).1 hS hown (hwd _ wd_1_60) (fun _ h9 => h9) d_Page_width_22 ?_
    have hPc := hP.sub (ws' := [(h0, .inr (8, [.int p_dpi, .int p_size, .int p_orientation, .int p_copies, .int p_top, .int p_length, .int p_left, .int p_right, .int p_stepAcross, .int p_stepDown, .int p_x, .int p_y, .int p_wrap, .int p_skip, .int p_lineEnd, .int p_font, .ref p_stack, .int p_stacked, .ref p_kept]))]) [0] rfl
    have hDc := hD.sub (ws' := [(h0, .inr (8, [.int p_dpi, .int p_size, .int p_orientation, .int p_copies, .int p_top, .int p_length, .int p_left, .int p_right, .int p_stepAcross, .int p_stepDown, .int p_x, .int p_y, .int p_wrap, .int p_skip, .int p_lineEnd, .int p_font, .ref p_stack, .int p_stacked, .ref p_kept]))]) [0] (by decide) rfl
    have hKc := hK.sub (tys' := []) [] rfl
    have hFc := va_free (wc := [(h0, .inr (8, [.int p_dpi, .int p_size, .int p_orientation, .int p_copies, .int p_top, .int p_length, .int p_left, .int p_right, .int p_stepAcross, .int p_stepDown, .int p_x, .int p_y, .int p_wrap, .int p_skip, .int p_lineEnd, .int p_font, .ref p_stack, .int p_stacked, .ref p_kept]))]) hD hS hA [0] rfl
    refine va_calli (va_runV (As := [.ref (tt 0)]) (rest := []) ⟨hx, hb, hml, hown, hwd⟩ (c_ofSize_ACROSS l dC dI tt h0 p_dpi p_size p_orientation p_copies p_top p_length p_left p_right p_stepAcross p_stepDown p_x p_y p_wrap p_skip p_lineEnd p_font p_stack p_stacked p_kept k H.size (hs) (hk)) (cwV 1 hwd (gV gd_Page_ofSize wd_1_62 wd_1_64 ws_2 wd_1_2) rfl rfl rfl (by decide +kernel) ⟨Nat.le_of_ble_eq_true rfl, Nat.le_of_ble_eq_true rfl⟩) ⟨fun a U g mk q => by obtain ⟨q0, q1, qP, qK, qD, qF⟩ := q; exact ⟨q0, q1, qP, va_K.moved (u := U) (U := U.calling g mk a) (Vm.Alike.refl U.vm) qK, qD, SF.same (u := U) (U := U.calling g mk a) rfl qF⟩, va_recv hKc hPc (ci := 8) (q0 := 0) rfl rfl, fun U hU hW => ⟨rfl, by rw [hU], by rw [hU]; exact hPc, va_K.moved hW.alike hKc, hDc.weaken (fun _ _ _ _ => trivial), by rw [hU]; exact SF.narrow (SF.moved hW (SF.kept hF (fun a h1 h2 => hS.2.1 a h1 h2))) hFc⟩⟩ rfl rfl hl.1 rfl (lv_room (Nat.le_of_ble_eq_true rfl)) d_Page_width_25 ⟨Nat.le_of_ble_eq_true rfl, Nat.le_of_ble_eq_true rfl⟩) hS (fun q _ h => hFc q h) hFc ?_
    clear hPc hDc hKc hS
    intro r_3 u_4 t H1 locs ht hvm hw hB hz1 hk1 hS
    obtain ⟨hP1, hK1, hD1⟩ := hB
    rw [ht] at hP1
    have hK1 := va_K.moved hvm.symm hK1
    try dsimp only at hw
    have hJ := va_join (wr := []) (w1 := [(h0, .inr (8, [.int p_dpi, .int p_size, .int p_orientation, .int p_copies, .int p_top, .int p_length, .int p_left, .int p_right, .int p_stepAcross, .int p_stepDown, .int p_x, .int p_y, .int p_wrap, .int p_skip, .int p_lineEnd, .int p_font, .ref p_stack, .int p_stacked, .ref p_kept]))]) hP hD [0] [] rfl rfl (by decide) (by decide) hk1 hFc hP1 hD1
    clear hP hD hk1 hFc hP1 hD1 hz1
    obtain ⟨hP, hD⟩ := hJ
    clear hK1 ht hvm
    generalize H1 = H at hP hS ⊢
    replace hP : va_P (dC, dI) vcl [(h0, .inr (8, [.int p_dpi, .int p_size, .int p_orientation, .int p_copies, .int p_top, .int p_length, .int p_left, .int p_right, .int p_stepAcross, .int p_stepDown, .int p_x, .int p_y, .int p_wrap, .int p_skip, .int p_lineEnd, .int p_font, .ref p_stack, .int p_stacked, .ref p_kept]))] H := hP
    replace hD : va_D A [(h0, .inr (8, [.int p_dpi, .int p_size, .int p_orientation, .int p_copies, .int p_top, .int p_length, .int p_left, .int p_right, .int p_stepAcross, .int p_stepDown, .int p_x, .int p_y, .int p_wrap, .int p_skip, .int p_lineEnd, .int p_font, .ref p_stack, .int p_stacked, .ref p_kept]))] := hD
    obtain rfl := hw
    refine lv_sipush (v := 3600) hx hb d_Page_width_28 (by decide) ?_
    refine lv_isub hx hb d_Page_width_31 ?_
    have hP9 := hP.sub (ws' := [(h0, .inr (8, [.int p_dpi, .int p_size, .int p_orientation, .int p_copies, .int p_top, .int p_length, .int p_left, .int p_right, .int p_stepAcross, .int p_stepDown, .int p_x, .int p_y, .int p_wrap, .int p_skip, .int p_lineEnd, .int p_font, .ref p_stack, .int p_stacked, .ref p_kept]))]) [0] rfl
    have hD9 := hD.sub (ws' := [(h0, .inr (8, [.int p_dpi, .int p_size, .int p_orientation, .int p_copies, .int p_top, .int p_length, .int p_left, .int p_right, .int p_stepAcross, .int p_stepDown, .int p_x, .int p_y, .int p_wrap, .int p_skip, .int p_lineEnd, .int p_font, .ref p_stack, .int p_stacked, .ref p_kept]))]) [0] (by decide) rfl
    have hK9 := hK.sub (tys' := []) [] rfl
    exact W.iret (v := (tb_Page_ACROSS k) - 3600) hx hb hr (fun t ht hW => ⟨⟨((tb_Page_ACROSS k) - 3600), (), rfl, (show ((tb_Page_ACROSS k) - 3600 : Int32) = pg_W k p_orientation from (by unfold pg_W; split at c4 <;> simp_all)), by rw [ht]; exact hP9, va_K.moved hW.alike hK9, hD9⟩, hS.F ht⟩) hS.2.2 d_Page_width_32
  · refine lv_aload_n hx hb d_Page_width_7 rfl (lv_at hl 0 rfl) ?_
    refine va_gets hx hb (SF_p1 hF).1 hS hown (hwd _ wd_1_66) (fun _ h9 => h9) d_Page_width_8 ?_
    have hPc := hP.sub (ws' := [(h0, .inr (8, [.int p_dpi, .int p_size, .int p_orientation, .int p_copies, .int p_top, .int p_length, .int p_left, .int p_right, .int p_stepAcross, .int p_stepDown, .int p_x, .int p_y, .int p_wrap, .int p_skip, .int p_lineEnd, .int p_font, .ref p_stack, .int p_stacked, .ref p_kept]))]) [0] rfl
    have hDc := hD.sub (ws' := [(h0, .inr (8, [.int p_dpi, .int p_size, .int p_orientation, .int p_copies, .int p_top, .int p_length, .int p_left, .int p_right, .int p_stepAcross, .int p_stepDown, .int p_x, .int p_y, .int p_wrap, .int p_skip, .int p_lineEnd, .int p_font, .ref p_stack, .int p_stacked, .ref p_kept]))]) [0] (by decide) rfl
    have hKc := hK.sub (tys' := []) [] rfl
    have hFc := va_free (wc := [(h0, .inr (8, [.int p_dpi, .int p_size, .int p_orientation, .int p_copies, .int p_top, .int p_length, .int p_left, .int p_right, .int p_stepAcross, .int p_stepDown, .int p_x, .int p_y, .int p_wrap, .int p_skip, .int p_lineEnd, .int p_font, .ref p_stack, .int p_stacked, .ref p_kept]))]) hD hS hA [0] rfl
    refine va_calli (va_runV (As := [.ref (tt 1)]) (rest := []) ⟨hx, hb, hml, hown, hwd⟩ (c_ofSize_DOWN l dC dI tt h0 p_dpi p_size p_orientation p_copies p_top p_length p_left p_right p_stepAcross p_stepDown p_x p_y p_wrap p_skip p_lineEnd p_font p_stack p_stacked p_kept k H.size (hs) (hk)) (cwV 1 hwd (gV gd_Page_ofSize wd_1_62 wd_1_64 ws_2 wd_1_2) rfl rfl rfl (by decide +kernel) ⟨Nat.le_of_ble_eq_true rfl, Nat.le_of_ble_eq_true rfl⟩) ⟨fun a U g mk q => by obtain ⟨q0, q1, qP, qK, qD, qF⟩ := q; exact ⟨q0, q1, qP, va_K.moved (u := U) (U := U.calling g mk a) (Vm.Alike.refl U.vm) qK, qD, SF.same (u := U) (U := U.calling g mk a) rfl qF⟩, va_recv hKc hPc (ci := 8) (q0 := 0) rfl rfl, fun U hU hW => ⟨rfl, by rw [hU], by rw [hU]; exact hPc, va_K.moved hW.alike hKc, hDc.weaken (fun _ _ _ _ => trivial), by rw [hU]; exact SF.narrow (SF.moved hW (SF.kept hF (fun a h1 h2 => hS.2.1 a h1 h2))) hFc⟩⟩ rfl rfl hl.1 rfl (lv_room (Nat.le_of_ble_eq_true rfl)) d_Page_width_11 ⟨Nat.le_of_ble_eq_true rfl, Nat.le_of_ble_eq_true rfl⟩) hS (fun q _ h => hFc q h) hFc ?_
    clear hPc hDc hKc hS
    intro r_5 u_6 t H1 locs ht hvm hw hB hz1 hk1 hS
    obtain ⟨hP1, hK1, hD1⟩ := hB
    rw [ht] at hP1
    have hK1 := va_K.moved hvm.symm hK1
    try dsimp only at hw
    have hJ := va_join (wr := []) (w1 := [(h0, .inr (8, [.int p_dpi, .int p_size, .int p_orientation, .int p_copies, .int p_top, .int p_length, .int p_left, .int p_right, .int p_stepAcross, .int p_stepDown, .int p_x, .int p_y, .int p_wrap, .int p_skip, .int p_lineEnd, .int p_font, .ref p_stack, .int p_stacked, .ref p_kept]))]) hP hD [0] [] rfl rfl (by decide) (by decide) hk1 hFc hP1 hD1
    clear hP hD hk1 hFc hP1 hD1 hz1
    obtain ⟨hP, hD⟩ := hJ
    clear hK1 ht hvm
    generalize H1 = H at hP hS ⊢
    replace hP : va_P (dC, dI) vcl [(h0, .inr (8, [.int p_dpi, .int p_size, .int p_orientation, .int p_copies, .int p_top, .int p_length, .int p_left, .int p_right, .int p_stepAcross, .int p_stepDown, .int p_x, .int p_y, .int p_wrap, .int p_skip, .int p_lineEnd, .int p_font, .ref p_stack, .int p_stacked, .ref p_kept]))] H := hP
    replace hD : va_D A [(h0, .inr (8, [.int p_dpi, .int p_size, .int p_orientation, .int p_copies, .int p_top, .int p_length, .int p_left, .int p_right, .int p_stepAcross, .int p_stepDown, .int p_x, .int p_y, .int p_wrap, .int p_skip, .int p_lineEnd, .int p_font, .ref p_stack, .int p_stacked, .ref p_kept]))] := hD
    obtain rfl := hw
    refine lv_sipush (v := 2880) hx hb d_Page_width_14 (by decide) ?_
    refine lv_isub hx hb d_Page_width_17 ?_
    refine lv_goto (tgt := 32) hx hb d_Page_width_18 (by decide) ?_
    have hP9 := hP.sub (ws' := [(h0, .inr (8, [.int p_dpi, .int p_size, .int p_orientation, .int p_copies, .int p_top, .int p_length, .int p_left, .int p_right, .int p_stepAcross, .int p_stepDown, .int p_x, .int p_y, .int p_wrap, .int p_skip, .int p_lineEnd, .int p_font, .ref p_stack, .int p_stacked, .ref p_kept]))]) [0] rfl
    have hD9 := hD.sub (ws' := [(h0, .inr (8, [.int p_dpi, .int p_size, .int p_orientation, .int p_copies, .int p_top, .int p_length, .int p_left, .int p_right, .int p_stepAcross, .int p_stepDown, .int p_x, .int p_y, .int p_wrap, .int p_skip, .int p_lineEnd, .int p_font, .ref p_stack, .int p_stacked, .ref p_kept]))]) [0] (by decide) rfl
    have hK9 := hK.sub (tys' := []) [] rfl
    exact W.iret (v := (tb_Page_DOWN k) - 2880) hx hb hr (fun t ht hW => ⟨⟨((tb_Page_DOWN k) - 2880), (), rfl, (show ((tb_Page_DOWN k) - 2880 : Int32) = pg_W k p_orientation from (by unfold pg_W; split at c4 <;> simp_all)), by rw [ht]; exact hP9, va_K.moved hW.alike hK9, hD9⟩, hS.F ht⟩) hS.2.2 d_Page_width_32

abbrev at_c_height (dC : Nat → ClassId) (dI : Nat → Nat → Nat) (h0 : Nat) (p_dpi : Int32) (p_size : Int32) (p_orientation : Int32) (p_copies : Int32) (p_top : Int32) (p_length : Int32) (p_left : Int32) (p_right : Int32) (p_stepAcross : Int32) (p_stepDown : Int32) (p_x : Int32) (p_y : Int32) (p_wrap : Int32) (p_skip : Int32) (p_lineEnd : Int32) (p_font : Int32) (p_stack : Nat) (p_stacked : Int32) (p_kept : Nat) (k : Nat) (A : Nat → Prop) (u : Unit) (t : State) : Prop := match u with
  | _ => va_P (dC, dI) vcl [(h0, .inr (8, [.int p_dpi, .int p_size, .int p_orientation, .int p_copies, .int p_top, .int p_length, .int p_left, .int p_right, .int p_stepAcross, .int p_stepDown, .int p_x, .int p_y, .int p_wrap, .int p_skip, .int p_lineEnd, .int p_font, .ref p_stack, .int p_stacked, .ref p_kept]))] t.heap ∧ va_K (dC, dI) vcl [] t ∧ va_D A [(h0, .inr (8, [.int p_dpi, .int p_size, .int p_orientation, .int p_copies, .int p_top, .int p_length, .int p_left, .int p_right, .int p_stepAcross, .int p_stepDown, .int p_x, .int p_y, .int p_wrap, .int p_skip, .int p_lineEnd, .int p_font, .ref p_stack, .int p_stacked, .ref p_kept]))]
abbrev po_c_height (h0 : Nat) (p_dpi : Int32) (p_size : Int32) (p_orientation : Int32) (p_copies : Int32) (p_top : Int32) (p_length : Int32) (p_left : Int32) (p_right : Int32) (p_stepAcross : Int32) (p_stepDown : Int32) (p_x : Int32) (p_y : Int32) (p_wrap : Int32) (p_skip : Int32) (p_lineEnd : Int32) (p_font : Int32) (p_stack : Nat) (p_stacked : Int32) (p_kept : Nat) (k : Nat) (r : Int32) (u : Unit) : Prop := match u with
  | _ => r = pg_H k p_orientation
abbrev q_c_height (dC : Nat → ClassId) (dI : Nat → Nat → Nat) (h0 : Nat) (p_dpi : Int32) (p_size : Int32) (p_orientation : Int32) (p_copies : Int32) (p_top : Int32) (p_length : Int32) (p_left : Int32) (p_right : Int32) (p_stepAcross : Int32) (p_stepDown : Int32) (p_x : Int32) (p_y : Int32) (p_wrap : Int32) (p_skip : Int32) (p_lineEnd : Int32) (p_font : Int32) (p_stack : Nat) (p_stacked : Int32) (p_kept : Nat) (k : Nat) (A : Nat → Prop) : Array Value → State → Outcome → State → Prop := va_Qi (po_c_height h0 p_dpi p_size p_orientation p_copies p_top p_length p_left p_right p_stepAcross p_stepDown p_x p_y p_wrap p_skip p_lineEnd p_font p_stack p_stacked p_kept k) (at_c_height dC dI h0 p_dpi p_size p_orientation p_copies p_top p_length p_left p_right p_stepAcross p_stepDown p_x p_y p_wrap p_skip p_lineEnd p_font p_stack p_stacked p_kept k A) A
abbrev rm_c_height : Room := { frames := 1, cells := 0, slots := 0, locals := 21 }
set_option maxHeartbeats 4000000 in
set_option maxRecDepth 100000 in
theorem c_height (l : Launch) (dC : Nat → ClassId) (dI : Nat → Nat → Nat) (tt : Nat → Nat) (h0 : Nat) (p_dpi : Int32) (p_size : Int32) (p_orientation : Int32) (p_copies : Int32) (p_top : Int32) (p_length : Int32) (p_left : Int32) (p_right : Int32) (p_stepAcross : Int32) (p_stepDown : Int32) (p_x : Int32) (p_y : Int32) (p_wrap : Int32) (p_skip : Int32) (p_lineEnd : Int32) (p_font : Int32) (p_stack : Nat) (p_stacked : Int32) (p_kept : Nat) (k : Nat) (sz : Nat) (hs : p_size = nI k) (hk : k < 5) : Met l y_Page_height w_Page_height rm_c_height (va_Pc [.ref h0] (fun U => U.heap.size = sz ∧ va_P (dC, dI) vcl [(h0, .inr (8, [.int p_dpi, .int p_size, .int p_orientation, .int p_copies, .int p_top, .int p_length, .int p_left, .int p_right, .int p_stepAcross, .int p_stepDown, .int p_x, .int p_y, .int p_wrap, .int p_skip, .int p_lineEnd, .int p_font, .ref p_stack, .int p_stacked, .ref p_kept]))] U.heap ∧ va_K (dC, dI) vcl [] U ∧ va_D (fun _ => True) [(h0, .inr (8, [.int p_dpi, .int p_size, .int p_orientation, .int p_copies, .int p_top, .int p_length, .int p_left, .int p_right, .int p_stepAcross, .int p_stepDown, .int p_x, .int p_y, .int p_wrap, .int p_skip, .int p_lineEnd, .int p_font, .ref p_stack, .int p_stacked, .ref p_kept]))] ∧ SF tt (va_A [(h0, .inr (8, [.int p_dpi, .int p_size, .int p_orientation, .int p_copies, .int p_top, .int p_length, .int p_left, .int p_right, .int p_stepAcross, .int p_stepDown, .int p_x, .int p_y, .int p_wrap, .int p_skip, .int p_lineEnd, .int p_font, .ref p_stack, .int p_stacked, .ref p_kept]))] sz) U U.heap)) (q_c_height dC dI h0 p_dpi p_size p_orientation p_copies p_top p_length p_left p_right p_stepAcross p_stepDown p_x p_y p_wrap p_skip p_lineEnd p_font p_stack p_stacked p_kept k (va_A [(h0, .inr (8, [.int p_dpi, .int p_size, .int p_orientation, .int p_copies, .int p_top, .int p_length, .int p_left, .int p_right, .int p_stepAcross, .int p_stepDown, .int p_x, .int p_y, .int p_wrap, .int p_skip, .int p_lineEnd, .int p_font, .ref p_stack, .int p_stacked, .ref p_kept]))] sz)) 0 0 (va_A [(h0, .inr (8, [.int p_dpi, .int p_size, .int p_orientation, .int p_copies, .int p_top, .int p_length, .int p_left, .int p_right, .int p_stepAcross, .int p_stepDown, .int p_x, .int p_y, .int p_wrap, .int p_skip, .int p_lineEnd, .int p_font, .ref p_stack, .int p_stacked, .ref p_kept]))] sz) := by
  refine Met.ofW (cc := b_Page_height) (maxL := 1) (ret := (some .int)) (by decide) rfl ?_
  intro p e s m args below meth c s₁ B hml hv
  obtain ⟨rfl, hsz, hP, hK, hD0, hF⟩ := hv
  have hx := B.exec
  have hb := B.bytes
  have hr := B.returns
  have hwd : ∀ w ∈ gT, w.before _ s = true := fun w h => atoms_spec (ws := w_Page_height) B.pre w (List.mem_cons_of_mem _ h)
  have hown : s.vm.findClass R_Page = some m.cls := findClass_of_methodNamed B.named
  have hlocks := B.notSynchronized
  subst hsz
  have hD := hD0.self (sz := s.heap.size)
  generalize hAe : va_A [(h0, .inr (8, [.int p_dpi, .int p_size, .int p_orientation, .int p_copies, .int p_top, .int p_length, .int p_left, .int p_right, .int p_stepAcross, .int p_stepDown, .int p_x, .int p_y, .int p_wrap, .int p_skip, .int p_lineEnd, .int p_font, .ref p_stack, .int p_stacked, .ref p_kept]))] s.heap.size = A at hD hF ⊢
  have hA : ∀ q : Nat, s.heap.size ≤ q → A q := fun q h => by rw [← hAe]; exact Or.inr h
  have hS : va_S A s.heap s.heap [] := va_S.rf
  have hP : va_P (dC, dI) vcl [(h0, .inr (8, [.int p_dpi, .int p_size, .int p_orientation, .int p_copies, .int p_top, .int p_length, .int p_left, .int p_right, .int p_stepAcross, .int p_stepDown, .int p_x, .int p_y, .int p_wrap, .int p_skip, .int p_lineEnd, .int p_font, .ref p_stack, .int p_stacked, .ref p_kept]))] s.heap := hP
  have hl := lv_entry ([.ref h0]) (n := 1) (Nat.le_of_ble_eq_true rfl)
  rw [lg_entry_eq]
  generalize (lg_sl ([.ref h0]) ++ List.replicate (1 - (lg_sl ([.ref h0])).length) Slot.unset).toArray = ls at hl ⊢
  have hl : lv_has ls 1 [(0, .ref h0)] := hl
  refine lv_aload_n hx hb d_Page_height_0 rfl (lv_at hl 0 rfl) ?_
  have hPc := hP.sub (ws' := [(h0, .inr (8, [.int p_dpi, .int p_size, .int p_orientation, .int p_copies, .int p_top, .int p_length, .int p_left, .int p_right, .int p_stepAcross, .int p_stepDown, .int p_x, .int p_y, .int p_wrap, .int p_skip, .int p_lineEnd, .int p_font, .ref p_stack, .int p_stacked, .ref p_kept]))]) [0] rfl
  have hDc := hD.sub (ws' := [(h0, .inr (8, [.int p_dpi, .int p_size, .int p_orientation, .int p_copies, .int p_top, .int p_length, .int p_left, .int p_right, .int p_stepAcross, .int p_stepDown, .int p_x, .int p_y, .int p_wrap, .int p_skip, .int p_lineEnd, .int p_font, .ref p_stack, .int p_stacked, .ref p_kept]))]) [0] (by decide) rfl
  have hKc := hK.sub (tys' := []) [] rfl
  have hFc := va_free (wc := [(h0, .inr (8, [.int p_dpi, .int p_size, .int p_orientation, .int p_copies, .int p_top, .int p_length, .int p_left, .int p_right, .int p_stepAcross, .int p_stepDown, .int p_x, .int p_y, .int p_wrap, .int p_skip, .int p_lineEnd, .int p_font, .ref p_stack, .int p_stacked, .ref p_kept]))]) hD hS hA [0] rfl
  refine va_calli (va_runV (As := []) (rest := []) ⟨hx, hb, hml, hown, hwd⟩ (c_onSide l dC dI tt h0 p_dpi p_size p_orientation p_copies p_top p_length p_left p_right p_stepAcross p_stepDown p_x p_y p_wrap p_skip p_lineEnd p_font p_stack p_stacked p_kept s.heap.size ) (cwV 0 hwd (gV gd_Page_onSide wd_1_56 wd_1_58 ws_1 wd_1_2) rfl rfl rfl (by decide +kernel) ⟨Nat.le_of_ble_eq_true rfl, Nat.le_of_ble_eq_true rfl⟩) ⟨fun a U g mk q => by obtain ⟨q0, q1, qP, qK, qD, qF⟩ := q; exact ⟨q0, q1, qP, va_K.moved (u := U) (U := U.calling g mk a) (Vm.Alike.refl U.vm) qK, qD, SF.same (u := U) (U := U.calling g mk a) rfl qF⟩, va_recv hKc hPc (ci := 8) (q0 := 0) rfl rfl, fun U hU hW => ⟨rfl, by rw [hU], by rw [hU]; exact hPc, va_K.moved hW.alike hKc, hDc.weaken (fun _ _ _ _ => trivial), by rw [hU]; exact SF.narrow (SF.moved hW (SF.kept hF (fun a h1 h2 => hS.2.1 a h1 h2))) hFc⟩⟩ rfl rfl hl.1 rfl (lv_room (Nat.le_of_ble_eq_true rfl)) d_Page_height_1 ⟨Nat.le_of_ble_eq_true rfl, Nat.le_of_ble_eq_true rfl⟩) hS (fun q _ h => hFc q h) hFc ?_
  clear hPc hDc hKc hS
  intro r_1 u_2 t H1 locs ht hvm hw hB hz1 hk1 hS
  obtain ⟨hP1, hK1, hD1⟩ := hB
  rw [ht] at hP1
  have hK1 := va_K.moved hvm.symm hK1
  try dsimp only at hw
  have hJ := va_join (wr := []) (w1 := [(h0, .inr (8, [.int p_dpi, .int p_size, .int p_orientation, .int p_copies, .int p_top, .int p_length, .int p_left, .int p_right, .int p_stepAcross, .int p_stepDown, .int p_x, .int p_y, .int p_wrap, .int p_skip, .int p_lineEnd, .int p_font, .ref p_stack, .int p_stacked, .ref p_kept]))]) hP hD [0] [] rfl rfl (by decide) (by decide) hk1 hFc hP1 hD1
  clear hP hD hk1 hFc hP1 hD1 hz1
  obtain ⟨hP, hD⟩ := hJ
  clear hK1 ht hvm
  generalize H1 = H at hP hS ⊢
  replace hP : va_P (dC, dI) vcl [(h0, .inr (8, [.int p_dpi, .int p_size, .int p_orientation, .int p_copies, .int p_top, .int p_length, .int p_left, .int p_right, .int p_stepAcross, .int p_stepDown, .int p_x, .int p_y, .int p_wrap, .int p_skip, .int p_lineEnd, .int p_font, .ref p_stack, .int p_stacked, .ref p_kept]))] H := hP
  replace hD : va_D A [(h0, .inr (8, [.int p_dpi, .int p_size, .int p_orientation, .int p_copies, .int p_top, .int p_length, .int p_left, .int p_right, .int p_stepAcross, .int p_stepDown, .int p_x, .int p_y, .int p_wrap, .int p_skip, .int p_lineEnd, .int p_font, .ref p_stack, .int p_stacked, .ref p_kept]))] := hD
  obtain rfl := hw
  refine lv_if_eq (tgt := 17) hx hb d_Page_height_4 (by decide) (fun c4 => ?_) (fun c4 => ?_)
  · refine lv_aload_n hx hb d_Page_height_17 rfl (lv_at hl 0 rfl) ?_
    refine va_gets hx hb (SF_p1 hF).1 hS hown (hwd _ wd_1_66) (fun _ h9 => h9) d_Page_height_18 ?_
    have hPc := hP.sub (ws' := [(h0, .inr (8, [.int p_dpi, .int p_size, .int p_orientation, .int p_copies, .int p_top, .int p_length, .int p_left, .int p_right, .int p_stepAcross, .int p_stepDown, .int p_x, .int p_y, .int p_wrap, .int p_skip, .int p_lineEnd, .int p_font, .ref p_stack, .int p_stacked, .ref p_kept]))]) [0] rfl
    have hDc := hD.sub (ws' := [(h0, .inr (8, [.int p_dpi, .int p_size, .int p_orientation, .int p_copies, .int p_top, .int p_length, .int p_left, .int p_right, .int p_stepAcross, .int p_stepDown, .int p_x, .int p_y, .int p_wrap, .int p_skip, .int p_lineEnd, .int p_font, .ref p_stack, .int p_stacked, .ref p_kept]))]) [0] (by decide) rfl
    have hKc := hK.sub (tys' := []) [] rfl
    have hFc := va_free (wc := [(h0, .inr (8, [.int p_dpi, .int p_size, .int p_orientation, .int p_copies, .int p_top, .int p_length, .int p_left, .int p_right, .int p_stepAcross, .int p_stepDown, .int p_x, .int p_y, .int p_wrap, .int p_skip, .int p_lineEnd, .int p_font, .ref p_stack, .int p_stacked, .ref p_kept]))]) hD hS hA [0] rfl
    refine va_calli (va_runV (As := [.ref (tt 1)]) (rest := []) ⟨hx, hb, hml, hown, hwd⟩ (c_ofSize_DOWN l dC dI tt h0 p_dpi p_size p_orientation p_copies p_top p_length p_left p_right p_stepAcross p_stepDown p_x p_y p_wrap p_skip p_lineEnd p_font p_stack p_stacked p_kept k H.size (hs) (hk)) (cwV 1 hwd (gV gd_Page_ofSize wd_1_62 wd_1_64 ws_2 wd_1_2) rfl rfl rfl (by decide +kernel) ⟨Nat.le_of_ble_eq_true rfl, Nat.le_of_ble_eq_true rfl⟩) ⟨fun a U g mk q => by obtain ⟨q0, q1, qP, qK, qD, qF⟩ := q; exact ⟨q0, q1, qP, va_K.moved (u := U) (U := U.calling g mk a) (Vm.Alike.refl U.vm) qK, qD, SF.same (u := U) (U := U.calling g mk a) rfl qF⟩, va_recv hKc hPc (ci := 8) (q0 := 0) rfl rfl, fun U hU hW => ⟨rfl, by rw [hU], by rw [hU]; exact hPc, va_K.moved hW.alike hKc, hDc.weaken (fun _ _ _ _ => trivial), by rw [hU]; exact SF.narrow (SF.moved hW (SF.kept hF (fun a h1 h2 => hS.2.1 a h1 h2))) hFc⟩⟩ rfl rfl hl.1 rfl (lv_room (Nat.le_of_ble_eq_true rfl)) d_Page_height_21 ⟨Nat.le_of_ble_eq_true rfl, Nat.le_of_ble_eq_true rfl⟩) hS (fun q _ h => hFc q h) hFc ?_
    clear hPc hDc hKc hS
    intro r_3 u_4 t H1 locs ht hvm hw hB hz1 hk1 hS
    obtain ⟨hP1, hK1, hD1⟩ := hB
    rw [ht] at hP1
    have hK1 := va_K.moved hvm.symm hK1
    try dsimp only at hw
    have hJ := va_join (wr := []) (w1 := [(h0, .inr (8, [.int p_dpi, .int p_size, .int p_orientation, .int p_copies, .int p_top, .int p_length, .int p_left, .int p_right, .int p_stepAcross, .int p_stepDown, .int p_x, .int p_y, .int p_wrap, .int p_skip, .int p_lineEnd, .int p_font, .ref p_stack, .int p_stacked, .ref p_kept]))]) hP hD [0] [] rfl rfl (by decide) (by decide) hk1 hFc hP1 hD1
    clear hP hD hk1 hFc hP1 hD1 hz1
    obtain ⟨hP, hD⟩ := hJ
    clear hK1 ht hvm
    generalize H1 = H at hP hS ⊢
    replace hP : va_P (dC, dI) vcl [(h0, .inr (8, [.int p_dpi, .int p_size, .int p_orientation, .int p_copies, .int p_top, .int p_length, .int p_left, .int p_right, .int p_stepAcross, .int p_stepDown, .int p_x, .int p_y, .int p_wrap, .int p_skip, .int p_lineEnd, .int p_font, .ref p_stack, .int p_stacked, .ref p_kept]))] H := hP
    replace hD : va_D A [(h0, .inr (8, [.int p_dpi, .int p_size, .int p_orientation, .int p_copies, .int p_top, .int p_length, .int p_left, .int p_right, .int p_stepAcross, .int p_stepDown, .int p_x, .int p_y, .int p_wrap, .int p_skip, .int p_lineEnd, .int p_font, .ref p_stack, .int p_stacked, .ref p_kept]))] := hD
    obtain rfl := hw
    have hP9 := hP.sub (ws' := [(h0, .inr (8, [.int p_dpi, .int p_size, .int p_orientation, .int p_copies, .int p_top, .int p_length, .int p_left, .int p_right, .int p_stepAcross, .int p_stepDown, .int p_x, .int p_y, .int p_wrap, .int p_skip, .int p_lineEnd, .int p_font, .ref p_stack, .int p_stacked, .ref p_kept]))]) [0] rfl
    have hD9 := hD.sub (ws' := [(h0, .inr (8, [.int p_dpi, .int p_size, .int p_orientation, .int p_copies, .int p_top, .int p_length, .int p_left, .int p_right, .int p_stepAcross, .int p_stepDown, .int p_x, .int p_y, .int p_wrap, .int p_skip, .int p_lineEnd, .int p_font, .ref p_stack, .int p_stacked, .ref p_kept]))]) [0] (by decide) rfl
    have hK9 := hK.sub (tys' := []) [] rfl
    exact W.iret (v := tb_Page_DOWN k) hx hb hr (fun t ht hW => ⟨⟨(tb_Page_DOWN k), (), rfl, (show (tb_Page_DOWN k : Int32) = pg_H k p_orientation from (by unfold pg_H; split at c4 <;> simp_all)), by rw [ht]; exact hP9, va_K.moved hW.alike hK9, hD9⟩, hS.F ht⟩) hS.2.2 d_Page_height_24
  · refine lv_aload_n hx hb d_Page_height_7 rfl (lv_at hl 0 rfl) ?_
    refine va_gets hx hb (SF_p0 hF).1 hS hown (hwd _ wd_1_60) (fun _ h9 => h9) d_Page_height_8 ?_
    have hPc := hP.sub (ws' := [(h0, .inr (8, [.int p_dpi, .int p_size, .int p_orientation, .int p_copies, .int p_top, .int p_length, .int p_left, .int p_right, .int p_stepAcross, .int p_stepDown, .int p_x, .int p_y, .int p_wrap, .int p_skip, .int p_lineEnd, .int p_font, .ref p_stack, .int p_stacked, .ref p_kept]))]) [0] rfl
    have hDc := hD.sub (ws' := [(h0, .inr (8, [.int p_dpi, .int p_size, .int p_orientation, .int p_copies, .int p_top, .int p_length, .int p_left, .int p_right, .int p_stepAcross, .int p_stepDown, .int p_x, .int p_y, .int p_wrap, .int p_skip, .int p_lineEnd, .int p_font, .ref p_stack, .int p_stacked, .ref p_kept]))]) [0] (by decide) rfl
    have hKc := hK.sub (tys' := []) [] rfl
    have hFc := va_free (wc := [(h0, .inr (8, [.int p_dpi, .int p_size, .int p_orientation, .int p_copies, .int p_top, .int p_length, .int p_left, .int p_right, .int p_stepAcross, .int p_stepDown, .int p_x, .int p_y, .int p_wrap, .int p_skip, .int p_lineEnd, .int p_font, .ref p_stack, .int p_stacked, .ref p_kept]))]) hD hS hA [0] rfl
    refine va_calli (va_runV (As := [.ref (tt 0)]) (rest := []) ⟨hx, hb, hml, hown, hwd⟩ (c_ofSize_ACROSS l dC dI tt h0 p_dpi p_size p_orientation p_copies p_top p_length p_left p_right p_stepAcross p_stepDown p_x p_y p_wrap p_skip p_lineEnd p_font p_stack p_stacked p_kept k H.size (hs) (hk)) (cwV 1 hwd (gV gd_Page_ofSize wd_1_62 wd_1_64 ws_2 wd_1_2) rfl rfl rfl (by decide +kernel) ⟨Nat.le_of_ble_eq_true rfl, Nat.le_of_ble_eq_true rfl⟩) ⟨fun a U g mk q => by obtain ⟨q0, q1, qP, qK, qD, qF⟩ := q; exact ⟨q0, q1, qP, va_K.moved (u := U) (U := U.calling g mk a) (Vm.Alike.refl U.vm) qK, qD, SF.same (u := U) (U := U.calling g mk a) rfl qF⟩, va_recv hKc hPc (ci := 8) (q0 := 0) rfl rfl, fun U hU hW => ⟨rfl, by rw [hU], by rw [hU]; exact hPc, va_K.moved hW.alike hKc, hDc.weaken (fun _ _ _ _ => trivial), by rw [hU]; exact SF.narrow (SF.moved hW (SF.kept hF (fun a h1 h2 => hS.2.1 a h1 h2))) hFc⟩⟩ rfl rfl hl.1 rfl (lv_room (Nat.le_of_ble_eq_true rfl)) d_Page_height_11 ⟨Nat.le_of_ble_eq_true rfl, Nat.le_of_ble_eq_true rfl⟩) hS (fun q _ h => hFc q h) hFc ?_
    clear hPc hDc hKc hS
    intro r_5 u_6 t H1 locs ht hvm hw hB hz1 hk1 hS
    obtain ⟨hP1, hK1, hD1⟩ := hB
    rw [ht] at hP1
    have hK1 := va_K.moved hvm.symm hK1
    try dsimp only at hw
    have hJ := va_join (wr := []) (w1 := [(h0, .inr (8, [.int p_dpi, .int p_size, .int p_orientation, .int p_copies, .int p_top, .int p_length, .int p_left, .int p_right, .int p_stepAcross, .int p_stepDown, .int p_x, .int p_y, .int p_wrap, .int p_skip, .int p_lineEnd, .int p_font, .ref p_stack, .int p_stacked, .ref p_kept]))]) hP hD [0] [] rfl rfl (by decide) (by decide) hk1 hFc hP1 hD1
    clear hP hD hk1 hFc hP1 hD1 hz1
    obtain ⟨hP, hD⟩ := hJ
    clear hK1 ht hvm
    generalize H1 = H at hP hS ⊢
    replace hP : va_P (dC, dI) vcl [(h0, .inr (8, [.int p_dpi, .int p_size, .int p_orientation, .int p_copies, .int p_top, .int p_length, .int p_left, .int p_right, .int p_stepAcross, .int p_stepDown, .int p_x, .int p_y, .int p_wrap, .int p_skip, .int p_lineEnd, .int p_font, .ref p_stack, .int p_stacked, .ref p_kept]))] H := hP
    replace hD : va_D A [(h0, .inr (8, [.int p_dpi, .int p_size, .int p_orientation, .int p_copies, .int p_top, .int p_length, .int p_left, .int p_right, .int p_stepAcross, .int p_stepDown, .int p_x, .int p_y, .int p_wrap, .int p_skip, .int p_lineEnd, .int p_font, .ref p_stack, .int p_stacked, .ref p_kept]))] := hD
    obtain rfl := hw
    refine lv_goto (tgt := 24) hx hb d_Page_height_14 (by decide) ?_
    have hP9 := hP.sub (ws' := [(h0, .inr (8, [.int p_dpi, .int p_size, .int p_orientation, .int p_copies, .int p_top, .int p_length, .int p_left, .int p_right, .int p_stepAcross, .int p_stepDown, .int p_x, .int p_y, .int p_wrap, .int p_skip, .int p_lineEnd, .int p_font, .ref p_stack, .int p_stacked, .ref p_kept]))]) [0] rfl
    have hD9 := hD.sub (ws' := [(h0, .inr (8, [.int p_dpi, .int p_size, .int p_orientation, .int p_copies, .int p_top, .int p_length, .int p_left, .int p_right, .int p_stepAcross, .int p_stepDown, .int p_x, .int p_y, .int p_wrap, .int p_skip, .int p_lineEnd, .int p_font, .ref p_stack, .int p_stacked, .ref p_kept]))]) [0] (by decide) rfl
    have hK9 := hK.sub (tys' := []) [] rfl
    exact W.iret (v := tb_Page_ACROSS k) hx hb hr (fun t ht hW => ⟨⟨(tb_Page_ACROSS k), (), rfl, (show (tb_Page_ACROSS k : Int32) = pg_H k p_orientation from (by unfold pg_H; split at c4 <;> simp_all)), by rw [ht]; exact hP9, va_K.moved hW.alike hK9, hD9⟩, hS.F ht⟩) hS.2.2 d_Page_height_24

abbrev at_c_home (dC : Nat → ClassId) (dI : Nat → Nat → Nat) (h0 : Nat) (p_dpi : Int32) (p_size : Int32) (p_orientation : Int32) (p_copies : Int32) (p_top : Int32) (p_length : Int32) (p_left : Int32) (p_right : Int32) (p_stepAcross : Int32) (p_stepDown : Int32) (p_x : Int32) (p_y : Int32) (p_wrap : Int32) (p_skip : Int32) (p_lineEnd : Int32) (p_font : Int32) (p_stack : Nat) (p_stacked : Int32) (p_kept : Nat) (A : Nat → Prop) (u : Unit) (t : State) : Prop := match u with
  | _ => va_P (dC, dI) vcl [(h0, .inr (8, [.int p_dpi, .int p_size, .int p_orientation, .int p_copies, .int p_top, .int p_length, .int p_left, .int p_right, .int p_stepAcross, .int p_stepDown, .int p_x, .int p_y, .int p_wrap, .int p_skip, .int p_lineEnd, .int p_font, .ref p_stack, .int p_stacked, .ref p_kept]))] t.heap ∧ va_K (dC, dI) vcl [] t ∧ va_D A [(h0, .inr (8, [.int p_dpi, .int p_size, .int p_orientation, .int p_copies, .int p_top, .int p_length, .int p_left, .int p_right, .int p_stepAcross, .int p_stepDown, .int p_x, .int p_y, .int p_wrap, .int p_skip, .int p_lineEnd, .int p_font, .ref p_stack, .int p_stacked, .ref p_kept]))]
abbrev po_c_home (h0 : Nat) (p_dpi : Int32) (p_size : Int32) (p_orientation : Int32) (p_copies : Int32) (p_top : Int32) (p_length : Int32) (p_left : Int32) (p_right : Int32) (p_stepAcross : Int32) (p_stepDown : Int32) (p_x : Int32) (p_y : Int32) (p_wrap : Int32) (p_skip : Int32) (p_lineEnd : Int32) (p_font : Int32) (p_stack : Nat) (p_stacked : Int32) (p_kept : Nat) (r : Int32) (u : Unit) : Prop := match u with
  | _ => r = pg_home p_top p_stepDown
abbrev q_c_home (dC : Nat → ClassId) (dI : Nat → Nat → Nat) (h0 : Nat) (p_dpi : Int32) (p_size : Int32) (p_orientation : Int32) (p_copies : Int32) (p_top : Int32) (p_length : Int32) (p_left : Int32) (p_right : Int32) (p_stepAcross : Int32) (p_stepDown : Int32) (p_x : Int32) (p_y : Int32) (p_wrap : Int32) (p_skip : Int32) (p_lineEnd : Int32) (p_font : Int32) (p_stack : Nat) (p_stacked : Int32) (p_kept : Nat) (A : Nat → Prop) : Array Value → State → Outcome → State → Prop := va_Qi (po_c_home h0 p_dpi p_size p_orientation p_copies p_top p_length p_left p_right p_stepAcross p_stepDown p_x p_y p_wrap p_skip p_lineEnd p_font p_stack p_stacked p_kept) (at_c_home dC dI h0 p_dpi p_size p_orientation p_copies p_top p_length p_left p_right p_stepAcross p_stepDown p_x p_y p_wrap p_skip p_lineEnd p_font p_stack p_stacked p_kept A) A
abbrev rm_c_home : Room := { frames := 0, cells := 0, slots := 0, locals := 0 }
set_option maxHeartbeats 4000000 in
set_option maxRecDepth 100000 in
theorem c_home (l : Launch) (dC : Nat → ClassId) (dI : Nat → Nat → Nat) (tt : Nat → Nat) (h0 : Nat) (p_dpi : Int32) (p_size : Int32) (p_orientation : Int32) (p_copies : Int32) (p_top : Int32) (p_length : Int32) (p_left : Int32) (p_right : Int32) (p_stepAcross : Int32) (p_stepDown : Int32) (p_x : Int32) (p_y : Int32) (p_wrap : Int32) (p_skip : Int32) (p_lineEnd : Int32) (p_font : Int32) (p_stack : Nat) (p_stacked : Int32) (p_kept : Nat) (sz : Nat)  : Met l y_Page_home w_Page_home rm_c_home (va_Pc [.ref h0] (fun U => U.heap.size = sz ∧ va_P (dC, dI) vcl [(h0, .inr (8, [.int p_dpi, .int p_size, .int p_orientation, .int p_copies, .int p_top, .int p_length, .int p_left, .int p_right, .int p_stepAcross, .int p_stepDown, .int p_x, .int p_y, .int p_wrap, .int p_skip, .int p_lineEnd, .int p_font, .ref p_stack, .int p_stacked, .ref p_kept]))] U.heap ∧ va_K (dC, dI) vcl [] U ∧ va_D (fun _ => True) [(h0, .inr (8, [.int p_dpi, .int p_size, .int p_orientation, .int p_copies, .int p_top, .int p_length, .int p_left, .int p_right, .int p_stepAcross, .int p_stepDown, .int p_x, .int p_y, .int p_wrap, .int p_skip, .int p_lineEnd, .int p_font, .ref p_stack, .int p_stacked, .ref p_kept]))] ∧ SF tt (va_A [(h0, .inr (8, [.int p_dpi, .int p_size, .int p_orientation, .int p_copies, .int p_top, .int p_length, .int p_left, .int p_right, .int p_stepAcross, .int p_stepDown, .int p_x, .int p_y, .int p_wrap, .int p_skip, .int p_lineEnd, .int p_font, .ref p_stack, .int p_stacked, .ref p_kept]))] sz) U U.heap)) (q_c_home dC dI h0 p_dpi p_size p_orientation p_copies p_top p_length p_left p_right p_stepAcross p_stepDown p_x p_y p_wrap p_skip p_lineEnd p_font p_stack p_stacked p_kept (va_A [(h0, .inr (8, [.int p_dpi, .int p_size, .int p_orientation, .int p_copies, .int p_top, .int p_length, .int p_left, .int p_right, .int p_stepAcross, .int p_stepDown, .int p_x, .int p_y, .int p_wrap, .int p_skip, .int p_lineEnd, .int p_font, .ref p_stack, .int p_stacked, .ref p_kept]))] sz)) 0 0 (va_A [(h0, .inr (8, [.int p_dpi, .int p_size, .int p_orientation, .int p_copies, .int p_top, .int p_length, .int p_left, .int p_right, .int p_stepAcross, .int p_stepDown, .int p_x, .int p_y, .int p_wrap, .int p_skip, .int p_lineEnd, .int p_font, .ref p_stack, .int p_stacked, .ref p_kept]))] sz) := by
  refine Met.ofW (cc := b_Page_home) (maxL := 1) (ret := (some .int)) (by decide) rfl ?_
  intro p e s m args below meth c s₁ B hml hv
  obtain ⟨rfl, hsz, hP, hK, hD0, hF⟩ := hv
  have hx := B.exec
  have hb := B.bytes
  have hr := B.returns
  have hwd : ∀ w ∈ gT, w.before _ s = true := fun w h => atoms_spec (ws := w_Page_home) B.pre w (List.mem_cons_of_mem _ h)
  have hown : s.vm.findClass R_Page = some m.cls := findClass_of_methodNamed B.named
  have hlocks := B.notSynchronized
  subst hsz
  have hD := hD0.self (sz := s.heap.size)
  generalize hAe : va_A [(h0, .inr (8, [.int p_dpi, .int p_size, .int p_orientation, .int p_copies, .int p_top, .int p_length, .int p_left, .int p_right, .int p_stepAcross, .int p_stepDown, .int p_x, .int p_y, .int p_wrap, .int p_skip, .int p_lineEnd, .int p_font, .ref p_stack, .int p_stacked, .ref p_kept]))] s.heap.size = A at hD hF ⊢
  have hA : ∀ q : Nat, s.heap.size ≤ q → A q := fun q h => by rw [← hAe]; exact Or.inr h
  have hS : va_S A s.heap s.heap [] := va_S.rf
  have hP : va_P (dC, dI) vcl [(h0, .inr (8, [.int p_dpi, .int p_size, .int p_orientation, .int p_copies, .int p_top, .int p_length, .int p_left, .int p_right, .int p_stepAcross, .int p_stepDown, .int p_x, .int p_y, .int p_wrap, .int p_skip, .int p_lineEnd, .int p_font, .ref p_stack, .int p_stacked, .ref p_kept]))] s.heap := hP
  have hl := lv_entry ([.ref h0]) (n := 1) (Nat.le_of_ble_eq_true rfl)
  rw [lg_entry_eq]
  generalize (lg_sl ([.ref h0]) ++ List.replicate (1 - (lg_sl ([.ref h0])).length) Slot.unset).toArray = ls at hl ⊢
  have hl : lv_has ls 1 [(0, .ref h0)] := hl
  refine lv_aload_n hx hb d_Page_home_0 rfl (lv_at hl 0 rfl) ?_
  refine va_get (D := (dC, dI)) (ci := 8) (v := .int p_top) (C := R_Page) (T := F_Page) (N := 19) hx hb hwd i_Page hown hK hP 0 rfl rfl 4 (by decide) (hwd _ wd_1_99) (fun _ h9 => h9) rfl d_Page_home_1 ?_
  refine lv_aload_n hx hb d_Page_home_4 rfl (lv_at hl 0 rfl) ?_
  refine va_get (D := (dC, dI)) (ci := 8) (v := .int p_stepDown) (C := R_Page) (T := F_Page) (N := 19) hx hb hwd i_Page hown hK hP 0 rfl rfl 9 (by decide) (hwd _ wd_1_105) (fun _ h9 => h9) rfl d_Page_home_5 ?_
  refine lv_iconst (v := 3) hx hb d_Page_home_8 (by decide) ?_
  refine lv_imul hx hb d_Page_home_9 ?_
  refine lv_iconst (v := 4) hx hb d_Page_home_10 (by decide) ?_
  refine lv_idiv hx hb d_Page_home_11 (by decide) ?_
  refine lv_iadd hx hb d_Page_home_12 ?_
  have hP9 := hP.sub (ws' := [(h0, .inr (8, [.int p_dpi, .int p_size, .int p_orientation, .int p_copies, .int p_top, .int p_length, .int p_left, .int p_right, .int p_stepAcross, .int p_stepDown, .int p_x, .int p_y, .int p_wrap, .int p_skip, .int p_lineEnd, .int p_font, .ref p_stack, .int p_stacked, .ref p_kept]))]) [0] rfl
  have hD9 := hD.sub (ws' := [(h0, .inr (8, [.int p_dpi, .int p_size, .int p_orientation, .int p_copies, .int p_top, .int p_length, .int p_left, .int p_right, .int p_stepAcross, .int p_stepDown, .int p_x, .int p_y, .int p_wrap, .int p_skip, .int p_lineEnd, .int p_font, .ref p_stack, .int p_stacked, .ref p_kept]))]) [0] (by decide) rfl
  have hK9 := hK.sub (tys' := []) [] rfl
  exact W.iret (v := p_top + ((p_stepDown * 3) / 4)) hx hb hr (fun t ht hW => ⟨⟨(p_top + ((p_stepDown * 3) / 4)), (), rfl, (show (p_top + ((p_stepDown * 3) / 4) : Int32) = pg_home p_top p_stepDown from (by first | exact trivial | rfl | simp [*])), by rw [ht]; exact hP9, va_K.moved hW.alike hK9, hD9⟩, hS.F ht⟩) hS.2.2 d_Page_home_13

abbrev at_c_setX (dC : Nat → ClassId) (dI : Nat → Nat → Nat) (h0 : Nat) (p_dpi : Int32) (p_size : Int32) (p_orientation : Int32) (p_copies : Int32) (p_top : Int32) (p_length : Int32) (p_left : Int32) (p_right : Int32) (p_stepAcross : Int32) (p_stepDown : Int32) (p_x : Int32) (p_y : Int32) (p_wrap : Int32) (p_skip : Int32) (p_lineEnd : Int32) (p_font : Int32) (p_stack : Nat) (p_stacked : Int32) (p_kept : Nat) (place : Int64) (k : Nat) (A : Nat → Prop) (u : Int32) (t : State) : Prop := match u with
  | z => va_P (dC, dI) vcl [(h0, .inr (8, [.int p_dpi, .int p_size, .int p_orientation, .int p_copies, .int p_top, .int p_length, .int p_left, .int p_right, .int p_stepAcross, .int p_stepDown, .int z, .int p_y, .int p_wrap, .int p_skip, .int p_lineEnd, .int p_font, .ref p_stack, .int p_stacked, .ref p_kept]))] t.heap ∧ va_K (dC, dI) vcl [] t ∧ va_D A [(h0, .inr (8, [.int p_dpi, .int p_size, .int p_orientation, .int p_copies, .int p_top, .int p_length, .int p_left, .int p_right, .int p_stepAcross, .int p_stepDown, .int z, .int p_y, .int p_wrap, .int p_skip, .int p_lineEnd, .int p_font, .ref p_stack, .int p_stacked, .ref p_kept]))]
abbrev po_c_setX (h0 : Nat) (p_dpi : Int32) (p_size : Int32) (p_orientation : Int32) (p_copies : Int32) (p_top : Int32) (p_length : Int32) (p_left : Int32) (p_right : Int32) (p_stepAcross : Int32) (p_stepDown : Int32) (p_x : Int32) (p_y : Int32) (p_wrap : Int32) (p_skip : Int32) (p_lineEnd : Int32) (p_font : Int32) (p_stack : Nat) (p_stacked : Int32) (p_kept : Nat) (place : Int64) (k : Nat) (u : Int32) : Prop := match u with
  | z => z = pg_cl (pg_W k p_orientation) place
abbrev q_c_setX (dC : Nat → ClassId) (dI : Nat → Nat → Nat) (h0 : Nat) (p_dpi : Int32) (p_size : Int32) (p_orientation : Int32) (p_copies : Int32) (p_top : Int32) (p_length : Int32) (p_left : Int32) (p_right : Int32) (p_stepAcross : Int32) (p_stepDown : Int32) (p_x : Int32) (p_y : Int32) (p_wrap : Int32) (p_skip : Int32) (p_lineEnd : Int32) (p_font : Int32) (p_stack : Nat) (p_stacked : Int32) (p_kept : Nat) (place : Int64) (k : Nat) (A : Nat → Prop) : Array Value → State → Outcome → State → Prop := va_Qv (po_c_setX h0 p_dpi p_size p_orientation p_copies p_top p_length p_left p_right p_stepAcross p_stepDown p_x p_y p_wrap p_skip p_lineEnd p_font p_stack p_stacked p_kept place k) (at_c_setX dC dI h0 p_dpi p_size p_orientation p_copies p_top p_length p_left p_right p_stepAcross p_stepDown p_x p_y p_wrap p_skip p_lineEnd p_font p_stack p_stacked p_kept place k A) A
abbrev rm_c_setX : Room := { frames := 2, cells := 0, slots := 0, locals := 41 }
set_option maxHeartbeats 4000000 in
set_option maxRecDepth 100000 in
theorem c_setX (l : Launch) (dC : Nat → ClassId) (dI : Nat → Nat → Nat) (tt : Nat → Nat) (h0 : Nat) (p_dpi : Int32) (p_size : Int32) (p_orientation : Int32) (p_copies : Int32) (p_top : Int32) (p_length : Int32) (p_left : Int32) (p_right : Int32) (p_stepAcross : Int32) (p_stepDown : Int32) (p_x : Int32) (p_y : Int32) (p_wrap : Int32) (p_skip : Int32) (p_lineEnd : Int32) (p_font : Int32) (p_stack : Nat) (p_stacked : Int32) (p_kept : Nat) (place : Int64) (k : Nat) (sz : Nat) (hs : p_size = nI k) (hk : k < 5) : Met l y_Page_setX w_Page_setX rm_c_setX (va_Pc [.ref h0, .long place] (fun U => U.heap.size = sz ∧ va_P (dC, dI) vcl [(h0, .inr (8, [.int p_dpi, .int p_size, .int p_orientation, .int p_copies, .int p_top, .int p_length, .int p_left, .int p_right, .int p_stepAcross, .int p_stepDown, .int p_x, .int p_y, .int p_wrap, .int p_skip, .int p_lineEnd, .int p_font, .ref p_stack, .int p_stacked, .ref p_kept]))] U.heap ∧ va_K (dC, dI) vcl [] U ∧ va_D (fun _ => True) [(h0, .inr (8, [.int p_dpi, .int p_size, .int p_orientation, .int p_copies, .int p_top, .int p_length, .int p_left, .int p_right, .int p_stepAcross, .int p_stepDown, .int p_x, .int p_y, .int p_wrap, .int p_skip, .int p_lineEnd, .int p_font, .ref p_stack, .int p_stacked, .ref p_kept]))] ∧ SF tt (va_A [(h0, .inr (8, [.int p_dpi, .int p_size, .int p_orientation, .int p_copies, .int p_top, .int p_length, .int p_left, .int p_right, .int p_stepAcross, .int p_stepDown, .int p_x, .int p_y, .int p_wrap, .int p_skip, .int p_lineEnd, .int p_font, .ref p_stack, .int p_stacked, .ref p_kept]))] sz) U U.heap)) (q_c_setX dC dI h0 p_dpi p_size p_orientation p_copies p_top p_length p_left p_right p_stepAcross p_stepDown p_x p_y p_wrap p_skip p_lineEnd p_font p_stack p_stacked p_kept place k (va_A [(h0, .inr (8, [.int p_dpi, .int p_size, .int p_orientation, .int p_copies, .int p_top, .int p_length, .int p_left, .int p_right, .int p_stepAcross, .int p_stepDown, .int p_x, .int p_y, .int p_wrap, .int p_skip, .int p_lineEnd, .int p_font, .ref p_stack, .int p_stacked, .ref p_kept]))] sz)) 0 0 (va_A [(h0, .inr (8, [.int p_dpi, .int p_size, .int p_orientation, .int p_copies, .int p_top, .int p_length, .int p_left, .int p_right, .int p_stepAcross, .int p_stepDown, .int p_x, .int p_y, .int p_wrap, .int p_skip, .int p_lineEnd, .int p_font, .ref p_stack, .int p_stacked, .ref p_kept]))] sz) := by
  refine Met.ofW (cc := b_Page_setX) (maxL := 3) (ret := none) (by decide) rfl ?_
  intro p e s m args below meth c s₁ B hml hv
  obtain ⟨rfl, hsz, hP, hK, hD0, hF⟩ := hv
  have hx := B.exec
  have hb := B.bytes
  have hr := B.returns
  have hwd : ∀ w ∈ gT, w.before _ s = true := fun w h => atoms_spec (ws := w_Page_setX) B.pre w (List.mem_cons_of_mem _ h)
  have hown : s.vm.findClass R_Page = some m.cls := findClass_of_methodNamed B.named
  have hlocks := B.notSynchronized
  subst hsz
  have hD := hD0.self (sz := s.heap.size)
  generalize hAe : va_A [(h0, .inr (8, [.int p_dpi, .int p_size, .int p_orientation, .int p_copies, .int p_top, .int p_length, .int p_left, .int p_right, .int p_stepAcross, .int p_stepDown, .int p_x, .int p_y, .int p_wrap, .int p_skip, .int p_lineEnd, .int p_font, .ref p_stack, .int p_stacked, .ref p_kept]))] s.heap.size = A at hD hF ⊢
  have hA : ∀ q : Nat, s.heap.size ≤ q → A q := fun q h => by rw [← hAe]; exact Or.inr h
  have hS : va_S A s.heap s.heap [] := va_S.rf
  have hP : va_P (dC, dI) vcl [(h0, .inr (8, [.int p_dpi, .int p_size, .int p_orientation, .int p_copies, .int p_top, .int p_length, .int p_left, .int p_right, .int p_stepAcross, .int p_stepDown, .int p_x, .int p_y, .int p_wrap, .int p_skip, .int p_lineEnd, .int p_font, .ref p_stack, .int p_stacked, .ref p_kept]))] s.heap := hP
  have hl := lv_entry ([.ref h0, .long place]) (n := 3) (Nat.le_of_ble_eq_true rfl)
  rw [lg_entry_eq]
  generalize (lg_sl ([.ref h0, .long place]) ++ List.replicate (3 - (lg_sl ([.ref h0, .long place])).length) Slot.unset).toArray = ls at hl ⊢
  have hl : lv_has ls 3 [(0, .ref h0), (1, .long place)] := hl
  refine lv_aload_n hx hb d_Page_setX_0 rfl (lv_at hl 0 rfl) ?_
  refine lv_lconst (v := 0) hx hb d_Page_setX_1 (by decide) ?_
  refine lv_aload_n hx hb d_Page_setX_2 rfl (lv_at hl 0 rfl) ?_
  have hPc := hP.sub (ws' := [(h0, .inr (8, [.int p_dpi, .int p_size, .int p_orientation, .int p_copies, .int p_top, .int p_length, .int p_left, .int p_right, .int p_stepAcross, .int p_stepDown, .int p_x, .int p_y, .int p_wrap, .int p_skip, .int p_lineEnd, .int p_font, .ref p_stack, .int p_stacked, .ref p_kept]))]) [0] rfl
  have hDc := hD.sub (ws' := [(h0, .inr (8, [.int p_dpi, .int p_size, .int p_orientation, .int p_copies, .int p_top, .int p_length, .int p_left, .int p_right, .int p_stepAcross, .int p_stepDown, .int p_x, .int p_y, .int p_wrap, .int p_skip, .int p_lineEnd, .int p_font, .ref p_stack, .int p_stacked, .ref p_kept]))]) [0] (by decide) rfl
  have hKc := hK.sub (tys' := []) [] rfl
  have hFc := va_free (wc := [(h0, .inr (8, [.int p_dpi, .int p_size, .int p_orientation, .int p_copies, .int p_top, .int p_length, .int p_left, .int p_right, .int p_stepAcross, .int p_stepDown, .int p_x, .int p_y, .int p_wrap, .int p_skip, .int p_lineEnd, .int p_font, .ref p_stack, .int p_stacked, .ref p_kept]))]) hD hS hA [0] rfl
  refine va_calli (va_runV (As := []) (rest := [.long 0, .ref h0]) ⟨hx, hb, hml, hown, hwd⟩ (c_width l dC dI tt h0 p_dpi p_size p_orientation p_copies p_top p_length p_left p_right p_stepAcross p_stepDown p_x p_y p_wrap p_skip p_lineEnd p_font p_stack p_stacked p_kept k s.heap.size (hs) (hk)) (cwV 0 hwd (gV gd_Page_width wd_1_68 wd_1_69 wd_1_70 wd_1_2) rfl rfl rfl (by decide +kernel) ⟨Nat.le_of_ble_eq_true rfl, Nat.le_of_ble_eq_true rfl⟩) ⟨fun a U g mk q => by obtain ⟨q0, q1, qP, qK, qD, qF⟩ := q; exact ⟨q0, q1, qP, va_K.moved (u := U) (U := U.calling g mk a) (Vm.Alike.refl U.vm) qK, qD, SF.same (u := U) (U := U.calling g mk a) rfl qF⟩, va_recv hKc hPc (ci := 8) (q0 := 0) rfl rfl, fun U hU hW => ⟨rfl, by rw [hU], by rw [hU]; exact hPc, va_K.moved hW.alike hKc, hDc.weaken (fun _ _ _ _ => trivial), by rw [hU]; exact SF.narrow (SF.moved hW (SF.kept hF (fun a h1 h2 => hS.2.1 a h1 h2))) hFc⟩⟩ rfl rfl hl.1 rfl (lv_room (Nat.le_of_ble_eq_true rfl)) d_Page_setX_3 ⟨Nat.le_of_ble_eq_true rfl, Nat.le_of_ble_eq_true rfl⟩) hS (fun q _ h => hFc q h) hFc ?_
  clear hPc hDc hKc hS
  intro r_1 u_2 t H1 locs ht hvm hw hB hz1 hk1 hS
  obtain ⟨hP1, hK1, hD1⟩ := hB
  rw [ht] at hP1
  have hK1 := va_K.moved hvm.symm hK1
  try dsimp only at hw
  have hJ := va_join (wr := []) (w1 := [(h0, .inr (8, [.int p_dpi, .int p_size, .int p_orientation, .int p_copies, .int p_top, .int p_length, .int p_left, .int p_right, .int p_stepAcross, .int p_stepDown, .int p_x, .int p_y, .int p_wrap, .int p_skip, .int p_lineEnd, .int p_font, .ref p_stack, .int p_stacked, .ref p_kept]))]) hP hD [0] [] rfl rfl (by decide) (by decide) hk1 hFc hP1 hD1
  clear hP hD hk1 hFc hP1 hD1 hz1
  obtain ⟨hP, hD⟩ := hJ
  clear hK1 ht hvm
  generalize H1 = H at hP hS ⊢
  replace hP : va_P (dC, dI) vcl [(h0, .inr (8, [.int p_dpi, .int p_size, .int p_orientation, .int p_copies, .int p_top, .int p_length, .int p_left, .int p_right, .int p_stepAcross, .int p_stepDown, .int p_x, .int p_y, .int p_wrap, .int p_skip, .int p_lineEnd, .int p_font, .ref p_stack, .int p_stacked, .ref p_kept]))] H := hP
  replace hD : va_D A [(h0, .inr (8, [.int p_dpi, .int p_size, .int p_orientation, .int p_copies, .int p_top, .int p_length, .int p_left, .int p_right, .int p_stepAcross, .int p_stepDown, .int p_x, .int p_y, .int p_wrap, .int p_skip, .int p_lineEnd, .int p_font, .ref p_stack, .int p_stacked, .ref p_kept]))] := hD
  obtain rfl := hw
  refine lv_i2l (v := (pg_W k p_orientation).toInt64) hx hb d_Page_setX_6 rfl ?_
  refine lv_lload_n hx hb d_Page_setX_7 rfl (lv_at hl 1 rfl) ?_
  refine va_mmin_long hx hb (hml.trans hl.1.symm) hown (hwd _ wd_1_76) (hwd _ wd_1_77) (hwd _ wd_1_3) (hwd _ wd_1_78) (Nat.le_of_ble_eq_true rfl) (Nat.le_of_ble_eq_true rfl) (Nat.le_of_ble_eq_true rfl) (Nat.le_of_ble_eq_true rfl) d_Page_setX_8 ?_
  refine va_mmax_long hx hb (hml.trans hl.1.symm) hown (hwd _ wd_1_79) (hwd _ wd_1_80) (hwd _ wd_1_3) (hwd _ wd_1_81) (Nat.le_of_ble_eq_true rfl) (Nat.le_of_ble_eq_true rfl) (Nat.le_of_ble_eq_true rfl) (Nat.le_of_ble_eq_true rfl) d_Page_setX_11 ?_
  refine lv_l2i (v := (if (if place < ((pg_W k p_orientation).toInt64) then place else ((pg_W k p_orientation).toInt64)) < 0 then 0 else (if place < ((pg_W k p_orientation).toInt64) then place else ((pg_W k p_orientation).toInt64))).toInt32) hx hb d_Page_setX_14 rfl ?_
  refine va_put (D := (dC, dI)) (ci := 8) (v := .int ((if (if place < ((pg_W k p_orientation).toInt64) then place else ((pg_W k p_orientation).toInt64)) < 0 then 0 else (if place < ((pg_W k p_orientation).toInt64) then place else ((pg_W k p_orientation).toInt64))).toInt32)) (ty := .int) (C := R_Page) (T := F_Page) (N := 19) hx hb hwd i_Page t_Page to_Page no_Page hown hK hP hD hS 0 rfl rfl 10 (by decide) (hwd _ wd_1_110) (fun _ h9 => h9) rfl (by decide +kernel) rfl rfl (Nat.le_of_ble_eq_true rfl) d_Page_setX_15 ?_
  clear hP hD hS
  intro H locs hP hD hS
  replace hP : va_P (dC, dI) vcl [(h0, .inr (8, [.int p_dpi, .int p_size, .int p_orientation, .int p_copies, .int p_top, .int p_length, .int p_left, .int p_right, .int p_stepAcross, .int p_stepDown, .int ((if (if place < ((pg_W k p_orientation).toInt64) then place else ((pg_W k p_orientation).toInt64)) < 0 then 0 else (if place < ((pg_W k p_orientation).toInt64) then place else ((pg_W k p_orientation).toInt64))).toInt32), .int p_y, .int p_wrap, .int p_skip, .int p_lineEnd, .int p_font, .ref p_stack, .int p_stacked, .ref p_kept]))] H := hP
  replace hD : va_D A [(h0, .inr (8, [.int p_dpi, .int p_size, .int p_orientation, .int p_copies, .int p_top, .int p_length, .int p_left, .int p_right, .int p_stepAcross, .int p_stepDown, .int ((if (if place < ((pg_W k p_orientation).toInt64) then place else ((pg_W k p_orientation).toInt64)) < 0 then 0 else (if place < ((pg_W k p_orientation).toInt64) then place else ((pg_W k p_orientation).toInt64))).toInt32), .int p_y, .int p_wrap, .int p_skip, .int p_lineEnd, .int p_font, .ref p_stack, .int p_stacked, .ref p_kept]))] := hD
  have hP9 := hP.sub (ws' := [(h0, .inr (8, [.int p_dpi, .int p_size, .int p_orientation, .int p_copies, .int p_top, .int p_length, .int p_left, .int p_right, .int p_stepAcross, .int p_stepDown, .int ((if (if place < ((pg_W k p_orientation).toInt64) then place else ((pg_W k p_orientation).toInt64)) < 0 then 0 else (if place < ((pg_W k p_orientation).toInt64) then place else ((pg_W k p_orientation).toInt64))).toInt32), .int p_y, .int p_wrap, .int p_skip, .int p_lineEnd, .int p_font, .ref p_stack, .int p_stacked, .ref p_kept]))]) [0] rfl
  have hD9 := hD.sub (ws' := [(h0, .inr (8, [.int p_dpi, .int p_size, .int p_orientation, .int p_copies, .int p_top, .int p_length, .int p_left, .int p_right, .int p_stepAcross, .int p_stepDown, .int ((if (if place < ((pg_W k p_orientation).toInt64) then place else ((pg_W k p_orientation).toInt64)) < 0 then 0 else (if place < ((pg_W k p_orientation).toInt64) then place else ((pg_W k p_orientation).toInt64))).toInt32), .int p_y, .int p_wrap, .int p_skip, .int p_lineEnd, .int p_font, .ref p_stack, .int p_stacked, .ref p_kept]))]) [0] (by decide) rfl
  have hK9 := hK.sub (tys' := []) [] rfl
  exact W.vret hx hb hr (fun t ht hW => ⟨⟨((if (if place < ((pg_W k p_orientation).toInt64) then place else ((pg_W k p_orientation).toInt64)) < 0 then 0 else (if place < ((pg_W k p_orientation).toInt64) then place else ((pg_W k p_orientation).toInt64))).toInt32), rfl, (show ((if (if place < ((pg_W k p_orientation).toInt64) then place else ((pg_W k p_orientation).toInt64)) < 0 then 0 else (if place < ((pg_W k p_orientation).toInt64) then place else ((pg_W k p_orientation).toInt64))).toInt32 : Int32) = pg_cl (pg_W k p_orientation) place from (by first | exact trivial | rfl | simp [*])), by rw [ht]; exact hP9, va_K.moved hW.alike hK9, hD9⟩, hS.F ht⟩) hS.2.2 d_Page_setX_18

abbrev at_c_setY (dC : Nat → ClassId) (dI : Nat → Nat → Nat) (h0 : Nat) (p_dpi : Int32) (p_size : Int32) (p_orientation : Int32) (p_copies : Int32) (p_top : Int32) (p_length : Int32) (p_left : Int32) (p_right : Int32) (p_stepAcross : Int32) (p_stepDown : Int32) (p_x : Int32) (p_y : Int32) (p_wrap : Int32) (p_skip : Int32) (p_lineEnd : Int32) (p_font : Int32) (p_stack : Nat) (p_stacked : Int32) (p_kept : Nat) (place : Int64) (k : Nat) (A : Nat → Prop) (u : Int32) (t : State) : Prop := match u with
  | z => va_P (dC, dI) vcl [(h0, .inr (8, [.int p_dpi, .int p_size, .int p_orientation, .int p_copies, .int p_top, .int p_length, .int p_left, .int p_right, .int p_stepAcross, .int p_stepDown, .int p_x, .int z, .int p_wrap, .int p_skip, .int p_lineEnd, .int p_font, .ref p_stack, .int p_stacked, .ref p_kept]))] t.heap ∧ va_K (dC, dI) vcl [] t ∧ va_D A [(h0, .inr (8, [.int p_dpi, .int p_size, .int p_orientation, .int p_copies, .int p_top, .int p_length, .int p_left, .int p_right, .int p_stepAcross, .int p_stepDown, .int p_x, .int z, .int p_wrap, .int p_skip, .int p_lineEnd, .int p_font, .ref p_stack, .int p_stacked, .ref p_kept]))]
abbrev po_c_setY (h0 : Nat) (p_dpi : Int32) (p_size : Int32) (p_orientation : Int32) (p_copies : Int32) (p_top : Int32) (p_length : Int32) (p_left : Int32) (p_right : Int32) (p_stepAcross : Int32) (p_stepDown : Int32) (p_x : Int32) (p_y : Int32) (p_wrap : Int32) (p_skip : Int32) (p_lineEnd : Int32) (p_font : Int32) (p_stack : Nat) (p_stacked : Int32) (p_kept : Nat) (place : Int64) (k : Nat) (u : Int32) : Prop := match u with
  | z => z = pg_cl (pg_H k p_orientation) place
abbrev q_c_setY (dC : Nat → ClassId) (dI : Nat → Nat → Nat) (h0 : Nat) (p_dpi : Int32) (p_size : Int32) (p_orientation : Int32) (p_copies : Int32) (p_top : Int32) (p_length : Int32) (p_left : Int32) (p_right : Int32) (p_stepAcross : Int32) (p_stepDown : Int32) (p_x : Int32) (p_y : Int32) (p_wrap : Int32) (p_skip : Int32) (p_lineEnd : Int32) (p_font : Int32) (p_stack : Nat) (p_stacked : Int32) (p_kept : Nat) (place : Int64) (k : Nat) (A : Nat → Prop) : Array Value → State → Outcome → State → Prop := va_Qv (po_c_setY h0 p_dpi p_size p_orientation p_copies p_top p_length p_left p_right p_stepAcross p_stepDown p_x p_y p_wrap p_skip p_lineEnd p_font p_stack p_stacked p_kept place k) (at_c_setY dC dI h0 p_dpi p_size p_orientation p_copies p_top p_length p_left p_right p_stepAcross p_stepDown p_x p_y p_wrap p_skip p_lineEnd p_font p_stack p_stacked p_kept place k A) A
abbrev rm_c_setY : Room := { frames := 2, cells := 0, slots := 0, locals := 41 }
set_option maxHeartbeats 4000000 in
set_option maxRecDepth 100000 in
theorem c_setY (l : Launch) (dC : Nat → ClassId) (dI : Nat → Nat → Nat) (tt : Nat → Nat) (h0 : Nat) (p_dpi : Int32) (p_size : Int32) (p_orientation : Int32) (p_copies : Int32) (p_top : Int32) (p_length : Int32) (p_left : Int32) (p_right : Int32) (p_stepAcross : Int32) (p_stepDown : Int32) (p_x : Int32) (p_y : Int32) (p_wrap : Int32) (p_skip : Int32) (p_lineEnd : Int32) (p_font : Int32) (p_stack : Nat) (p_stacked : Int32) (p_kept : Nat) (place : Int64) (k : Nat) (sz : Nat) (hs : p_size = nI k) (hk : k < 5) : Met l y_Page_setY w_Page_setY rm_c_setY (va_Pc [.ref h0, .long place] (fun U => U.heap.size = sz ∧ va_P (dC, dI) vcl [(h0, .inr (8, [.int p_dpi, .int p_size, .int p_orientation, .int p_copies, .int p_top, .int p_length, .int p_left, .int p_right, .int p_stepAcross, .int p_stepDown, .int p_x, .int p_y, .int p_wrap, .int p_skip, .int p_lineEnd, .int p_font, .ref p_stack, .int p_stacked, .ref p_kept]))] U.heap ∧ va_K (dC, dI) vcl [] U ∧ va_D (fun _ => True) [(h0, .inr (8, [.int p_dpi, .int p_size, .int p_orientation, .int p_copies, .int p_top, .int p_length, .int p_left, .int p_right, .int p_stepAcross, .int p_stepDown, .int p_x, .int p_y, .int p_wrap, .int p_skip, .int p_lineEnd, .int p_font, .ref p_stack, .int p_stacked, .ref p_kept]))] ∧ SF tt (va_A [(h0, .inr (8, [.int p_dpi, .int p_size, .int p_orientation, .int p_copies, .int p_top, .int p_length, .int p_left, .int p_right, .int p_stepAcross, .int p_stepDown, .int p_x, .int p_y, .int p_wrap, .int p_skip, .int p_lineEnd, .int p_font, .ref p_stack, .int p_stacked, .ref p_kept]))] sz) U U.heap)) (q_c_setY dC dI h0 p_dpi p_size p_orientation p_copies p_top p_length p_left p_right p_stepAcross p_stepDown p_x p_y p_wrap p_skip p_lineEnd p_font p_stack p_stacked p_kept place k (va_A [(h0, .inr (8, [.int p_dpi, .int p_size, .int p_orientation, .int p_copies, .int p_top, .int p_length, .int p_left, .int p_right, .int p_stepAcross, .int p_stepDown, .int p_x, .int p_y, .int p_wrap, .int p_skip, .int p_lineEnd, .int p_font, .ref p_stack, .int p_stacked, .ref p_kept]))] sz)) 0 0 (va_A [(h0, .inr (8, [.int p_dpi, .int p_size, .int p_orientation, .int p_copies, .int p_top, .int p_length, .int p_left, .int p_right, .int p_stepAcross, .int p_stepDown, .int p_x, .int p_y, .int p_wrap, .int p_skip, .int p_lineEnd, .int p_font, .ref p_stack, .int p_stacked, .ref p_kept]))] sz) := by
  refine Met.ofW (cc := b_Page_setY) (maxL := 3) (ret := none) (by decide) rfl ?_
  intro p e s m args below meth c s₁ B hml hv
  obtain ⟨rfl, hsz, hP, hK, hD0, hF⟩ := hv
  have hx := B.exec
  have hb := B.bytes
  have hr := B.returns
  have hwd : ∀ w ∈ gT, w.before _ s = true := fun w h => atoms_spec (ws := w_Page_setY) B.pre w (List.mem_cons_of_mem _ h)
  have hown : s.vm.findClass R_Page = some m.cls := findClass_of_methodNamed B.named
  have hlocks := B.notSynchronized
  subst hsz
  have hD := hD0.self (sz := s.heap.size)
  generalize hAe : va_A [(h0, .inr (8, [.int p_dpi, .int p_size, .int p_orientation, .int p_copies, .int p_top, .int p_length, .int p_left, .int p_right, .int p_stepAcross, .int p_stepDown, .int p_x, .int p_y, .int p_wrap, .int p_skip, .int p_lineEnd, .int p_font, .ref p_stack, .int p_stacked, .ref p_kept]))] s.heap.size = A at hD hF ⊢
  have hA : ∀ q : Nat, s.heap.size ≤ q → A q := fun q h => by rw [← hAe]; exact Or.inr h
  have hS : va_S A s.heap s.heap [] := va_S.rf
  have hP : va_P (dC, dI) vcl [(h0, .inr (8, [.int p_dpi, .int p_size, .int p_orientation, .int p_copies, .int p_top, .int p_length, .int p_left, .int p_right, .int p_stepAcross, .int p_stepDown, .int p_x, .int p_y, .int p_wrap, .int p_skip, .int p_lineEnd, .int p_font, .ref p_stack, .int p_stacked, .ref p_kept]))] s.heap := hP
  have hl := lv_entry ([.ref h0, .long place]) (n := 3) (Nat.le_of_ble_eq_true rfl)
  rw [lg_entry_eq]
  generalize (lg_sl ([.ref h0, .long place]) ++ List.replicate (3 - (lg_sl ([.ref h0, .long place])).length) Slot.unset).toArray = ls at hl ⊢
  have hl : lv_has ls 3 [(0, .ref h0), (1, .long place)] := hl
  refine lv_aload_n hx hb d_Page_setY_0 rfl (lv_at hl 0 rfl) ?_
  refine lv_lconst (v := 0) hx hb d_Page_setY_1 (by decide) ?_
  refine lv_aload_n hx hb d_Page_setY_2 rfl (lv_at hl 0 rfl) ?_
  have hPc := hP.sub (ws' := [(h0, .inr (8, [.int p_dpi, .int p_size, .int p_orientation, .int p_copies, .int p_top, .int p_length, .int p_left, .int p_right, .int p_stepAcross, .int p_stepDown, .int p_x, .int p_y, .int p_wrap, .int p_skip, .int p_lineEnd, .int p_font, .ref p_stack, .int p_stacked, .ref p_kept]))]) [0] rfl
  have hDc := hD.sub (ws' := [(h0, .inr (8, [.int p_dpi, .int p_size, .int p_orientation, .int p_copies, .int p_top, .int p_length, .int p_left, .int p_right, .int p_stepAcross, .int p_stepDown, .int p_x, .int p_y, .int p_wrap, .int p_skip, .int p_lineEnd, .int p_font, .ref p_stack, .int p_stacked, .ref p_kept]))]) [0] (by decide) rfl
  have hKc := hK.sub (tys' := []) [] rfl
  have hFc := va_free (wc := [(h0, .inr (8, [.int p_dpi, .int p_size, .int p_orientation, .int p_copies, .int p_top, .int p_length, .int p_left, .int p_right, .int p_stepAcross, .int p_stepDown, .int p_x, .int p_y, .int p_wrap, .int p_skip, .int p_lineEnd, .int p_font, .ref p_stack, .int p_stacked, .ref p_kept]))]) hD hS hA [0] rfl
  refine va_calli (va_runV (As := []) (rest := [.long 0, .ref h0]) ⟨hx, hb, hml, hown, hwd⟩ (c_height l dC dI tt h0 p_dpi p_size p_orientation p_copies p_top p_length p_left p_right p_stepAcross p_stepDown p_x p_y p_wrap p_skip p_lineEnd p_font p_stack p_stacked p_kept k s.heap.size (hs) (hk)) (cwV 0 hwd (gV gd_Page_height wd_1_52 wd_1_53 wd_1_54 wd_1_2) rfl rfl rfl (by decide +kernel) ⟨Nat.le_of_ble_eq_true rfl, Nat.le_of_ble_eq_true rfl⟩) ⟨fun a U g mk q => by obtain ⟨q0, q1, qP, qK, qD, qF⟩ := q; exact ⟨q0, q1, qP, va_K.moved (u := U) (U := U.calling g mk a) (Vm.Alike.refl U.vm) qK, qD, SF.same (u := U) (U := U.calling g mk a) rfl qF⟩, va_recv hKc hPc (ci := 8) (q0 := 0) rfl rfl, fun U hU hW => ⟨rfl, by rw [hU], by rw [hU]; exact hPc, va_K.moved hW.alike hKc, hDc.weaken (fun _ _ _ _ => trivial), by rw [hU]; exact SF.narrow (SF.moved hW (SF.kept hF (fun a h1 h2 => hS.2.1 a h1 h2))) hFc⟩⟩ rfl rfl hl.1 rfl (lv_room (Nat.le_of_ble_eq_true rfl)) d_Page_setY_3 ⟨Nat.le_of_ble_eq_true rfl, Nat.le_of_ble_eq_true rfl⟩) hS (fun q _ h => hFc q h) hFc ?_
  clear hPc hDc hKc hS
  intro r_1 u_2 t H1 locs ht hvm hw hB hz1 hk1 hS
  obtain ⟨hP1, hK1, hD1⟩ := hB
  rw [ht] at hP1
  have hK1 := va_K.moved hvm.symm hK1
  try dsimp only at hw
  have hJ := va_join (wr := []) (w1 := [(h0, .inr (8, [.int p_dpi, .int p_size, .int p_orientation, .int p_copies, .int p_top, .int p_length, .int p_left, .int p_right, .int p_stepAcross, .int p_stepDown, .int p_x, .int p_y, .int p_wrap, .int p_skip, .int p_lineEnd, .int p_font, .ref p_stack, .int p_stacked, .ref p_kept]))]) hP hD [0] [] rfl rfl (by decide) (by decide) hk1 hFc hP1 hD1
  clear hP hD hk1 hFc hP1 hD1 hz1
  obtain ⟨hP, hD⟩ := hJ
  clear hK1 ht hvm
  generalize H1 = H at hP hS ⊢
  replace hP : va_P (dC, dI) vcl [(h0, .inr (8, [.int p_dpi, .int p_size, .int p_orientation, .int p_copies, .int p_top, .int p_length, .int p_left, .int p_right, .int p_stepAcross, .int p_stepDown, .int p_x, .int p_y, .int p_wrap, .int p_skip, .int p_lineEnd, .int p_font, .ref p_stack, .int p_stacked, .ref p_kept]))] H := hP
  replace hD : va_D A [(h0, .inr (8, [.int p_dpi, .int p_size, .int p_orientation, .int p_copies, .int p_top, .int p_length, .int p_left, .int p_right, .int p_stepAcross, .int p_stepDown, .int p_x, .int p_y, .int p_wrap, .int p_skip, .int p_lineEnd, .int p_font, .ref p_stack, .int p_stacked, .ref p_kept]))] := hD
  obtain rfl := hw
  refine lv_i2l (v := (pg_H k p_orientation).toInt64) hx hb d_Page_setY_6 rfl ?_
  refine lv_lload_n hx hb d_Page_setY_7 rfl (lv_at hl 1 rfl) ?_
  refine va_mmin_long hx hb (hml.trans hl.1.symm) hown (hwd _ wd_1_76) (hwd _ wd_1_77) (hwd _ wd_1_3) (hwd _ wd_1_78) (Nat.le_of_ble_eq_true rfl) (Nat.le_of_ble_eq_true rfl) (Nat.le_of_ble_eq_true rfl) (Nat.le_of_ble_eq_true rfl) d_Page_setY_8 ?_
  refine va_mmax_long hx hb (hml.trans hl.1.symm) hown (hwd _ wd_1_79) (hwd _ wd_1_80) (hwd _ wd_1_3) (hwd _ wd_1_81) (Nat.le_of_ble_eq_true rfl) (Nat.le_of_ble_eq_true rfl) (Nat.le_of_ble_eq_true rfl) (Nat.le_of_ble_eq_true rfl) d_Page_setY_11 ?_
  refine lv_l2i (v := (if (if place < ((pg_H k p_orientation).toInt64) then place else ((pg_H k p_orientation).toInt64)) < 0 then 0 else (if place < ((pg_H k p_orientation).toInt64) then place else ((pg_H k p_orientation).toInt64))).toInt32) hx hb d_Page_setY_14 rfl ?_
  refine va_put (D := (dC, dI)) (ci := 8) (v := .int ((if (if place < ((pg_H k p_orientation).toInt64) then place else ((pg_H k p_orientation).toInt64)) < 0 then 0 else (if place < ((pg_H k p_orientation).toInt64) then place else ((pg_H k p_orientation).toInt64))).toInt32)) (ty := .int) (C := R_Page) (T := F_Page) (N := 19) hx hb hwd i_Page t_Page to_Page no_Page hown hK hP hD hS 0 rfl rfl 11 (by decide) (hwd _ wd_1_113) (fun _ h9 => h9) rfl (by decide +kernel) rfl rfl (Nat.le_of_ble_eq_true rfl) d_Page_setY_15 ?_
  clear hP hD hS
  intro H locs hP hD hS
  replace hP : va_P (dC, dI) vcl [(h0, .inr (8, [.int p_dpi, .int p_size, .int p_orientation, .int p_copies, .int p_top, .int p_length, .int p_left, .int p_right, .int p_stepAcross, .int p_stepDown, .int p_x, .int ((if (if place < ((pg_H k p_orientation).toInt64) then place else ((pg_H k p_orientation).toInt64)) < 0 then 0 else (if place < ((pg_H k p_orientation).toInt64) then place else ((pg_H k p_orientation).toInt64))).toInt32), .int p_wrap, .int p_skip, .int p_lineEnd, .int p_font, .ref p_stack, .int p_stacked, .ref p_kept]))] H := hP
  replace hD : va_D A [(h0, .inr (8, [.int p_dpi, .int p_size, .int p_orientation, .int p_copies, .int p_top, .int p_length, .int p_left, .int p_right, .int p_stepAcross, .int p_stepDown, .int p_x, .int ((if (if place < ((pg_H k p_orientation).toInt64) then place else ((pg_H k p_orientation).toInt64)) < 0 then 0 else (if place < ((pg_H k p_orientation).toInt64) then place else ((pg_H k p_orientation).toInt64))).toInt32), .int p_wrap, .int p_skip, .int p_lineEnd, .int p_font, .ref p_stack, .int p_stacked, .ref p_kept]))] := hD
  have hP9 := hP.sub (ws' := [(h0, .inr (8, [.int p_dpi, .int p_size, .int p_orientation, .int p_copies, .int p_top, .int p_length, .int p_left, .int p_right, .int p_stepAcross, .int p_stepDown, .int p_x, .int ((if (if place < ((pg_H k p_orientation).toInt64) then place else ((pg_H k p_orientation).toInt64)) < 0 then 0 else (if place < ((pg_H k p_orientation).toInt64) then place else ((pg_H k p_orientation).toInt64))).toInt32), .int p_wrap, .int p_skip, .int p_lineEnd, .int p_font, .ref p_stack, .int p_stacked, .ref p_kept]))]) [0] rfl
  have hD9 := hD.sub (ws' := [(h0, .inr (8, [.int p_dpi, .int p_size, .int p_orientation, .int p_copies, .int p_top, .int p_length, .int p_left, .int p_right, .int p_stepAcross, .int p_stepDown, .int p_x, .int ((if (if place < ((pg_H k p_orientation).toInt64) then place else ((pg_H k p_orientation).toInt64)) < 0 then 0 else (if place < ((pg_H k p_orientation).toInt64) then place else ((pg_H k p_orientation).toInt64))).toInt32), .int p_wrap, .int p_skip, .int p_lineEnd, .int p_font, .ref p_stack, .int p_stacked, .ref p_kept]))]) [0] (by decide) rfl
  have hK9 := hK.sub (tys' := []) [] rfl
  exact W.vret hx hb hr (fun t ht hW => ⟨⟨((if (if place < ((pg_H k p_orientation).toInt64) then place else ((pg_H k p_orientation).toInt64)) < 0 then 0 else (if place < ((pg_H k p_orientation).toInt64) then place else ((pg_H k p_orientation).toInt64))).toInt32), rfl, (show ((if (if place < ((pg_H k p_orientation).toInt64) then place else ((pg_H k p_orientation).toInt64)) < 0 then 0 else (if place < ((pg_H k p_orientation).toInt64) then place else ((pg_H k p_orientation).toInt64))).toInt32 : Int32) = pg_cl (pg_H k p_orientation) place from (by first | exact trivial | rfl | simp [*])), by rw [ht]; exact hP9, va_K.moved hW.alike hK9, hD9⟩, hS.F ht⟩) hS.2.2 d_Page_setY_18

abbrev at_c_setDefaults (dC : Nat → ClassId) (dI : Nat → Nat → Nat) (h0 : Nat) (p_dpi : Int32) (p_size : Int32) (p_orientation : Int32) (p_copies : Int32) (p_top : Int32) (p_length : Int32) (p_left : Int32) (p_right : Int32) (p_stepAcross : Int32) (p_stepDown : Int32) (p_x : Int32) (p_y : Int32) (p_wrap : Int32) (p_skip : Int32) (p_lineEnd : Int32) (p_font : Int32) (p_stack : Nat) (p_stacked : Int32) (p_kept : Nat) (k : Nat) (A : Nat → Prop) (u : Unit) (t : State) : Prop := match u with
  | _ => va_P (dC, dI) vcl [(h0, .inr (8, [.int p_dpi, .int p_size, .int p_orientation, .int p_copies, .int 3600, .int (pg_H k p_orientation - 7200), .int 0, .int (pg_W k p_orientation), .int p_stepAcross, .int p_stepDown, .int (pg_cl (pg_W k p_orientation) 0), .int (pg_cl (pg_H k p_orientation) (pg_home 3600 p_stepDown).toInt64), .int p_wrap, .int p_skip, .int p_lineEnd, .int p_font, .ref p_stack, .int p_stacked, .ref p_kept]))] t.heap ∧ va_K (dC, dI) vcl [] t ∧ va_D A [(h0, .inr (8, [.int p_dpi, .int p_size, .int p_orientation, .int p_copies, .int 3600, .int (pg_H k p_orientation - 7200), .int 0, .int (pg_W k p_orientation), .int p_stepAcross, .int p_stepDown, .int (pg_cl (pg_W k p_orientation) 0), .int (pg_cl (pg_H k p_orientation) (pg_home 3600 p_stepDown).toInt64), .int p_wrap, .int p_skip, .int p_lineEnd, .int p_font, .ref p_stack, .int p_stacked, .ref p_kept]))]
abbrev po_c_setDefaults (h0 : Nat) (p_dpi : Int32) (p_size : Int32) (p_orientation : Int32) (p_copies : Int32) (p_top : Int32) (p_length : Int32) (p_left : Int32) (p_right : Int32) (p_stepAcross : Int32) (p_stepDown : Int32) (p_x : Int32) (p_y : Int32) (p_wrap : Int32) (p_skip : Int32) (p_lineEnd : Int32) (p_font : Int32) (p_stack : Nat) (p_stacked : Int32) (p_kept : Nat) (k : Nat) (u : Unit) : Prop := match u with
  | _ => True
abbrev q_c_setDefaults (dC : Nat → ClassId) (dI : Nat → Nat → Nat) (h0 : Nat) (p_dpi : Int32) (p_size : Int32) (p_orientation : Int32) (p_copies : Int32) (p_top : Int32) (p_length : Int32) (p_left : Int32) (p_right : Int32) (p_stepAcross : Int32) (p_stepDown : Int32) (p_x : Int32) (p_y : Int32) (p_wrap : Int32) (p_skip : Int32) (p_lineEnd : Int32) (p_font : Int32) (p_stack : Nat) (p_stacked : Int32) (p_kept : Nat) (k : Nat) (A : Nat → Prop) : Array Value → State → Outcome → State → Prop := va_Qv (po_c_setDefaults h0 p_dpi p_size p_orientation p_copies p_top p_length p_left p_right p_stepAcross p_stepDown p_x p_y p_wrap p_skip p_lineEnd p_font p_stack p_stacked p_kept k) (at_c_setDefaults dC dI h0 p_dpi p_size p_orientation p_copies p_top p_length p_left p_right p_stepAcross p_stepDown p_x p_y p_wrap p_skip p_lineEnd p_font p_stack p_stacked p_kept k A) A
abbrev rm_c_setDefaults : Room := { frames := 3, cells := 0, slots := 0, locals := 63 }
set_option maxHeartbeats 4000000 in
set_option maxRecDepth 100000 in
theorem c_setDefaults (l : Launch) (dC : Nat → ClassId) (dI : Nat → Nat → Nat) (tt : Nat → Nat) (h0 : Nat) (p_dpi : Int32) (p_size : Int32) (p_orientation : Int32) (p_copies : Int32) (p_top : Int32) (p_length : Int32) (p_left : Int32) (p_right : Int32) (p_stepAcross : Int32) (p_stepDown : Int32) (p_x : Int32) (p_y : Int32) (p_wrap : Int32) (p_skip : Int32) (p_lineEnd : Int32) (p_font : Int32) (p_stack : Nat) (p_stacked : Int32) (p_kept : Nat) (k : Nat) (sz : Nat) (hs : p_size = nI k) (hk : k < 5) : Met l y_Page_setDefaults w_Page_setDefaults rm_c_setDefaults (va_Pc [.ref h0] (fun U => U.heap.size = sz ∧ va_P (dC, dI) vcl [(h0, .inr (8, [.int p_dpi, .int p_size, .int p_orientation, .int p_copies, .int p_top, .int p_length, .int p_left, .int p_right, .int p_stepAcross, .int p_stepDown, .int p_x, .int p_y, .int p_wrap, .int p_skip, .int p_lineEnd, .int p_font, .ref p_stack, .int p_stacked, .ref p_kept]))] U.heap ∧ va_K (dC, dI) vcl [] U ∧ va_D (fun _ => True) [(h0, .inr (8, [.int p_dpi, .int p_size, .int p_orientation, .int p_copies, .int p_top, .int p_length, .int p_left, .int p_right, .int p_stepAcross, .int p_stepDown, .int p_x, .int p_y, .int p_wrap, .int p_skip, .int p_lineEnd, .int p_font, .ref p_stack, .int p_stacked, .ref p_kept]))] ∧ SF tt (va_A [(h0, .inr (8, [.int p_dpi, .int p_size, .int p_orientation, .int p_copies, .int p_top, .int p_length, .int p_left, .int p_right, .int p_stepAcross, .int p_stepDown, .int p_x, .int p_y, .int p_wrap, .int p_skip, .int p_lineEnd, .int p_font, .ref p_stack, .int p_stacked, .ref p_kept]))] sz) U U.heap)) (q_c_setDefaults dC dI h0 p_dpi p_size p_orientation p_copies p_top p_length p_left p_right p_stepAcross p_stepDown p_x p_y p_wrap p_skip p_lineEnd p_font p_stack p_stacked p_kept k (va_A [(h0, .inr (8, [.int p_dpi, .int p_size, .int p_orientation, .int p_copies, .int p_top, .int p_length, .int p_left, .int p_right, .int p_stepAcross, .int p_stepDown, .int p_x, .int p_y, .int p_wrap, .int p_skip, .int p_lineEnd, .int p_font, .ref p_stack, .int p_stacked, .ref p_kept]))] sz)) 0 0 (va_A [(h0, .inr (8, [.int p_dpi, .int p_size, .int p_orientation, .int p_copies, .int p_top, .int p_length, .int p_left, .int p_right, .int p_stepAcross, .int p_stepDown, .int p_x, .int p_y, .int p_wrap, .int p_skip, .int p_lineEnd, .int p_font, .ref p_stack, .int p_stacked, .ref p_kept]))] sz) := by
  refine Met.ofW (cc := b_Page_setDefaults) (maxL := 1) (ret := none) (by decide) rfl ?_
  intro p e s m args below meth c s₁ B hml hv
  obtain ⟨rfl, hsz, hP, hK, hD0, hF⟩ := hv
  have hx := B.exec
  have hb := B.bytes
  have hr := B.returns
  have hwd : ∀ w ∈ gT, w.before _ s = true := fun w h => atoms_spec (ws := w_Page_setDefaults) B.pre w (List.mem_cons_of_mem _ h)
  have hown : s.vm.findClass R_Page = some m.cls := findClass_of_methodNamed B.named
  have hlocks := B.notSynchronized
  subst hsz
  have hD := hD0.self (sz := s.heap.size)
  generalize hAe : va_A [(h0, .inr (8, [.int p_dpi, .int p_size, .int p_orientation, .int p_copies, .int p_top, .int p_length, .int p_left, .int p_right, .int p_stepAcross, .int p_stepDown, .int p_x, .int p_y, .int p_wrap, .int p_skip, .int p_lineEnd, .int p_font, .ref p_stack, .int p_stacked, .ref p_kept]))] s.heap.size = A at hD hF ⊢
  have hA : ∀ q : Nat, s.heap.size ≤ q → A q := fun q h => by rw [← hAe]; exact Or.inr h
  have hS : va_S A s.heap s.heap [] := va_S.rf
  have hP : va_P (dC, dI) vcl [(h0, .inr (8, [.int p_dpi, .int p_size, .int p_orientation, .int p_copies, .int p_top, .int p_length, .int p_left, .int p_right, .int p_stepAcross, .int p_stepDown, .int p_x, .int p_y, .int p_wrap, .int p_skip, .int p_lineEnd, .int p_font, .ref p_stack, .int p_stacked, .ref p_kept]))] s.heap := hP
  have hl := lv_entry ([.ref h0]) (n := 1) (Nat.le_of_ble_eq_true rfl)
  rw [lg_entry_eq]
  generalize (lg_sl ([.ref h0]) ++ List.replicate (1 - (lg_sl ([.ref h0])).length) Slot.unset).toArray = ls at hl ⊢
  have hl : lv_has ls 1 [(0, .ref h0)] := hl
  refine lv_aload_n hx hb d_Page_setDefaults_0 rfl (lv_at hl 0 rfl) ?_
  refine lv_sipush (v := 3600) hx hb d_Page_setDefaults_1 (by decide) ?_
  refine va_put (D := (dC, dI)) (ci := 8) (v := .int 3600) (ty := .int) (C := R_Page) (T := F_Page) (N := 19) hx hb hwd i_Page t_Page to_Page no_Page hown hK hP hD hS 0 rfl rfl 4 (by decide) (hwd _ wd_1_99) (fun _ h9 => h9) rfl (by decide +kernel) rfl rfl (Nat.le_of_ble_eq_true rfl) d_Page_setDefaults_4 ?_
  clear hP hD hS
  intro H locs hP hD hS
  replace hP : va_P (dC, dI) vcl [(h0, .inr (8, [.int p_dpi, .int p_size, .int p_orientation, .int p_copies, .int 3600, .int p_length, .int p_left, .int p_right, .int p_stepAcross, .int p_stepDown, .int p_x, .int p_y, .int p_wrap, .int p_skip, .int p_lineEnd, .int p_font, .ref p_stack, .int p_stacked, .ref p_kept]))] H := hP
  replace hD : va_D A [(h0, .inr (8, [.int p_dpi, .int p_size, .int p_orientation, .int p_copies, .int 3600, .int p_length, .int p_left, .int p_right, .int p_stepAcross, .int p_stepDown, .int p_x, .int p_y, .int p_wrap, .int p_skip, .int p_lineEnd, .int p_font, .ref p_stack, .int p_stacked, .ref p_kept]))] := hD
  refine lv_aload_n hx hb d_Page_setDefaults_7 rfl (lv_at hl 0 rfl) ?_
  refine lv_aload_n hx hb d_Page_setDefaults_8 rfl (lv_at hl 0 rfl) ?_
  have hPc := hP.sub (ws' := [(h0, .inr (8, [.int p_dpi, .int p_size, .int p_orientation, .int p_copies, .int 3600, .int p_length, .int p_left, .int p_right, .int p_stepAcross, .int p_stepDown, .int p_x, .int p_y, .int p_wrap, .int p_skip, .int p_lineEnd, .int p_font, .ref p_stack, .int p_stacked, .ref p_kept]))]) [0] rfl
  have hDc := hD.sub (ws' := [(h0, .inr (8, [.int p_dpi, .int p_size, .int p_orientation, .int p_copies, .int 3600, .int p_length, .int p_left, .int p_right, .int p_stepAcross, .int p_stepDown, .int p_x, .int p_y, .int p_wrap, .int p_skip, .int p_lineEnd, .int p_font, .ref p_stack, .int p_stacked, .ref p_kept]))]) [0] (by decide) rfl
  have hKc := hK.sub (tys' := []) [] rfl
  have hFc := va_free (wc := [(h0, .inr (8, [.int p_dpi, .int p_size, .int p_orientation, .int p_copies, .int 3600, .int p_length, .int p_left, .int p_right, .int p_stepAcross, .int p_stepDown, .int p_x, .int p_y, .int p_wrap, .int p_skip, .int p_lineEnd, .int p_font, .ref p_stack, .int p_stacked, .ref p_kept]))]) hD hS hA [0] rfl
  refine va_calli (va_runV (As := []) (rest := [.ref h0]) ⟨hx, hb, hml, hown, hwd⟩ (c_height l dC dI tt h0 p_dpi p_size p_orientation p_copies 3600 p_length p_left p_right p_stepAcross p_stepDown p_x p_y p_wrap p_skip p_lineEnd p_font p_stack p_stacked p_kept k H.size (hs) (hk)) (cwV 0 hwd (gV gd_Page_height wd_1_52 wd_1_53 wd_1_54 wd_1_2) rfl rfl rfl (by decide +kernel) ⟨Nat.le_of_ble_eq_true rfl, Nat.le_of_ble_eq_true rfl⟩) ⟨fun a U g mk q => by obtain ⟨q0, q1, qP, qK, qD, qF⟩ := q; exact ⟨q0, q1, qP, va_K.moved (u := U) (U := U.calling g mk a) (Vm.Alike.refl U.vm) qK, qD, SF.same (u := U) (U := U.calling g mk a) rfl qF⟩, va_recv hKc hPc (ci := 8) (q0 := 0) rfl rfl, fun U hU hW => ⟨rfl, by rw [hU], by rw [hU]; exact hPc, va_K.moved hW.alike hKc, hDc.weaken (fun _ _ _ _ => trivial), by rw [hU]; exact SF.narrow (SF.moved hW (SF.kept hF (fun a h1 h2 => hS.2.1 a h1 h2))) hFc⟩⟩ rfl rfl hl.1 rfl (lv_room (Nat.le_of_ble_eq_true rfl)) d_Page_setDefaults_9 ⟨Nat.le_of_ble_eq_true rfl, Nat.le_of_ble_eq_true rfl⟩) hS (fun q _ h => hFc q h) hFc ?_
  clear hPc hDc hKc hS
  intro r_1 u_2 t H1 locs ht hvm hw hB hz1 hk1 hS
  obtain ⟨hP1, hK1, hD1⟩ := hB
  rw [ht] at hP1
  have hK1 := va_K.moved hvm.symm hK1
  try dsimp only at hw
  have hJ := va_join (wr := []) (w1 := [(h0, .inr (8, [.int p_dpi, .int p_size, .int p_orientation, .int p_copies, .int 3600, .int p_length, .int p_left, .int p_right, .int p_stepAcross, .int p_stepDown, .int p_x, .int p_y, .int p_wrap, .int p_skip, .int p_lineEnd, .int p_font, .ref p_stack, .int p_stacked, .ref p_kept]))]) hP hD [0] [] rfl rfl (by decide) (by decide) hk1 hFc hP1 hD1
  clear hP hD hk1 hFc hP1 hD1 hz1
  obtain ⟨hP, hD⟩ := hJ
  clear hK1 ht hvm
  generalize H1 = H at hP hS ⊢
  replace hP : va_P (dC, dI) vcl [(h0, .inr (8, [.int p_dpi, .int p_size, .int p_orientation, .int p_copies, .int 3600, .int p_length, .int p_left, .int p_right, .int p_stepAcross, .int p_stepDown, .int p_x, .int p_y, .int p_wrap, .int p_skip, .int p_lineEnd, .int p_font, .ref p_stack, .int p_stacked, .ref p_kept]))] H := hP
  replace hD : va_D A [(h0, .inr (8, [.int p_dpi, .int p_size, .int p_orientation, .int p_copies, .int 3600, .int p_length, .int p_left, .int p_right, .int p_stepAcross, .int p_stepDown, .int p_x, .int p_y, .int p_wrap, .int p_skip, .int p_lineEnd, .int p_font, .ref p_stack, .int p_stacked, .ref p_kept]))] := hD
  obtain rfl := hw
  refine lv_sipush (v := 7200) hx hb d_Page_setDefaults_12 (by decide) ?_
  refine lv_isub hx hb d_Page_setDefaults_15 ?_
  refine va_put (D := (dC, dI)) (ci := 8) (v := .int ((pg_H k p_orientation) - 7200)) (ty := .int) (C := R_Page) (T := F_Page) (N := 19) hx hb hwd i_Page t_Page to_Page no_Page hown hK hP hD hS 0 rfl rfl 5 (by decide) (hwd _ wd_1_100) (fun _ h9 => h9) rfl (by decide +kernel) rfl rfl (Nat.le_of_ble_eq_true rfl) d_Page_setDefaults_16 ?_
  clear hP hD hS
  intro H locs hP hD hS
  replace hP : va_P (dC, dI) vcl [(h0, .inr (8, [.int p_dpi, .int p_size, .int p_orientation, .int p_copies, .int 3600, .int ((pg_H k p_orientation) - 7200), .int p_left, .int p_right, .int p_stepAcross, .int p_stepDown, .int p_x, .int p_y, .int p_wrap, .int p_skip, .int p_lineEnd, .int p_font, .ref p_stack, .int p_stacked, .ref p_kept]))] H := hP
  replace hD : va_D A [(h0, .inr (8, [.int p_dpi, .int p_size, .int p_orientation, .int p_copies, .int 3600, .int ((pg_H k p_orientation) - 7200), .int p_left, .int p_right, .int p_stepAcross, .int p_stepDown, .int p_x, .int p_y, .int p_wrap, .int p_skip, .int p_lineEnd, .int p_font, .ref p_stack, .int p_stacked, .ref p_kept]))] := hD
  refine lv_aload_n hx hb d_Page_setDefaults_19 rfl (lv_at hl 0 rfl) ?_
  refine lv_iconst (v := 0) hx hb d_Page_setDefaults_20 (by decide) ?_
  refine va_put (D := (dC, dI)) (ci := 8) (v := .int 0) (ty := .int) (C := R_Page) (T := F_Page) (N := 19) hx hb hwd i_Page t_Page to_Page no_Page hown hK hP hD hS 0 rfl rfl 6 (by decide) (hwd _ wd_1_101) (fun _ h9 => h9) rfl (by decide +kernel) rfl rfl (Nat.le_of_ble_eq_true rfl) d_Page_setDefaults_21 ?_
  clear hP hD hS
  intro H locs hP hD hS
  replace hP : va_P (dC, dI) vcl [(h0, .inr (8, [.int p_dpi, .int p_size, .int p_orientation, .int p_copies, .int 3600, .int ((pg_H k p_orientation) - 7200), .int 0, .int p_right, .int p_stepAcross, .int p_stepDown, .int p_x, .int p_y, .int p_wrap, .int p_skip, .int p_lineEnd, .int p_font, .ref p_stack, .int p_stacked, .ref p_kept]))] H := hP
  replace hD : va_D A [(h0, .inr (8, [.int p_dpi, .int p_size, .int p_orientation, .int p_copies, .int 3600, .int ((pg_H k p_orientation) - 7200), .int 0, .int p_right, .int p_stepAcross, .int p_stepDown, .int p_x, .int p_y, .int p_wrap, .int p_skip, .int p_lineEnd, .int p_font, .ref p_stack, .int p_stacked, .ref p_kept]))] := hD
  refine lv_aload_n hx hb d_Page_setDefaults_24 rfl (lv_at hl 0 rfl) ?_
  refine lv_aload_n hx hb d_Page_setDefaults_25 rfl (lv_at hl 0 rfl) ?_
  have hPc := hP.sub (ws' := [(h0, .inr (8, [.int p_dpi, .int p_size, .int p_orientation, .int p_copies, .int 3600, .int ((pg_H k p_orientation) - 7200), .int 0, .int p_right, .int p_stepAcross, .int p_stepDown, .int p_x, .int p_y, .int p_wrap, .int p_skip, .int p_lineEnd, .int p_font, .ref p_stack, .int p_stacked, .ref p_kept]))]) [0] rfl
  have hDc := hD.sub (ws' := [(h0, .inr (8, [.int p_dpi, .int p_size, .int p_orientation, .int p_copies, .int 3600, .int ((pg_H k p_orientation) - 7200), .int 0, .int p_right, .int p_stepAcross, .int p_stepDown, .int p_x, .int p_y, .int p_wrap, .int p_skip, .int p_lineEnd, .int p_font, .ref p_stack, .int p_stacked, .ref p_kept]))]) [0] (by decide) rfl
  have hKc := hK.sub (tys' := []) [] rfl
  have hFc := va_free (wc := [(h0, .inr (8, [.int p_dpi, .int p_size, .int p_orientation, .int p_copies, .int 3600, .int ((pg_H k p_orientation) - 7200), .int 0, .int p_right, .int p_stepAcross, .int p_stepDown, .int p_x, .int p_y, .int p_wrap, .int p_skip, .int p_lineEnd, .int p_font, .ref p_stack, .int p_stacked, .ref p_kept]))]) hD hS hA [0] rfl
  refine va_calli (va_runV (As := []) (rest := [.ref h0]) ⟨hx, hb, hml, hown, hwd⟩ (c_width l dC dI tt h0 p_dpi p_size p_orientation p_copies 3600 ((pg_H k p_orientation) - 7200) 0 p_right p_stepAcross p_stepDown p_x p_y p_wrap p_skip p_lineEnd p_font p_stack p_stacked p_kept k H.size (hs) (hk)) (cwV 0 hwd (gV gd_Page_width wd_1_68 wd_1_69 wd_1_70 wd_1_2) rfl rfl rfl (by decide +kernel) ⟨Nat.le_of_ble_eq_true rfl, Nat.le_of_ble_eq_true rfl⟩) ⟨fun a U g mk q => by obtain ⟨q0, q1, qP, qK, qD, qF⟩ := q; exact ⟨q0, q1, qP, va_K.moved (u := U) (U := U.calling g mk a) (Vm.Alike.refl U.vm) qK, qD, SF.same (u := U) (U := U.calling g mk a) rfl qF⟩, va_recv hKc hPc (ci := 8) (q0 := 0) rfl rfl, fun U hU hW => ⟨rfl, by rw [hU], by rw [hU]; exact hPc, va_K.moved hW.alike hKc, hDc.weaken (fun _ _ _ _ => trivial), by rw [hU]; exact SF.narrow (SF.moved hW (SF.kept hF (fun a h1 h2 => hS.2.1 a h1 h2))) hFc⟩⟩ rfl rfl hl.1 rfl (lv_room (Nat.le_of_ble_eq_true rfl)) d_Page_setDefaults_26 ⟨Nat.le_of_ble_eq_true rfl, Nat.le_of_ble_eq_true rfl⟩) hS (fun q _ h => hFc q h) hFc ?_
  clear hPc hDc hKc hS
  intro r_3 u_4 t H1 locs ht hvm hw hB hz1 hk1 hS
  obtain ⟨hP1, hK1, hD1⟩ := hB
  rw [ht] at hP1
  have hK1 := va_K.moved hvm.symm hK1
  try dsimp only at hw
  have hJ := va_join (wr := []) (w1 := [(h0, .inr (8, [.int p_dpi, .int p_size, .int p_orientation, .int p_copies, .int 3600, .int ((pg_H k p_orientation) - 7200), .int 0, .int p_right, .int p_stepAcross, .int p_stepDown, .int p_x, .int p_y, .int p_wrap, .int p_skip, .int p_lineEnd, .int p_font, .ref p_stack, .int p_stacked, .ref p_kept]))]) hP hD [0] [] rfl rfl (by decide) (by decide) hk1 hFc hP1 hD1
  clear hP hD hk1 hFc hP1 hD1 hz1
  obtain ⟨hP, hD⟩ := hJ
  clear hK1 ht hvm
  generalize H1 = H at hP hS ⊢
  replace hP : va_P (dC, dI) vcl [(h0, .inr (8, [.int p_dpi, .int p_size, .int p_orientation, .int p_copies, .int 3600, .int ((pg_H k p_orientation) - 7200), .int 0, .int p_right, .int p_stepAcross, .int p_stepDown, .int p_x, .int p_y, .int p_wrap, .int p_skip, .int p_lineEnd, .int p_font, .ref p_stack, .int p_stacked, .ref p_kept]))] H := hP
  replace hD : va_D A [(h0, .inr (8, [.int p_dpi, .int p_size, .int p_orientation, .int p_copies, .int 3600, .int ((pg_H k p_orientation) - 7200), .int 0, .int p_right, .int p_stepAcross, .int p_stepDown, .int p_x, .int p_y, .int p_wrap, .int p_skip, .int p_lineEnd, .int p_font, .ref p_stack, .int p_stacked, .ref p_kept]))] := hD
  obtain rfl := hw
  refine va_put (D := (dC, dI)) (ci := 8) (v := .int (pg_W k p_orientation)) (ty := .int) (C := R_Page) (T := F_Page) (N := 19) hx hb hwd i_Page t_Page to_Page no_Page hown hK hP hD hS 0 rfl rfl 7 (by decide) (hwd _ wd_1_102) (fun _ h9 => h9) rfl (by decide +kernel) rfl rfl (Nat.le_of_ble_eq_true rfl) d_Page_setDefaults_29 ?_
  clear hP hD hS
  intro H locs hP hD hS
  replace hP : va_P (dC, dI) vcl [(h0, .inr (8, [.int p_dpi, .int p_size, .int p_orientation, .int p_copies, .int 3600, .int ((pg_H k p_orientation) - 7200), .int 0, .int (pg_W k p_orientation), .int p_stepAcross, .int p_stepDown, .int p_x, .int p_y, .int p_wrap, .int p_skip, .int p_lineEnd, .int p_font, .ref p_stack, .int p_stacked, .ref p_kept]))] H := hP
  replace hD : va_D A [(h0, .inr (8, [.int p_dpi, .int p_size, .int p_orientation, .int p_copies, .int 3600, .int ((pg_H k p_orientation) - 7200), .int 0, .int (pg_W k p_orientation), .int p_stepAcross, .int p_stepDown, .int p_x, .int p_y, .int p_wrap, .int p_skip, .int p_lineEnd, .int p_font, .ref p_stack, .int p_stacked, .ref p_kept]))] := hD
  refine lv_aload_n hx hb d_Page_setDefaults_32 rfl (lv_at hl 0 rfl) ?_
  refine lv_lconst (v := 0) hx hb d_Page_setDefaults_33 (by decide) ?_
  have hPc := hP.sub (ws' := [(h0, .inr (8, [.int p_dpi, .int p_size, .int p_orientation, .int p_copies, .int 3600, .int ((pg_H k p_orientation) - 7200), .int 0, .int (pg_W k p_orientation), .int p_stepAcross, .int p_stepDown, .int p_x, .int p_y, .int p_wrap, .int p_skip, .int p_lineEnd, .int p_font, .ref p_stack, .int p_stacked, .ref p_kept]))]) [0] rfl
  have hDc := hD.sub (ws' := [(h0, .inr (8, [.int p_dpi, .int p_size, .int p_orientation, .int p_copies, .int 3600, .int ((pg_H k p_orientation) - 7200), .int 0, .int (pg_W k p_orientation), .int p_stepAcross, .int p_stepDown, .int p_x, .int p_y, .int p_wrap, .int p_skip, .int p_lineEnd, .int p_font, .ref p_stack, .int p_stacked, .ref p_kept]))]) [0] (by decide) rfl
  have hKc := hK.sub (tys' := []) [] rfl
  have hFc := va_free (wc := [(h0, .inr (8, [.int p_dpi, .int p_size, .int p_orientation, .int p_copies, .int 3600, .int ((pg_H k p_orientation) - 7200), .int 0, .int (pg_W k p_orientation), .int p_stepAcross, .int p_stepDown, .int p_x, .int p_y, .int p_wrap, .int p_skip, .int p_lineEnd, .int p_font, .ref p_stack, .int p_stacked, .ref p_kept]))]) hD hS hA [0] rfl
  refine va_callv (va_runV (As := [.long 0]) (rest := []) ⟨hx, hb, hml, hown, hwd⟩ (c_setX l dC dI tt h0 p_dpi p_size p_orientation p_copies 3600 ((pg_H k p_orientation) - 7200) 0 (pg_W k p_orientation) p_stepAcross p_stepDown p_x p_y p_wrap p_skip p_lineEnd p_font p_stack p_stacked p_kept 0 k H.size (hs) (hk)) (cwV 1 hwd (gV gd_Page_setX wd_1_72 wd_1_73 wd_1_74 wd_1_2) rfl rfl rfl (by decide +kernel) ⟨Nat.le_of_ble_eq_true rfl, Nat.le_of_ble_eq_true rfl⟩) ⟨fun a U g mk q => by obtain ⟨q0, q1, qP, qK, qD, qF⟩ := q; exact ⟨q0, q1, qP, va_K.moved (u := U) (U := U.calling g mk a) (Vm.Alike.refl U.vm) qK, qD, SF.same (u := U) (U := U.calling g mk a) rfl qF⟩, va_recv hKc hPc (ci := 8) (q0 := 0) rfl rfl, fun U hU hW => ⟨rfl, by rw [hU], by rw [hU]; exact hPc, va_K.moved hW.alike hKc, hDc.weaken (fun _ _ _ _ => trivial), by rw [hU]; exact SF.narrow (SF.moved hW (SF.kept hF (fun a h1 h2 => hS.2.1 a h1 h2))) hFc⟩⟩ rfl rfl hl.1 rfl (lv_room (Nat.le_of_ble_eq_true rfl)) d_Page_setDefaults_34 ⟨Nat.le_of_ble_eq_true rfl, Nat.le_of_ble_eq_true rfl⟩) hS (fun q _ h => hFc q h) hFc ?_
  clear hPc hDc hKc hS
  intro u_6 t H1 locs ht hvm hw hB hz1 hk1 hS
  obtain ⟨z_7, rfl⟩ : ∃ z, z = u_6 := ⟨_, rfl⟩
  obtain ⟨hP1, hK1, hD1⟩ := hB
  rw [ht] at hP1
  have hK1 := va_K.moved hvm.symm hK1
  try dsimp only at hw
  have hJ := va_join (wr := []) (w1 := [(h0, .inr (8, [.int p_dpi, .int p_size, .int p_orientation, .int p_copies, .int 3600, .int ((pg_H k p_orientation) - 7200), .int 0, .int (pg_W k p_orientation), .int p_stepAcross, .int p_stepDown, .int z_7, .int p_y, .int p_wrap, .int p_skip, .int p_lineEnd, .int p_font, .ref p_stack, .int p_stacked, .ref p_kept]))]) hP hD [0] [] rfl rfl (by decide) (by decide) hk1 hFc hP1 hD1
  clear hP hD hk1 hFc hP1 hD1 hz1
  obtain ⟨hP, hD⟩ := hJ
  clear hK1 ht hvm
  generalize H1 = H at hP hS ⊢
  replace hP : va_P (dC, dI) vcl [(h0, .inr (8, [.int p_dpi, .int p_size, .int p_orientation, .int p_copies, .int 3600, .int ((pg_H k p_orientation) - 7200), .int 0, .int (pg_W k p_orientation), .int p_stepAcross, .int p_stepDown, .int z_7, .int p_y, .int p_wrap, .int p_skip, .int p_lineEnd, .int p_font, .ref p_stack, .int p_stacked, .ref p_kept]))] H := hP
  replace hD : va_D A [(h0, .inr (8, [.int p_dpi, .int p_size, .int p_orientation, .int p_copies, .int 3600, .int ((pg_H k p_orientation) - 7200), .int 0, .int (pg_W k p_orientation), .int p_stepAcross, .int p_stepDown, .int z_7, .int p_y, .int p_wrap, .int p_skip, .int p_lineEnd, .int p_font, .ref p_stack, .int p_stacked, .ref p_kept]))] := hD
  obtain rfl := hw
  refine lv_aload_n hx hb d_Page_setDefaults_37 rfl (lv_at hl 0 rfl) ?_
  refine lv_aload_n hx hb d_Page_setDefaults_38 rfl (lv_at hl 0 rfl) ?_
  have hPc := hP.sub (ws' := [(h0, .inr (8, [.int p_dpi, .int p_size, .int p_orientation, .int p_copies, .int 3600, .int ((pg_H k p_orientation) - 7200), .int 0, .int (pg_W k p_orientation), .int p_stepAcross, .int p_stepDown, .int (pg_cl (pg_W k p_orientation) (0 : Int64)), .int p_y, .int p_wrap, .int p_skip, .int p_lineEnd, .int p_font, .ref p_stack, .int p_stacked, .ref p_kept]))]) [0] rfl
  have hDc := hD.sub (ws' := [(h0, .inr (8, [.int p_dpi, .int p_size, .int p_orientation, .int p_copies, .int 3600, .int ((pg_H k p_orientation) - 7200), .int 0, .int (pg_W k p_orientation), .int p_stepAcross, .int p_stepDown, .int (pg_cl (pg_W k p_orientation) (0 : Int64)), .int p_y, .int p_wrap, .int p_skip, .int p_lineEnd, .int p_font, .ref p_stack, .int p_stacked, .ref p_kept]))]) [0] (by decide) rfl
  have hKc := hK.sub (tys' := []) [] rfl
  have hFc := va_free (wc := [(h0, .inr (8, [.int p_dpi, .int p_size, .int p_orientation, .int p_copies, .int 3600, .int ((pg_H k p_orientation) - 7200), .int 0, .int (pg_W k p_orientation), .int p_stepAcross, .int p_stepDown, .int (pg_cl (pg_W k p_orientation) (0 : Int64)), .int p_y, .int p_wrap, .int p_skip, .int p_lineEnd, .int p_font, .ref p_stack, .int p_stacked, .ref p_kept]))]) hD hS hA [0] rfl
  refine va_calli (va_runV (As := []) (rest := [.ref h0]) ⟨hx, hb, hml, hown, hwd⟩ (c_home l dC dI tt h0 p_dpi p_size p_orientation p_copies 3600 ((pg_H k p_orientation) - 7200) 0 (pg_W k p_orientation) p_stepAcross p_stepDown (pg_cl (pg_W k p_orientation) (0 : Int64)) p_y p_wrap p_skip p_lineEnd p_font p_stack p_stacked p_kept H.size ) (cwV 0 hwd (gV gd_Page_home wd_1_82 wd_1_84 ws_3 wd_1_2) rfl rfl rfl (by decide +kernel) ⟨Nat.le_of_ble_eq_true rfl, Nat.le_of_ble_eq_true rfl⟩) ⟨fun a U g mk q => by obtain ⟨q0, q1, qP, qK, qD, qF⟩ := q; exact ⟨q0, q1, qP, va_K.moved (u := U) (U := U.calling g mk a) (Vm.Alike.refl U.vm) qK, qD, SF.same (u := U) (U := U.calling g mk a) rfl qF⟩, va_recv hKc hPc (ci := 8) (q0 := 0) rfl rfl, fun U hU hW => ⟨rfl, by rw [hU], by rw [hU]; exact hPc, va_K.moved hW.alike hKc, hDc.weaken (fun _ _ _ _ => trivial), by rw [hU]; exact SF.narrow (SF.moved hW (SF.kept hF (fun a h1 h2 => hS.2.1 a h1 h2))) hFc⟩⟩ rfl rfl hl.1 rfl (lv_room (Nat.le_of_ble_eq_true rfl)) d_Page_setDefaults_39 ⟨Nat.le_of_ble_eq_true rfl, Nat.le_of_ble_eq_true rfl⟩) hS (fun q _ h => hFc q h) hFc ?_
  clear hPc hDc hKc hS
  intro r_8 u_9 t H1 locs ht hvm hw hB hz1 hk1 hS
  obtain ⟨hP1, hK1, hD1⟩ := hB
  rw [ht] at hP1
  have hK1 := va_K.moved hvm.symm hK1
  try dsimp only at hw
  have hJ := va_join (wr := []) (w1 := [(h0, .inr (8, [.int p_dpi, .int p_size, .int p_orientation, .int p_copies, .int 3600, .int ((pg_H k p_orientation) - 7200), .int 0, .int (pg_W k p_orientation), .int p_stepAcross, .int p_stepDown, .int (pg_cl (pg_W k p_orientation) (0 : Int64)), .int p_y, .int p_wrap, .int p_skip, .int p_lineEnd, .int p_font, .ref p_stack, .int p_stacked, .ref p_kept]))]) hP hD [0] [] rfl rfl (by decide) (by decide) hk1 hFc hP1 hD1
  clear hP hD hk1 hFc hP1 hD1 hz1
  obtain ⟨hP, hD⟩ := hJ
  clear hK1 ht hvm
  generalize H1 = H at hP hS ⊢
  replace hP : va_P (dC, dI) vcl [(h0, .inr (8, [.int p_dpi, .int p_size, .int p_orientation, .int p_copies, .int 3600, .int ((pg_H k p_orientation) - 7200), .int 0, .int (pg_W k p_orientation), .int p_stepAcross, .int p_stepDown, .int (pg_cl (pg_W k p_orientation) (0 : Int64)), .int p_y, .int p_wrap, .int p_skip, .int p_lineEnd, .int p_font, .ref p_stack, .int p_stacked, .ref p_kept]))] H := hP
  replace hD : va_D A [(h0, .inr (8, [.int p_dpi, .int p_size, .int p_orientation, .int p_copies, .int 3600, .int ((pg_H k p_orientation) - 7200), .int 0, .int (pg_W k p_orientation), .int p_stepAcross, .int p_stepDown, .int (pg_cl (pg_W k p_orientation) (0 : Int64)), .int p_y, .int p_wrap, .int p_skip, .int p_lineEnd, .int p_font, .ref p_stack, .int p_stacked, .ref p_kept]))] := hD
  obtain rfl := hw
  refine lv_i2l (v := (pg_home (3600 : Int32) p_stepDown).toInt64) hx hb d_Page_setDefaults_42 rfl ?_
  have hPc := hP.sub (ws' := [(h0, .inr (8, [.int p_dpi, .int p_size, .int p_orientation, .int p_copies, .int 3600, .int ((pg_H k p_orientation) - 7200), .int 0, .int (pg_W k p_orientation), .int p_stepAcross, .int p_stepDown, .int (pg_cl (pg_W k p_orientation) (0 : Int64)), .int p_y, .int p_wrap, .int p_skip, .int p_lineEnd, .int p_font, .ref p_stack, .int p_stacked, .ref p_kept]))]) [0] rfl
  have hDc := hD.sub (ws' := [(h0, .inr (8, [.int p_dpi, .int p_size, .int p_orientation, .int p_copies, .int 3600, .int ((pg_H k p_orientation) - 7200), .int 0, .int (pg_W k p_orientation), .int p_stepAcross, .int p_stepDown, .int (pg_cl (pg_W k p_orientation) (0 : Int64)), .int p_y, .int p_wrap, .int p_skip, .int p_lineEnd, .int p_font, .ref p_stack, .int p_stacked, .ref p_kept]))]) [0] (by decide) rfl
  have hKc := hK.sub (tys' := []) [] rfl
  have hFc := va_free (wc := [(h0, .inr (8, [.int p_dpi, .int p_size, .int p_orientation, .int p_copies, .int 3600, .int ((pg_H k p_orientation) - 7200), .int 0, .int (pg_W k p_orientation), .int p_stepAcross, .int p_stepDown, .int (pg_cl (pg_W k p_orientation) (0 : Int64)), .int p_y, .int p_wrap, .int p_skip, .int p_lineEnd, .int p_font, .ref p_stack, .int p_stacked, .ref p_kept]))]) hD hS hA [0] rfl
  refine va_callv (va_runV (As := [.long ((pg_home (3600 : Int32) p_stepDown).toInt64)]) (rest := []) ⟨hx, hb, hml, hown, hwd⟩ (c_setY l dC dI tt h0 p_dpi p_size p_orientation p_copies 3600 ((pg_H k p_orientation) - 7200) 0 (pg_W k p_orientation) p_stepAcross p_stepDown (pg_cl (pg_W k p_orientation) (0 : Int64)) p_y p_wrap p_skip p_lineEnd p_font p_stack p_stacked p_kept ((pg_home (3600 : Int32) p_stepDown).toInt64) k H.size (hs) (hk)) (cwV 1 hwd (gV gd_Page_setY wd_1_86 wd_1_87 wd_1_88 wd_1_2) rfl rfl rfl (by decide +kernel) ⟨Nat.le_of_ble_eq_true rfl, Nat.le_of_ble_eq_true rfl⟩) ⟨fun a U g mk q => by obtain ⟨q0, q1, qP, qK, qD, qF⟩ := q; exact ⟨q0, q1, qP, va_K.moved (u := U) (U := U.calling g mk a) (Vm.Alike.refl U.vm) qK, qD, SF.same (u := U) (U := U.calling g mk a) rfl qF⟩, va_recv hKc hPc (ci := 8) (q0 := 0) rfl rfl, fun U hU hW => ⟨rfl, by rw [hU], by rw [hU]; exact hPc, va_K.moved hW.alike hKc, hDc.weaken (fun _ _ _ _ => trivial), by rw [hU]; exact SF.narrow (SF.moved hW (SF.kept hF (fun a h1 h2 => hS.2.1 a h1 h2))) hFc⟩⟩ rfl rfl hl.1 rfl (lv_room (Nat.le_of_ble_eq_true rfl)) d_Page_setDefaults_43 ⟨Nat.le_of_ble_eq_true rfl, Nat.le_of_ble_eq_true rfl⟩) hS (fun q _ h => hFc q h) hFc ?_
  clear hPc hDc hKc hS
  intro u_11 t H1 locs ht hvm hw hB hz1 hk1 hS
  obtain ⟨z_12, rfl⟩ : ∃ z, z = u_11 := ⟨_, rfl⟩
  obtain ⟨hP1, hK1, hD1⟩ := hB
  rw [ht] at hP1
  have hK1 := va_K.moved hvm.symm hK1
  try dsimp only at hw
  have hJ := va_join (wr := []) (w1 := [(h0, .inr (8, [.int p_dpi, .int p_size, .int p_orientation, .int p_copies, .int 3600, .int ((pg_H k p_orientation) - 7200), .int 0, .int (pg_W k p_orientation), .int p_stepAcross, .int p_stepDown, .int (pg_cl (pg_W k p_orientation) (0 : Int64)), .int z_12, .int p_wrap, .int p_skip, .int p_lineEnd, .int p_font, .ref p_stack, .int p_stacked, .ref p_kept]))]) hP hD [0] [] rfl rfl (by decide) (by decide) hk1 hFc hP1 hD1
  clear hP hD hk1 hFc hP1 hD1 hz1
  obtain ⟨hP, hD⟩ := hJ
  clear hK1 ht hvm
  generalize H1 = H at hP hS ⊢
  replace hP : va_P (dC, dI) vcl [(h0, .inr (8, [.int p_dpi, .int p_size, .int p_orientation, .int p_copies, .int 3600, .int ((pg_H k p_orientation) - 7200), .int 0, .int (pg_W k p_orientation), .int p_stepAcross, .int p_stepDown, .int (pg_cl (pg_W k p_orientation) (0 : Int64)), .int z_12, .int p_wrap, .int p_skip, .int p_lineEnd, .int p_font, .ref p_stack, .int p_stacked, .ref p_kept]))] H := hP
  replace hD : va_D A [(h0, .inr (8, [.int p_dpi, .int p_size, .int p_orientation, .int p_copies, .int 3600, .int ((pg_H k p_orientation) - 7200), .int 0, .int (pg_W k p_orientation), .int p_stepAcross, .int p_stepDown, .int (pg_cl (pg_W k p_orientation) (0 : Int64)), .int z_12, .int p_wrap, .int p_skip, .int p_lineEnd, .int p_font, .ref p_stack, .int p_stacked, .ref p_kept]))] := hD
  obtain rfl := hw
  have hP9 := hP.sub (ws' := [(h0, .inr (8, [.int p_dpi, .int p_size, .int p_orientation, .int p_copies, .int 3600, .int ((pg_H k p_orientation) - 7200), .int 0, .int (pg_W k p_orientation), .int p_stepAcross, .int p_stepDown, .int (pg_cl (pg_W k p_orientation) (0 : Int64)), .int (pg_cl (pg_H k p_orientation) ((pg_home (3600 : Int32) p_stepDown).toInt64)), .int p_wrap, .int p_skip, .int p_lineEnd, .int p_font, .ref p_stack, .int p_stacked, .ref p_kept]))]) [0] rfl
  have hD9 := hD.sub (ws' := [(h0, .inr (8, [.int p_dpi, .int p_size, .int p_orientation, .int p_copies, .int 3600, .int ((pg_H k p_orientation) - 7200), .int 0, .int (pg_W k p_orientation), .int p_stepAcross, .int p_stepDown, .int (pg_cl (pg_W k p_orientation) (0 : Int64)), .int (pg_cl (pg_H k p_orientation) ((pg_home (3600 : Int32) p_stepDown).toInt64)), .int p_wrap, .int p_skip, .int p_lineEnd, .int p_font, .ref p_stack, .int p_stacked, .ref p_kept]))]) [0] (by decide) rfl
  have hK9 := hK.sub (tys' := []) [] rfl
  exact W.vret hx hb hr (fun t ht hW => ⟨⟨(), rfl, (trivial), by rw [ht]; exact hP9, va_K.moved hW.alike hK9, hD9⟩, hS.F ht⟩) hS.2.2 d_Page_setDefaults_46

abbrev at_c_reset (dC : Nat → ClassId) (dI : Nat → Nat → Nat) (h0 : Nat) (p_dpi : Int32) (p_size : Int32) (p_orientation : Int32) (p_copies : Int32) (p_top : Int32) (p_length : Int32) (p_left : Int32) (p_right : Int32) (p_stepAcross : Int32) (p_stepDown : Int32) (p_x : Int32) (p_y : Int32) (p_wrap : Int32) (p_skip : Int32) (p_lineEnd : Int32) (p_font : Int32) (p_stack : Nat) (p_stacked : Int32) (p_kept : Nat) (A : Nat → Prop) (u : Unit) (t : State) : Prop := match u with
  | _ => va_P (dC, dI) vcl [(h0, .inr (8, [.int p_dpi, .int 1, .int 0, .int 1, .int 3600, .int (pg_H 1 0 - 7200), .int 0, .int (pg_W 1 0), .int 720, .int 1200, .int (pg_cl (pg_W 1 0) 0), .int (pg_cl (pg_H 1 0) (pg_home 3600 1200).toInt64), .int 0, .int 0, .int 0, .int 0, .ref p_stack, .int 0, .ref p_kept]))] t.heap ∧ va_K (dC, dI) vcl [] t ∧ va_D A [(h0, .inr (8, [.int p_dpi, .int 1, .int 0, .int 1, .int 3600, .int (pg_H 1 0 - 7200), .int 0, .int (pg_W 1 0), .int 720, .int 1200, .int (pg_cl (pg_W 1 0) 0), .int (pg_cl (pg_H 1 0) (pg_home 3600 1200).toInt64), .int 0, .int 0, .int 0, .int 0, .ref p_stack, .int 0, .ref p_kept]))]
abbrev po_c_reset (h0 : Nat) (p_dpi : Int32) (p_size : Int32) (p_orientation : Int32) (p_copies : Int32) (p_top : Int32) (p_length : Int32) (p_left : Int32) (p_right : Int32) (p_stepAcross : Int32) (p_stepDown : Int32) (p_x : Int32) (p_y : Int32) (p_wrap : Int32) (p_skip : Int32) (p_lineEnd : Int32) (p_font : Int32) (p_stack : Nat) (p_stacked : Int32) (p_kept : Nat) (u : Unit) : Prop := match u with
  | _ => True
abbrev q_c_reset (dC : Nat → ClassId) (dI : Nat → Nat → Nat) (h0 : Nat) (p_dpi : Int32) (p_size : Int32) (p_orientation : Int32) (p_copies : Int32) (p_top : Int32) (p_length : Int32) (p_left : Int32) (p_right : Int32) (p_stepAcross : Int32) (p_stepDown : Int32) (p_x : Int32) (p_y : Int32) (p_wrap : Int32) (p_skip : Int32) (p_lineEnd : Int32) (p_font : Int32) (p_stack : Nat) (p_stacked : Int32) (p_kept : Nat) (A : Nat → Prop) : Array Value → State → Outcome → State → Prop := va_Qv (po_c_reset h0 p_dpi p_size p_orientation p_copies p_top p_length p_left p_right p_stepAcross p_stepDown p_x p_y p_wrap p_skip p_lineEnd p_font p_stack p_stacked p_kept) (at_c_reset dC dI h0 p_dpi p_size p_orientation p_copies p_top p_length p_left p_right p_stepAcross p_stepDown p_x p_y p_wrap p_skip p_lineEnd p_font p_stack p_stacked p_kept A) A
abbrev rm_c_reset : Room := { frames := 4, cells := 0, slots := 0, locals := 83 }
set_option maxHeartbeats 4000000 in
set_option maxRecDepth 100000 in
theorem c_reset (l : Launch) (dC : Nat → ClassId) (dI : Nat → Nat → Nat) (tt : Nat → Nat) (h0 : Nat) (p_dpi : Int32) (p_size : Int32) (p_orientation : Int32) (p_copies : Int32) (p_top : Int32) (p_length : Int32) (p_left : Int32) (p_right : Int32) (p_stepAcross : Int32) (p_stepDown : Int32) (p_x : Int32) (p_y : Int32) (p_wrap : Int32) (p_skip : Int32) (p_lineEnd : Int32) (p_font : Int32) (p_stack : Nat) (p_stacked : Int32) (p_kept : Nat) (sz : Nat)  : Met l y_Page_reset w_Page_reset rm_c_reset (va_Pc [.ref h0] (fun U => U.heap.size = sz ∧ va_P (dC, dI) vcl [(h0, .inr (8, [.int p_dpi, .int p_size, .int p_orientation, .int p_copies, .int p_top, .int p_length, .int p_left, .int p_right, .int p_stepAcross, .int p_stepDown, .int p_x, .int p_y, .int p_wrap, .int p_skip, .int p_lineEnd, .int p_font, .ref p_stack, .int p_stacked, .ref p_kept]))] U.heap ∧ va_K (dC, dI) vcl [] U ∧ va_D (fun _ => True) [(h0, .inr (8, [.int p_dpi, .int p_size, .int p_orientation, .int p_copies, .int p_top, .int p_length, .int p_left, .int p_right, .int p_stepAcross, .int p_stepDown, .int p_x, .int p_y, .int p_wrap, .int p_skip, .int p_lineEnd, .int p_font, .ref p_stack, .int p_stacked, .ref p_kept]))] ∧ SF tt (va_A [(h0, .inr (8, [.int p_dpi, .int p_size, .int p_orientation, .int p_copies, .int p_top, .int p_length, .int p_left, .int p_right, .int p_stepAcross, .int p_stepDown, .int p_x, .int p_y, .int p_wrap, .int p_skip, .int p_lineEnd, .int p_font, .ref p_stack, .int p_stacked, .ref p_kept]))] sz) U U.heap)) (q_c_reset dC dI h0 p_dpi p_size p_orientation p_copies p_top p_length p_left p_right p_stepAcross p_stepDown p_x p_y p_wrap p_skip p_lineEnd p_font p_stack p_stacked p_kept (va_A [(h0, .inr (8, [.int p_dpi, .int p_size, .int p_orientation, .int p_copies, .int p_top, .int p_length, .int p_left, .int p_right, .int p_stepAcross, .int p_stepDown, .int p_x, .int p_y, .int p_wrap, .int p_skip, .int p_lineEnd, .int p_font, .ref p_stack, .int p_stacked, .ref p_kept]))] sz)) 0 0 (va_A [(h0, .inr (8, [.int p_dpi, .int p_size, .int p_orientation, .int p_copies, .int p_top, .int p_length, .int p_left, .int p_right, .int p_stepAcross, .int p_stepDown, .int p_x, .int p_y, .int p_wrap, .int p_skip, .int p_lineEnd, .int p_font, .ref p_stack, .int p_stacked, .ref p_kept]))] sz) := by
  refine Met.ofW (cc := b_Page_reset) (maxL := 1) (ret := none) (by decide) rfl ?_
  intro p e s m args below meth c s₁ B hml hv
  obtain ⟨rfl, hsz, hP, hK, hD0, hF⟩ := hv
  have hx := B.exec
  have hb := B.bytes
  have hr := B.returns
  have hwd : ∀ w ∈ gT, w.before _ s = true := fun w h => atoms_spec (ws := w_Page_reset) B.pre w (List.mem_cons_of_mem _ h)
  have hown : s.vm.findClass R_Page = some m.cls := findClass_of_methodNamed B.named
  have hlocks := B.notSynchronized
  subst hsz
  have hD := hD0.self (sz := s.heap.size)
  generalize hAe : va_A [(h0, .inr (8, [.int p_dpi, .int p_size, .int p_orientation, .int p_copies, .int p_top, .int p_length, .int p_left, .int p_right, .int p_stepAcross, .int p_stepDown, .int p_x, .int p_y, .int p_wrap, .int p_skip, .int p_lineEnd, .int p_font, .ref p_stack, .int p_stacked, .ref p_kept]))] s.heap.size = A at hD hF ⊢
  have hA : ∀ q : Nat, s.heap.size ≤ q → A q := fun q h => by rw [← hAe]; exact Or.inr h
  have hS : va_S A s.heap s.heap [] := va_S.rf
  have hP : va_P (dC, dI) vcl [(h0, .inr (8, [.int p_dpi, .int p_size, .int p_orientation, .int p_copies, .int p_top, .int p_length, .int p_left, .int p_right, .int p_stepAcross, .int p_stepDown, .int p_x, .int p_y, .int p_wrap, .int p_skip, .int p_lineEnd, .int p_font, .ref p_stack, .int p_stacked, .ref p_kept]))] s.heap := hP
  have hl := lv_entry ([.ref h0]) (n := 1) (Nat.le_of_ble_eq_true rfl)
  rw [lg_entry_eq]
  generalize (lg_sl ([.ref h0]) ++ List.replicate (1 - (lg_sl ([.ref h0])).length) Slot.unset).toArray = ls at hl ⊢
  have hl : lv_has ls 1 [(0, .ref h0)] := hl
  refine lv_aload_n hx hb d_Page_reset_0 rfl (lv_at hl 0 rfl) ?_
  refine lv_iconst (v := 1) hx hb d_Page_reset_1 (by decide) ?_
  refine va_put (D := (dC, dI)) (ci := 8) (v := .int 1) (ty := .int) (C := R_Page) (T := F_Page) (N := 19) hx hb hwd i_Page t_Page to_Page no_Page hown hK hP hD hS 0 rfl rfl 1 (by decide) (hwd _ wd_1_93) (fun _ h9 => h9) rfl (by decide +kernel) rfl rfl (Nat.le_of_ble_eq_true rfl) d_Page_reset_2 ?_
  clear hP hD hS
  intro H locs hP hD hS
  replace hP : va_P (dC, dI) vcl [(h0, .inr (8, [.int p_dpi, .int 1, .int p_orientation, .int p_copies, .int p_top, .int p_length, .int p_left, .int p_right, .int p_stepAcross, .int p_stepDown, .int p_x, .int p_y, .int p_wrap, .int p_skip, .int p_lineEnd, .int p_font, .ref p_stack, .int p_stacked, .ref p_kept]))] H := hP
  replace hD : va_D A [(h0, .inr (8, [.int p_dpi, .int 1, .int p_orientation, .int p_copies, .int p_top, .int p_length, .int p_left, .int p_right, .int p_stepAcross, .int p_stepDown, .int p_x, .int p_y, .int p_wrap, .int p_skip, .int p_lineEnd, .int p_font, .ref p_stack, .int p_stacked, .ref p_kept]))] := hD
  refine lv_aload_n hx hb d_Page_reset_5 rfl (lv_at hl 0 rfl) ?_
  refine lv_iconst (v := 0) hx hb d_Page_reset_6 (by decide) ?_
  refine va_put (D := (dC, dI)) (ci := 8) (v := .int 0) (ty := .int) (C := R_Page) (T := F_Page) (N := 19) hx hb hwd i_Page t_Page to_Page no_Page hown hK hP hD hS 0 rfl rfl 2 (by decide) (hwd _ wd_1_94) (fun _ h9 => h9) rfl (by decide +kernel) rfl rfl (Nat.le_of_ble_eq_true rfl) d_Page_reset_7 ?_
  clear hP hD hS
  intro H locs hP hD hS
  replace hP : va_P (dC, dI) vcl [(h0, .inr (8, [.int p_dpi, .int 1, .int 0, .int p_copies, .int p_top, .int p_length, .int p_left, .int p_right, .int p_stepAcross, .int p_stepDown, .int p_x, .int p_y, .int p_wrap, .int p_skip, .int p_lineEnd, .int p_font, .ref p_stack, .int p_stacked, .ref p_kept]))] H := hP
  replace hD : va_D A [(h0, .inr (8, [.int p_dpi, .int 1, .int 0, .int p_copies, .int p_top, .int p_length, .int p_left, .int p_right, .int p_stepAcross, .int p_stepDown, .int p_x, .int p_y, .int p_wrap, .int p_skip, .int p_lineEnd, .int p_font, .ref p_stack, .int p_stacked, .ref p_kept]))] := hD
  refine lv_aload_n hx hb d_Page_reset_10 rfl (lv_at hl 0 rfl) ?_
  refine lv_sipush (v := 720) hx hb d_Page_reset_11 (by decide) ?_
  refine va_put (D := (dC, dI)) (ci := 8) (v := .int 720) (ty := .int) (C := R_Page) (T := F_Page) (N := 19) hx hb hwd i_Page t_Page to_Page no_Page hown hK hP hD hS 0 rfl rfl 8 (by decide) (hwd _ wd_1_103) (fun _ h9 => h9) rfl (by decide +kernel) rfl rfl (Nat.le_of_ble_eq_true rfl) d_Page_reset_14 ?_
  clear hP hD hS
  intro H locs hP hD hS
  replace hP : va_P (dC, dI) vcl [(h0, .inr (8, [.int p_dpi, .int 1, .int 0, .int p_copies, .int p_top, .int p_length, .int p_left, .int p_right, .int 720, .int p_stepDown, .int p_x, .int p_y, .int p_wrap, .int p_skip, .int p_lineEnd, .int p_font, .ref p_stack, .int p_stacked, .ref p_kept]))] H := hP
  replace hD : va_D A [(h0, .inr (8, [.int p_dpi, .int 1, .int 0, .int p_copies, .int p_top, .int p_length, .int p_left, .int p_right, .int 720, .int p_stepDown, .int p_x, .int p_y, .int p_wrap, .int p_skip, .int p_lineEnd, .int p_font, .ref p_stack, .int p_stacked, .ref p_kept]))] := hD
  refine lv_aload_n hx hb d_Page_reset_17 rfl (lv_at hl 0 rfl) ?_
  refine lv_sipush (v := 1200) hx hb d_Page_reset_18 (by decide) ?_
  refine va_put (D := (dC, dI)) (ci := 8) (v := .int 1200) (ty := .int) (C := R_Page) (T := F_Page) (N := 19) hx hb hwd i_Page t_Page to_Page no_Page hown hK hP hD hS 0 rfl rfl 9 (by decide) (hwd _ wd_1_105) (fun _ h9 => h9) rfl (by decide +kernel) rfl rfl (Nat.le_of_ble_eq_true rfl) d_Page_reset_21 ?_
  clear hP hD hS
  intro H locs hP hD hS
  replace hP : va_P (dC, dI) vcl [(h0, .inr (8, [.int p_dpi, .int 1, .int 0, .int p_copies, .int p_top, .int p_length, .int p_left, .int p_right, .int 720, .int 1200, .int p_x, .int p_y, .int p_wrap, .int p_skip, .int p_lineEnd, .int p_font, .ref p_stack, .int p_stacked, .ref p_kept]))] H := hP
  replace hD : va_D A [(h0, .inr (8, [.int p_dpi, .int 1, .int 0, .int p_copies, .int p_top, .int p_length, .int p_left, .int p_right, .int 720, .int 1200, .int p_x, .int p_y, .int p_wrap, .int p_skip, .int p_lineEnd, .int p_font, .ref p_stack, .int p_stacked, .ref p_kept]))] := hD
  refine lv_aload_n hx hb d_Page_reset_24 rfl (lv_at hl 0 rfl) ?_
  refine lv_iconst (v := 0) hx hb d_Page_reset_25 (by decide) ?_
  refine va_put (D := (dC, dI)) (ci := 8) (v := .int 0) (ty := .boolean) (C := R_Page) (T := F_Page) (N := 19) hx hb hwd i_Page t_Page to_Page no_Page hown hK hP hD hS 0 rfl rfl 12 (by decide) (hwd _ wd_1_115) (fun _ h9 => h9) rfl (by decide +kernel) (by decide) rfl (Nat.le_of_ble_eq_true rfl) d_Page_reset_26 ?_
  clear hP hD hS
  intro H locs hP hD hS
  replace hP : va_P (dC, dI) vcl [(h0, .inr (8, [.int p_dpi, .int 1, .int 0, .int p_copies, .int p_top, .int p_length, .int p_left, .int p_right, .int 720, .int 1200, .int p_x, .int p_y, .int 0, .int p_skip, .int p_lineEnd, .int p_font, .ref p_stack, .int p_stacked, .ref p_kept]))] H := hP
  replace hD : va_D A [(h0, .inr (8, [.int p_dpi, .int 1, .int 0, .int p_copies, .int p_top, .int p_length, .int p_left, .int p_right, .int 720, .int 1200, .int p_x, .int p_y, .int 0, .int p_skip, .int p_lineEnd, .int p_font, .ref p_stack, .int p_stacked, .ref p_kept]))] := hD
  refine lv_aload_n hx hb d_Page_reset_29 rfl (lv_at hl 0 rfl) ?_
  refine lv_iconst (v := 0) hx hb d_Page_reset_30 (by decide) ?_
  refine va_put (D := (dC, dI)) (ci := 8) (v := .int 0) (ty := .boolean) (C := R_Page) (T := F_Page) (N := 19) hx hb hwd i_Page t_Page to_Page no_Page hown hK hP hD hS 0 rfl rfl 13 (by decide) (hwd _ wd_1_117) (fun _ h9 => h9) rfl (by decide +kernel) (by decide) rfl (Nat.le_of_ble_eq_true rfl) d_Page_reset_31 ?_
  clear hP hD hS
  intro H locs hP hD hS
  replace hP : va_P (dC, dI) vcl [(h0, .inr (8, [.int p_dpi, .int 1, .int 0, .int p_copies, .int p_top, .int p_length, .int p_left, .int p_right, .int 720, .int 1200, .int p_x, .int p_y, .int 0, .int 0, .int p_lineEnd, .int p_font, .ref p_stack, .int p_stacked, .ref p_kept]))] H := hP
  replace hD : va_D A [(h0, .inr (8, [.int p_dpi, .int 1, .int 0, .int p_copies, .int p_top, .int p_length, .int p_left, .int p_right, .int 720, .int 1200, .int p_x, .int p_y, .int 0, .int 0, .int p_lineEnd, .int p_font, .ref p_stack, .int p_stacked, .ref p_kept]))] := hD
  refine lv_aload_n hx hb d_Page_reset_34 rfl (lv_at hl 0 rfl) ?_
  refine lv_iconst (v := 0) hx hb d_Page_reset_35 (by decide) ?_
  refine va_put (D := (dC, dI)) (ci := 8) (v := .int 0) (ty := .int) (C := R_Page) (T := F_Page) (N := 19) hx hb hwd i_Page t_Page to_Page no_Page hown hK hP hD hS 0 rfl rfl 14 (by decide) (hwd _ wd_1_119) (fun _ h9 => h9) rfl (by decide +kernel) rfl rfl (Nat.le_of_ble_eq_true rfl) d_Page_reset_36 ?_
  clear hP hD hS
  intro H locs hP hD hS
  replace hP : va_P (dC, dI) vcl [(h0, .inr (8, [.int p_dpi, .int 1, .int 0, .int p_copies, .int p_top, .int p_length, .int p_left, .int p_right, .int 720, .int 1200, .int p_x, .int p_y, .int 0, .int 0, .int 0, .int p_font, .ref p_stack, .int p_stacked, .ref p_kept]))] H := hP
  replace hD : va_D A [(h0, .inr (8, [.int p_dpi, .int 1, .int 0, .int p_copies, .int p_top, .int p_length, .int p_left, .int p_right, .int 720, .int 1200, .int p_x, .int p_y, .int 0, .int 0, .int 0, .int p_font, .ref p_stack, .int p_stacked, .ref p_kept]))] := hD
  refine lv_aload_n hx hb d_Page_reset_39 rfl (lv_at hl 0 rfl) ?_
  refine lv_iconst (v := 1) hx hb d_Page_reset_40 (by decide) ?_
  refine va_put (D := (dC, dI)) (ci := 8) (v := .int 1) (ty := .int) (C := R_Page) (T := F_Page) (N := 19) hx hb hwd i_Page t_Page to_Page no_Page hown hK hP hD hS 0 rfl rfl 3 (by decide) (hwd _ wd_1_97) (fun _ h9 => h9) rfl (by decide +kernel) rfl rfl (Nat.le_of_ble_eq_true rfl) d_Page_reset_41 ?_
  clear hP hD hS
  intro H locs hP hD hS
  replace hP : va_P (dC, dI) vcl [(h0, .inr (8, [.int p_dpi, .int 1, .int 0, .int 1, .int p_top, .int p_length, .int p_left, .int p_right, .int 720, .int 1200, .int p_x, .int p_y, .int 0, .int 0, .int 0, .int p_font, .ref p_stack, .int p_stacked, .ref p_kept]))] H := hP
  replace hD : va_D A [(h0, .inr (8, [.int p_dpi, .int 1, .int 0, .int 1, .int p_top, .int p_length, .int p_left, .int p_right, .int 720, .int 1200, .int p_x, .int p_y, .int 0, .int 0, .int 0, .int p_font, .ref p_stack, .int p_stacked, .ref p_kept]))] := hD
  refine lv_aload_n hx hb d_Page_reset_44 rfl (lv_at hl 0 rfl) ?_
  refine lv_iconst (v := 0) hx hb d_Page_reset_45 (by decide) ?_
  refine va_put (D := (dC, dI)) (ci := 8) (v := .int 0) (ty := .int) (C := R_Page) (T := F_Page) (N := 19) hx hb hwd i_Page t_Page to_Page no_Page hown hK hP hD hS 0 rfl rfl 15 (by decide) (hwd _ wd_1_121) (fun _ h9 => h9) rfl (by decide +kernel) rfl rfl (Nat.le_of_ble_eq_true rfl) d_Page_reset_46 ?_
  clear hP hD hS
  intro H locs hP hD hS
  replace hP : va_P (dC, dI) vcl [(h0, .inr (8, [.int p_dpi, .int 1, .int 0, .int 1, .int p_top, .int p_length, .int p_left, .int p_right, .int 720, .int 1200, .int p_x, .int p_y, .int 0, .int 0, .int 0, .int 0, .ref p_stack, .int p_stacked, .ref p_kept]))] H := hP
  replace hD : va_D A [(h0, .inr (8, [.int p_dpi, .int 1, .int 0, .int 1, .int p_top, .int p_length, .int p_left, .int p_right, .int 720, .int 1200, .int p_x, .int p_y, .int 0, .int 0, .int 0, .int 0, .ref p_stack, .int p_stacked, .ref p_kept]))] := hD
  refine lv_aload_n hx hb d_Page_reset_49 rfl (lv_at hl 0 rfl) ?_
  refine lv_iconst (v := 0) hx hb d_Page_reset_50 (by decide) ?_
  refine va_put (D := (dC, dI)) (ci := 8) (v := .int 0) (ty := .int) (C := R_Page) (T := F_Page) (N := 19) hx hb hwd i_Page t_Page to_Page no_Page hown hK hP hD hS 0 rfl rfl 17 (by decide) (hwd _ wd_1_125) (fun _ h9 => h9) rfl (by decide +kernel) rfl rfl (Nat.le_of_ble_eq_true rfl) d_Page_reset_51 ?_
  clear hP hD hS
  intro H locs hP hD hS
  replace hP : va_P (dC, dI) vcl [(h0, .inr (8, [.int p_dpi, .int 1, .int 0, .int 1, .int p_top, .int p_length, .int p_left, .int p_right, .int 720, .int 1200, .int p_x, .int p_y, .int 0, .int 0, .int 0, .int 0, .ref p_stack, .int 0, .ref p_kept]))] H := hP
  replace hD : va_D A [(h0, .inr (8, [.int p_dpi, .int 1, .int 0, .int 1, .int p_top, .int p_length, .int p_left, .int p_right, .int 720, .int 1200, .int p_x, .int p_y, .int 0, .int 0, .int 0, .int 0, .ref p_stack, .int 0, .ref p_kept]))] := hD
  refine lv_aload_n hx hb d_Page_reset_54 rfl (lv_at hl 0 rfl) ?_
  have hPc := hP.sub (ws' := [(h0, .inr (8, [.int p_dpi, .int 1, .int 0, .int 1, .int p_top, .int p_length, .int p_left, .int p_right, .int 720, .int 1200, .int p_x, .int p_y, .int 0, .int 0, .int 0, .int 0, .ref p_stack, .int 0, .ref p_kept]))]) [0] rfl
  have hDc := hD.sub (ws' := [(h0, .inr (8, [.int p_dpi, .int 1, .int 0, .int 1, .int p_top, .int p_length, .int p_left, .int p_right, .int 720, .int 1200, .int p_x, .int p_y, .int 0, .int 0, .int 0, .int 0, .ref p_stack, .int 0, .ref p_kept]))]) [0] (by decide) rfl
  have hKc := hK.sub (tys' := []) [] rfl
  have hFc := va_free (wc := [(h0, .inr (8, [.int p_dpi, .int 1, .int 0, .int 1, .int p_top, .int p_length, .int p_left, .int p_right, .int 720, .int 1200, .int p_x, .int p_y, .int 0, .int 0, .int 0, .int 0, .ref p_stack, .int 0, .ref p_kept]))]) hD hS hA [0] rfl
  refine va_callv (va_runV (As := []) (rest := []) ⟨hx, hb, hml, hown, hwd⟩ (c_setDefaults l dC dI tt h0 p_dpi 1 0 1 p_top p_length p_left p_right 720 1200 p_x p_y 0 0 0 0 p_stack 0 p_kept 1 H.size (rfl) (by decide)) (cwV 0 hwd (gV gd_Page_setDefaults wd_1_48 wd_1_50 ws_0 wd_1_2) rfl rfl rfl (by decide +kernel) ⟨Nat.le_of_ble_eq_true rfl, Nat.le_of_ble_eq_true rfl⟩) ⟨fun a U g mk q => by obtain ⟨q0, q1, qP, qK, qD, qF⟩ := q; exact ⟨q0, q1, qP, va_K.moved (u := U) (U := U.calling g mk a) (Vm.Alike.refl U.vm) qK, qD, SF.same (u := U) (U := U.calling g mk a) rfl qF⟩, va_recv hKc hPc (ci := 8) (q0 := 0) rfl rfl, fun U hU hW => ⟨rfl, by rw [hU], by rw [hU]; exact hPc, va_K.moved hW.alike hKc, hDc.weaken (fun _ _ _ _ => trivial), by rw [hU]; exact SF.narrow (SF.moved hW (SF.kept hF (fun a h1 h2 => hS.2.1 a h1 h2))) hFc⟩⟩ rfl rfl hl.1 rfl (lv_room (Nat.le_of_ble_eq_true rfl)) d_Page_reset_55 ⟨Nat.le_of_ble_eq_true rfl, Nat.le_of_ble_eq_true rfl⟩) hS (fun q _ h => hFc q h) hFc ?_
  clear hPc hDc hKc hS
  intro u_2 t H1 locs ht hvm hw hB hz1 hk1 hS
  obtain ⟨hP1, hK1, hD1⟩ := hB
  rw [ht] at hP1
  have hK1 := va_K.moved hvm.symm hK1
  try dsimp only at hw
  have hJ := va_join (wr := []) (w1 := [(h0, .inr (8, [.int p_dpi, .int 1, .int 0, .int 1, .int 3600, .int (pg_H 1 (0 : Int32) - 7200), .int 0, .int (pg_W 1 (0 : Int32)), .int 720, .int 1200, .int (pg_cl (pg_W 1 (0 : Int32)) 0), .int (pg_cl (pg_H 1 (0 : Int32)) (pg_home 3600 (1200 : Int32)).toInt64), .int 0, .int 0, .int 0, .int 0, .ref p_stack, .int 0, .ref p_kept]))]) hP hD [0] [] rfl rfl (by decide) (by decide) hk1 hFc hP1 hD1
  clear hP hD hk1 hFc hP1 hD1 hz1
  obtain ⟨hP, hD⟩ := hJ
  clear hK1 ht hvm
  generalize H1 = H at hP hS ⊢
  replace hP : va_P (dC, dI) vcl [(h0, .inr (8, [.int p_dpi, .int 1, .int 0, .int 1, .int 3600, .int (pg_H 1 (0 : Int32) - 7200), .int 0, .int (pg_W 1 (0 : Int32)), .int 720, .int 1200, .int (pg_cl (pg_W 1 (0 : Int32)) 0), .int (pg_cl (pg_H 1 (0 : Int32)) (pg_home 3600 (1200 : Int32)).toInt64), .int 0, .int 0, .int 0, .int 0, .ref p_stack, .int 0, .ref p_kept]))] H := hP
  replace hD : va_D A [(h0, .inr (8, [.int p_dpi, .int 1, .int 0, .int 1, .int 3600, .int (pg_H 1 (0 : Int32) - 7200), .int 0, .int (pg_W 1 (0 : Int32)), .int 720, .int 1200, .int (pg_cl (pg_W 1 (0 : Int32)) 0), .int (pg_cl (pg_H 1 (0 : Int32)) (pg_home 3600 (1200 : Int32)).toInt64), .int 0, .int 0, .int 0, .int 0, .ref p_stack, .int 0, .ref p_kept]))] := hD
  have hP9 := hP.sub (ws' := [(h0, .inr (8, [.int p_dpi, .int 1, .int 0, .int 1, .int 3600, .int (pg_H 1 (0 : Int32) - 7200), .int 0, .int (pg_W 1 (0 : Int32)), .int 720, .int 1200, .int (pg_cl (pg_W 1 (0 : Int32)) 0), .int (pg_cl (pg_H 1 (0 : Int32)) (pg_home 3600 (1200 : Int32)).toInt64), .int 0, .int 0, .int 0, .int 0, .ref p_stack, .int 0, .ref p_kept]))]) [0] rfl
  have hD9 := hD.sub (ws' := [(h0, .inr (8, [.int p_dpi, .int 1, .int 0, .int 1, .int 3600, .int (pg_H 1 (0 : Int32) - 7200), .int 0, .int (pg_W 1 (0 : Int32)), .int 720, .int 1200, .int (pg_cl (pg_W 1 (0 : Int32)) 0), .int (pg_cl (pg_H 1 (0 : Int32)) (pg_home 3600 (1200 : Int32)).toInt64), .int 0, .int 0, .int 0, .int 0, .ref p_stack, .int 0, .ref p_kept]))]) [0] (by decide) rfl
  have hK9 := hK.sub (tys' := []) [] rfl
  exact W.vret hx hb hr (fun t ht hW => ⟨⟨(), rfl, (trivial), by rw [ht]; exact hP9, va_K.moved hW.alike hK9, hD9⟩, hS.F ht⟩) hS.2.2 d_Page_reset_58

abbrev at_c_Page_init (dC : Nat → ClassId) (dI : Nat → Nat → Nat) (h0 : Nat) (d : Int32) (A : Nat → Prop) (u : Unit) (t : State) : Prop := match u with
  | _ => ∃ (qs : Nat) (qk : Nat) (cs : ClassId) (ck : ClassId), va_P (dC, dI) vcl [(h0, .inr (8, [.int d, .int 1, .int 0, .int 1, .int 3600, .int (pg_H 1 0 - 7200), .int 0, .int (pg_W 1 0), .int 720, .int 1200, .int (pg_cl (pg_W 1 0) 0), .int (pg_cl (pg_H 1 0) (pg_home 3600 1200).toInt64), .int 0, .int 0, .int 0, .int 0, .ref qs, .int 0, .ref qk])), (qs, .inl (cs, 40, .inl (fun _ => 0))), (qk, .inl (ck, 106, .inl (fun _ => 0)))] t.heap ∧ va_K (dC, dI) vcl [(cs, .int), (ck, .int)] t ∧ va_D A [(h0, .inr (8, [.int d, .int 1, .int 0, .int 1, .int 3600, .int (pg_H 1 0 - 7200), .int 0, .int (pg_W 1 0), .int 720, .int 1200, .int (pg_cl (pg_W 1 0) 0), .int (pg_cl (pg_H 1 0) (pg_home 3600 1200).toInt64), .int 0, .int 0, .int 0, .int 0, .ref qs, .int 0, .ref qk])), (qs, .inl (cs, 40, .inl (fun _ => 0))), (qk, .inl (ck, 106, .inl (fun _ => 0)))]
abbrev po_c_Page_init (h0 : Nat) (d : Int32) (u : Unit) : Prop := match u with
  | _ => True
abbrev q_c_Page_init (dC : Nat → ClassId) (dI : Nat → Nat → Nat) (h0 : Nat) (d : Int32) (A : Nat → Prop) : Array Value → State → Outcome → State → Prop := va_Qv (po_c_Page_init h0 d) (at_c_Page_init dC dI h0 d A) A
abbrev rm_c_Page_init : Room := { frames := 5, cells := 2, slots := 146, locals := 103 }
set_option maxHeartbeats 4000000 in
set_option maxRecDepth 100000 in
theorem c_Page_init (l : Launch) (dC : Nat → ClassId) (dI : Nat → Nat → Nat) (tt : Nat → Nat) (h0 : Nat) (d : Int32) (sz : Nat)  : Met l y_Page_init w_Page_init rm_c_Page_init (va_Pc [.ref h0, .int d] (fun U => U.heap.size = sz ∧ va_P (dC, dI) vcl [(h0, .inr (8, [.int 0, .int 0, .int 0, .int 0, .int 0, .int 0, .int 0, .int 0, .int 0, .int 0, .int 0, .int 0, .int 0, .int 0, .int 0, .int 0, .null, .int 0, .null]))] U.heap ∧ va_K (dC, dI) vcl [] U ∧ va_D (fun _ => True) [(h0, .inr (8, [.int 0, .int 0, .int 0, .int 0, .int 0, .int 0, .int 0, .int 0, .int 0, .int 0, .int 0, .int 0, .int 0, .int 0, .int 0, .int 0, .null, .int 0, .null]))] ∧ SF tt (va_A [(h0, .inr (8, [.int 0, .int 0, .int 0, .int 0, .int 0, .int 0, .int 0, .int 0, .int 0, .int 0, .int 0, .int 0, .int 0, .int 0, .int 0, .int 0, .null, .int 0, .null]))] sz) U U.heap)) (q_c_Page_init dC dI h0 d (va_A [(h0, .inr (8, [.int 0, .int 0, .int 0, .int 0, .int 0, .int 0, .int 0, .int 0, .int 0, .int 0, .int 0, .int 0, .int 0, .int 0, .int 0, .int 0, .null, .int 0, .null]))] sz)) 2 146 (va_A [(h0, .inr (8, [.int 0, .int 0, .int 0, .int 0, .int 0, .int 0, .int 0, .int 0, .int 0, .int 0, .int 0, .int 0, .int 0, .int 0, .int 0, .int 0, .null, .int 0, .null]))] sz) := by
  refine Met.ofW (cc := b_Page_init) (maxL := 2) (ret := none) (by decide) rfl ?_
  intro p e s m args below meth c s₁ B hml hv
  obtain ⟨rfl, hsz, hP, hK, hD0, hF⟩ := hv
  have hx := B.exec
  have hb := B.bytes
  have hr := B.returns
  have hwd : ∀ w ∈ gT, w.before _ s = true := fun w h => atoms_spec (ws := w_Page_init) B.pre w (List.mem_cons_of_mem _ h)
  have hown : s.vm.findClass R_Page = some m.cls := findClass_of_methodNamed B.named
  have hlocks := B.notSynchronized
  have hin : meth.name = "<init>" := (name_of_methodNamed B.named B.method).1
  subst hsz
  have hD := hD0.self (sz := s.heap.size)
  generalize hAe : va_A [(h0, .inr (8, [.int 0, .int 0, .int 0, .int 0, .int 0, .int 0, .int 0, .int 0, .int 0, .int 0, .int 0, .int 0, .int 0, .int 0, .int 0, .int 0, .null, .int 0, .null]))] s.heap.size = A at hD hF ⊢
  have hA : ∀ q : Nat, s.heap.size ≤ q → A q := fun q h => by rw [← hAe]; exact Or.inr h
  have hS : va_S A s.heap s.heap [] := va_S.rf
  have hP : va_P (dC, dI) vcl [(h0, .inr (8, [.int 0, .int 0, .int 0, .int 0, .int 0, .int 0, .int 0, .int 0, .int 0, .int 0, .int 0, .int 0, .int 0, .int 0, .int 0, .int 0, .null, .int 0, .null]))] s.heap := hP
  have hl := lv_entry ([.ref h0, .int d]) (n := 2) (Nat.le_of_ble_eq_true rfl)
  rw [lg_entry_eq]
  generalize (lg_sl ([.ref h0, .int d]) ++ List.replicate (2 - (lg_sl ([.ref h0, .int d])).length) Slot.unset).toArray = ls at hl ⊢
  have hl : lv_has ls 2 [(0, .ref h0), (1, .int d)] := hl
  refine lv_aload_n hx hb d_Page_init_0 rfl (lv_at hl 0 rfl) ?_
  refine W.objInit hx hb hown (hwd _ wd_1_43) (hwd _ wd_1_35) (hwd _ wd_1_36) rfl (by rw [hml]; exact hl.1) rfl d_Page_init_1 (Nat.le_of_ble_eq_true rfl) (Nat.le_of_ble_eq_true rfl) ?_
  refine W.eq (g2 := F0 m 4 ls []) rfl ?_
  refine lv_aload_n hx hb d_Page_init_4 rfl (lv_at hl 0 rfl) ?_
  refine lv_bipush (v := 40) hx hb d_Page_init_5 (by decide) ?_
  refine va_newa (atype := .int) (N' := 40) (a0 := (40, .inl (fun _ => 0))) (ty := .int) (n := 40) hx hb (hwd _ wd_1_167) rfl hK hP hD hS hA (fun _ => rfl) (by decide) (by decide) (by decide) (Nat.le_of_ble_eq_true rfl) (Nat.le_of_ble_eq_true rfl) d_Page_init_7 ?_
  clear hP hD hS hK
  intro q_1 cA_2 H hK hP hD hS
  replace hP : va_P (dC, dI) vcl [(h0, .inr (8, [.int 0, .int 0, .int 0, .int 0, .int 0, .int 0, .int 0, .int 0, .int 0, .int 0, .int 0, .int 0, .int 0, .int 0, .int 0, .int 0, .null, .int 0, .null])), (q_1, .inl (cA_2, 40, .inl (fun _ => 0)))] H := hP
  replace hD : va_D A [(h0, .inr (8, [.int 0, .int 0, .int 0, .int 0, .int 0, .int 0, .int 0, .int 0, .int 0, .int 0, .int 0, .int 0, .int 0, .int 0, .int 0, .int 0, .null, .int 0, .null])), (q_1, .inl (cA_2, 40, .inl (fun _ => 0)))] := hD
  replace hK : va_K (dC, dI) vcl [(cA_2, .int)] s := hK
  refine W.widen (k := 1) (n := 40) (by decide) (by decide) ?_
  refine va_putF (D := (dC, dI)) (ci := 8) (v := .ref q_1) (ty := (.array .int)) (C := R_Page) (T := F_Page) (N := 19) hx hb hwd i_Page t_Page to_Page no_Page hown hK hP hD hS 0 rfl rfl 16 (by decide) (hwd _ wd_1_124) (fun _ h9 => h9) rfl hin rfl (by decide +kernel) rfl rfl (Nat.le_of_ble_eq_true rfl) d_Page_init_9 ?_
  clear hP hD hS
  intro H locs hP hD hS
  replace hP : va_P (dC, dI) vcl [(h0, .inr (8, [.int 0, .int 0, .int 0, .int 0, .int 0, .int 0, .int 0, .int 0, .int 0, .int 0, .int 0, .int 0, .int 0, .int 0, .int 0, .int 0, .ref q_1, .int 0, .null])), (q_1, .inl (cA_2, 40, .inl (fun _ => 0)))] H := hP
  replace hD : va_D A [(h0, .inr (8, [.int 0, .int 0, .int 0, .int 0, .int 0, .int 0, .int 0, .int 0, .int 0, .int 0, .int 0, .int 0, .int 0, .int 0, .int 0, .int 0, .ref q_1, .int 0, .null])), (q_1, .inl (cA_2, 40, .inl (fun _ => 0)))] := hD
  refine lv_aload_n hx hb d_Page_init_12 rfl (lv_at hl 0 rfl) ?_
  refine lv_bipush (v := 106) hx hb d_Page_init_13 (by decide) ?_
  refine va_newa (atype := .int) (N' := 106) (a0 := (106, .inl (fun _ => 0))) (ty := .int) (n := 106) hx hb (hwd _ wd_1_167) rfl hK hP hD hS hA (fun _ => rfl) (by decide) (by decide) (by decide) (Nat.le_of_ble_eq_true rfl) (Nat.le_of_ble_eq_true rfl) d_Page_init_15 ?_
  clear hP hD hS hK
  intro q_3 cA_4 H hK hP hD hS
  replace hP : va_P (dC, dI) vcl [(h0, .inr (8, [.int 0, .int 0, .int 0, .int 0, .int 0, .int 0, .int 0, .int 0, .int 0, .int 0, .int 0, .int 0, .int 0, .int 0, .int 0, .int 0, .ref q_1, .int 0, .null])), (q_1, .inl (cA_2, 40, .inl (fun _ => 0))), (q_3, .inl (cA_4, 106, .inl (fun _ => 0)))] H := hP
  replace hD : va_D A [(h0, .inr (8, [.int 0, .int 0, .int 0, .int 0, .int 0, .int 0, .int 0, .int 0, .int 0, .int 0, .int 0, .int 0, .int 0, .int 0, .int 0, .int 0, .ref q_1, .int 0, .null])), (q_1, .inl (cA_2, 40, .inl (fun _ => 0))), (q_3, .inl (cA_4, 106, .inl (fun _ => 0)))] := hD
  replace hK : va_K (dC, dI) vcl [(cA_2, .int), (cA_4, .int)] s := hK
  refine W.widen (k := 2) (n := 146) (by decide) (by decide) ?_
  refine va_putF (D := (dC, dI)) (ci := 8) (v := .ref q_3) (ty := (.array .int)) (C := R_Page) (T := F_Page) (N := 19) hx hb hwd i_Page t_Page to_Page no_Page hown hK hP hD hS 0 rfl rfl 18 (by decide) (hwd _ wd_1_126) (fun _ h9 => h9) rfl hin rfl (by decide +kernel) rfl rfl (Nat.le_of_ble_eq_true rfl) d_Page_init_17 ?_
  clear hP hD hS
  intro H locs hP hD hS
  replace hP : va_P (dC, dI) vcl [(h0, .inr (8, [.int 0, .int 0, .int 0, .int 0, .int 0, .int 0, .int 0, .int 0, .int 0, .int 0, .int 0, .int 0, .int 0, .int 0, .int 0, .int 0, .ref q_1, .int 0, .ref q_3])), (q_1, .inl (cA_2, 40, .inl (fun _ => 0))), (q_3, .inl (cA_4, 106, .inl (fun _ => 0)))] H := hP
  replace hD : va_D A [(h0, .inr (8, [.int 0, .int 0, .int 0, .int 0, .int 0, .int 0, .int 0, .int 0, .int 0, .int 0, .int 0, .int 0, .int 0, .int 0, .int 0, .int 0, .ref q_1, .int 0, .ref q_3])), (q_1, .inl (cA_2, 40, .inl (fun _ => 0))), (q_3, .inl (cA_4, 106, .inl (fun _ => 0)))] := hD
  refine lv_aload_n hx hb d_Page_init_20 rfl (lv_at hl 0 rfl) ?_
  refine lv_iload_n hx hb d_Page_init_21 rfl (lv_at hl 1 rfl) ?_
  refine va_putF (D := (dC, dI)) (ci := 8) (v := .int d) (ty := .int) (C := R_Page) (T := F_Page) (N := 19) hx hb hwd i_Page t_Page to_Page no_Page hown hK hP hD hS 0 rfl rfl 0 (by decide) (hwd _ wd_1_90) (fun _ h9 => h9) rfl hin rfl (by decide +kernel) rfl rfl (Nat.le_of_ble_eq_true rfl) d_Page_init_22 ?_
  clear hP hD hS
  intro H locs hP hD hS
  replace hP : va_P (dC, dI) vcl [(h0, .inr (8, [.int d, .int 0, .int 0, .int 0, .int 0, .int 0, .int 0, .int 0, .int 0, .int 0, .int 0, .int 0, .int 0, .int 0, .int 0, .int 0, .ref q_1, .int 0, .ref q_3])), (q_1, .inl (cA_2, 40, .inl (fun _ => 0))), (q_3, .inl (cA_4, 106, .inl (fun _ => 0)))] H := hP
  replace hD : va_D A [(h0, .inr (8, [.int d, .int 0, .int 0, .int 0, .int 0, .int 0, .int 0, .int 0, .int 0, .int 0, .int 0, .int 0, .int 0, .int 0, .int 0, .int 0, .ref q_1, .int 0, .ref q_3])), (q_1, .inl (cA_2, 40, .inl (fun _ => 0))), (q_3, .inl (cA_4, 106, .inl (fun _ => 0)))] := hD
  refine lv_aload_n hx hb d_Page_init_25 rfl (lv_at hl 0 rfl) ?_
  have hPc := hP.sub (ws' := [(h0, .inr (8, [.int d, .int 0, .int 0, .int 0, .int 0, .int 0, .int 0, .int 0, .int 0, .int 0, .int 0, .int 0, .int 0, .int 0, .int 0, .int 0, .ref q_1, .int 0, .ref q_3]))]) [0] rfl
  have hDc := hD.sub (ws' := [(h0, .inr (8, [.int d, .int 0, .int 0, .int 0, .int 0, .int 0, .int 0, .int 0, .int 0, .int 0, .int 0, .int 0, .int 0, .int 0, .int 0, .int 0, .ref q_1, .int 0, .ref q_3]))]) [0] (by decide) rfl
  have hKc := hK.sub (tys' := []) [] rfl
  have hFc := va_free (wc := [(h0, .inr (8, [.int d, .int 0, .int 0, .int 0, .int 0, .int 0, .int 0, .int 0, .int 0, .int 0, .int 0, .int 0, .int 0, .int 0, .int 0, .int 0, .ref q_1, .int 0, .ref q_3]))]) hD hS hA [0] rfl
  refine va_callv (va_runV (As := []) (rest := []) ⟨hx, hb, hml, hown, hwd⟩ (c_reset l dC dI tt h0 d 0 0 0 0 0 0 0 0 0 0 0 0 0 0 0 q_1 0 q_3 H.size ) (cwV 0 hwd (gV gd_Page_reset wd_1_44 wd_1_45 wd_1_46 wd_1_2) rfl rfl rfl (by decide +kernel) ⟨Nat.le_of_ble_eq_true rfl, Nat.le_of_ble_eq_true rfl⟩) ⟨fun a U g mk q => by obtain ⟨q0, q1, qP, qK, qD, qF⟩ := q; exact ⟨q0, q1, qP, va_K.moved (u := U) (U := U.calling g mk a) (Vm.Alike.refl U.vm) qK, qD, SF.same (u := U) (U := U.calling g mk a) rfl qF⟩, va_recv hKc hPc (ci := 8) (q0 := 0) rfl rfl, fun U hU hW => ⟨rfl, by rw [hU], by rw [hU]; exact hPc, va_K.moved hW.alike hKc, hDc.weaken (fun _ _ _ _ => trivial), by rw [hU]; exact SF.narrow (SF.moved hW (SF.kept hF (fun a h1 h2 => hS.2.1 a h1 h2))) hFc⟩⟩ rfl rfl hl.1 rfl (lv_room (Nat.le_of_ble_eq_true rfl)) d_Page_init_26 ⟨Nat.le_of_ble_eq_true rfl, Nat.le_of_ble_eq_true rfl⟩) hS (fun q _ h => hFc q h) hFc ?_
  clear hPc hDc hKc hS
  intro u_6 t H1 locs ht hvm hw hB hz1 hk1 hS
  obtain ⟨hP1, hK1, hD1⟩ := hB
  rw [ht] at hP1
  have hK1 := va_K.moved hvm.symm hK1
  try dsimp only at hw
  have hJ := va_join (wr := [(q_1, .inl (cA_2, 40, .inl (fun _ => 0))), (q_3, .inl (cA_4, 106, .inl (fun _ => 0)))]) (w1 := [(h0, .inr (8, [.int d, .int 1, .int 0, .int 1, .int 3600, .int (pg_H 1 0 - 7200), .int 0, .int (pg_W 1 0), .int 720, .int 1200, .int (pg_cl (pg_W 1 0) 0), .int (pg_cl (pg_H 1 0) (pg_home 3600 1200).toInt64), .int 0, .int 0, .int 0, .int 0, .ref q_1, .int 0, .ref q_3]))]) hP hD [0] [1, 2] rfl rfl (by decide) (by decide) hk1 hFc hP1 hD1
  clear hP hD hk1 hFc hP1 hD1 hz1
  obtain ⟨hP, hD⟩ := hJ
  clear hK1 ht hvm
  generalize H1 = H at hP hS ⊢
  replace hP : va_P (dC, dI) vcl [(q_1, .inl (cA_2, 40, .inl (fun _ => 0))), (q_3, .inl (cA_4, 106, .inl (fun _ => 0))), (h0, .inr (8, [.int d, .int 1, .int 0, .int 1, .int 3600, .int (pg_H 1 0 - 7200), .int 0, .int (pg_W 1 0), .int 720, .int 1200, .int (pg_cl (pg_W 1 0) 0), .int (pg_cl (pg_H 1 0) (pg_home 3600 1200).toInt64), .int 0, .int 0, .int 0, .int 0, .ref q_1, .int 0, .ref q_3]))] H := hP
  replace hD : va_D A [(q_1, .inl (cA_2, 40, .inl (fun _ => 0))), (q_3, .inl (cA_4, 106, .inl (fun _ => 0))), (h0, .inr (8, [.int d, .int 1, .int 0, .int 1, .int 3600, .int (pg_H 1 0 - 7200), .int 0, .int (pg_W 1 0), .int 720, .int 1200, .int (pg_cl (pg_W 1 0) 0), .int (pg_cl (pg_H 1 0) (pg_home 3600 1200).toInt64), .int 0, .int 0, .int 0, .int 0, .ref q_1, .int 0, .ref q_3]))] := hD
  have hP9 := hP.sub (ws' := [(h0, .inr (8, [.int d, .int 1, .int 0, .int 1, .int 3600, .int (pg_H 1 0 - 7200), .int 0, .int (pg_W 1 0), .int 720, .int 1200, .int (pg_cl (pg_W 1 0) 0), .int (pg_cl (pg_H 1 0) (pg_home 3600 1200).toInt64), .int 0, .int 0, .int 0, .int 0, .ref q_1, .int 0, .ref q_3])), (q_1, .inl (cA_2, 40, .inl (fun _ => 0))), (q_3, .inl (cA_4, 106, .inl (fun _ => 0)))]) [2, 0, 1] rfl
  have hD9 := hD.sub (ws' := [(h0, .inr (8, [.int d, .int 1, .int 0, .int 1, .int 3600, .int (pg_H 1 0 - 7200), .int 0, .int (pg_W 1 0), .int 720, .int 1200, .int (pg_cl (pg_W 1 0) 0), .int (pg_cl (pg_H 1 0) (pg_home 3600 1200).toInt64), .int 0, .int 0, .int 0, .int 0, .ref q_1, .int 0, .ref q_3])), (q_1, .inl (cA_2, 40, .inl (fun _ => 0))), (q_3, .inl (cA_4, 106, .inl (fun _ => 0)))]) [2, 0, 1] (by decide) rfl
  have hK9 := hK.sub (tys' := [(cA_2, .int), (cA_4, .int)]) [0, 1] rfl
  exact W.vret hx hb hr (fun t ht hW => ⟨⟨(), rfl, (trivial), q_1, q_3, cA_2, cA_4, by rw [ht]; exact hP9, va_K.moved hW.alike hK9, hD9⟩, hS.F ht⟩) hS.2.2 d_Page_init_29

abbrev at_c_sizeNumber (dC : Nat → ClassId) (dI : Nat → Nat → Nat) (h0 : Nat) (p_dpi : Int32) (p_size : Int32) (p_orientation : Int32) (p_copies : Int32) (p_top : Int32) (p_length : Int32) (p_left : Int32) (p_right : Int32) (p_stepAcross : Int32) (p_stepDown : Int32) (p_x : Int32) (p_y : Int32) (p_wrap : Int32) (p_skip : Int32) (p_lineEnd : Int32) (p_font : Int32) (p_stack : Nat) (p_stacked : Int32) (p_kept : Nat) (k : Nat) (A : Nat → Prop) (u : Unit) (t : State) : Prop := match u with
  | _ => va_P (dC, dI) vcl [(h0, .inr (8, [.int p_dpi, .int p_size, .int p_orientation, .int p_copies, .int p_top, .int p_length, .int p_left, .int p_right, .int p_stepAcross, .int p_stepDown, .int p_x, .int p_y, .int p_wrap, .int p_skip, .int p_lineEnd, .int p_font, .ref p_stack, .int p_stacked, .ref p_kept]))] t.heap ∧ va_K (dC, dI) vcl [] t ∧ va_D A [(h0, .inr (8, [.int p_dpi, .int p_size, .int p_orientation, .int p_copies, .int p_top, .int p_length, .int p_left, .int p_right, .int p_stepAcross, .int p_stepDown, .int p_x, .int p_y, .int p_wrap, .int p_skip, .int p_lineEnd, .int p_font, .ref p_stack, .int p_stacked, .ref p_kept]))]
abbrev po_c_sizeNumber (h0 : Nat) (p_dpi : Int32) (p_size : Int32) (p_orientation : Int32) (p_copies : Int32) (p_top : Int32) (p_length : Int32) (p_left : Int32) (p_right : Int32) (p_stepAcross : Int32) (p_stepDown : Int32) (p_x : Int32) (p_y : Int32) (p_wrap : Int32) (p_skip : Int32) (p_lineEnd : Int32) (p_font : Int32) (p_stack : Nat) (p_stacked : Int32) (p_kept : Nat) (k : Nat) (r : Int32) (u : Unit) : Prop := match u with
  | _ => r = tb_Page_SIZES k
abbrev q_c_sizeNumber (dC : Nat → ClassId) (dI : Nat → Nat → Nat) (h0 : Nat) (p_dpi : Int32) (p_size : Int32) (p_orientation : Int32) (p_copies : Int32) (p_top : Int32) (p_length : Int32) (p_left : Int32) (p_right : Int32) (p_stepAcross : Int32) (p_stepDown : Int32) (p_x : Int32) (p_y : Int32) (p_wrap : Int32) (p_skip : Int32) (p_lineEnd : Int32) (p_font : Int32) (p_stack : Nat) (p_stacked : Int32) (p_kept : Nat) (k : Nat) (A : Nat → Prop) : Array Value → State → Outcome → State → Prop := va_Qi (po_c_sizeNumber h0 p_dpi p_size p_orientation p_copies p_top p_length p_left p_right p_stepAcross p_stepDown p_x p_y p_wrap p_skip p_lineEnd p_font p_stack p_stacked p_kept k) (at_c_sizeNumber dC dI h0 p_dpi p_size p_orientation p_copies p_top p_length p_left p_right p_stepAcross p_stepDown p_x p_y p_wrap p_skip p_lineEnd p_font p_stack p_stacked p_kept k A) A
abbrev rm_c_sizeNumber : Room := { frames := 1, cells := 0, slots := 0, locals := 21 }
set_option maxHeartbeats 4000000 in
set_option maxRecDepth 100000 in
theorem c_sizeNumber (l : Launch) (dC : Nat → ClassId) (dI : Nat → Nat → Nat) (tt : Nat → Nat) (h0 : Nat) (p_dpi : Int32) (p_size : Int32) (p_orientation : Int32) (p_copies : Int32) (p_top : Int32) (p_length : Int32) (p_left : Int32) (p_right : Int32) (p_stepAcross : Int32) (p_stepDown : Int32) (p_x : Int32) (p_y : Int32) (p_wrap : Int32) (p_skip : Int32) (p_lineEnd : Int32) (p_font : Int32) (p_stack : Nat) (p_stacked : Int32) (p_kept : Nat) (k : Nat) (sz : Nat) (hs : p_size = nI k) (hk : k < 5) : Met l y_Page_sizeNumber w_Page_sizeNumber rm_c_sizeNumber (va_Pc [.ref h0] (fun U => U.heap.size = sz ∧ va_P (dC, dI) vcl [(h0, .inr (8, [.int p_dpi, .int p_size, .int p_orientation, .int p_copies, .int p_top, .int p_length, .int p_left, .int p_right, .int p_stepAcross, .int p_stepDown, .int p_x, .int p_y, .int p_wrap, .int p_skip, .int p_lineEnd, .int p_font, .ref p_stack, .int p_stacked, .ref p_kept]))] U.heap ∧ va_K (dC, dI) vcl [] U ∧ va_D (fun _ => True) [(h0, .inr (8, [.int p_dpi, .int p_size, .int p_orientation, .int p_copies, .int p_top, .int p_length, .int p_left, .int p_right, .int p_stepAcross, .int p_stepDown, .int p_x, .int p_y, .int p_wrap, .int p_skip, .int p_lineEnd, .int p_font, .ref p_stack, .int p_stacked, .ref p_kept]))] ∧ SF tt (va_A [(h0, .inr (8, [.int p_dpi, .int p_size, .int p_orientation, .int p_copies, .int p_top, .int p_length, .int p_left, .int p_right, .int p_stepAcross, .int p_stepDown, .int p_x, .int p_y, .int p_wrap, .int p_skip, .int p_lineEnd, .int p_font, .ref p_stack, .int p_stacked, .ref p_kept]))] sz) U U.heap)) (q_c_sizeNumber dC dI h0 p_dpi p_size p_orientation p_copies p_top p_length p_left p_right p_stepAcross p_stepDown p_x p_y p_wrap p_skip p_lineEnd p_font p_stack p_stacked p_kept k (va_A [(h0, .inr (8, [.int p_dpi, .int p_size, .int p_orientation, .int p_copies, .int p_top, .int p_length, .int p_left, .int p_right, .int p_stepAcross, .int p_stepDown, .int p_x, .int p_y, .int p_wrap, .int p_skip, .int p_lineEnd, .int p_font, .ref p_stack, .int p_stacked, .ref p_kept]))] sz)) 0 0 (va_A [(h0, .inr (8, [.int p_dpi, .int p_size, .int p_orientation, .int p_copies, .int p_top, .int p_length, .int p_left, .int p_right, .int p_stepAcross, .int p_stepDown, .int p_x, .int p_y, .int p_wrap, .int p_skip, .int p_lineEnd, .int p_font, .ref p_stack, .int p_stacked, .ref p_kept]))] sz) := by
  refine Met.ofW (cc := b_Page_sizeNumber) (maxL := 1) (ret := (some .int)) (by decide) rfl ?_
  intro p e s m args below meth c s₁ B hml hv
  obtain ⟨rfl, hsz, hP, hK, hD0, hF⟩ := hv
  have hx := B.exec
  have hb := B.bytes
  have hr := B.returns
  have hwd : ∀ w ∈ gT, w.before _ s = true := fun w h => atoms_spec (ws := w_Page_sizeNumber) B.pre w (List.mem_cons_of_mem _ h)
  have hown : s.vm.findClass R_Page = some m.cls := findClass_of_methodNamed B.named
  have hlocks := B.notSynchronized
  subst hsz
  have hD := hD0.self (sz := s.heap.size)
  generalize hAe : va_A [(h0, .inr (8, [.int p_dpi, .int p_size, .int p_orientation, .int p_copies, .int p_top, .int p_length, .int p_left, .int p_right, .int p_stepAcross, .int p_stepDown, .int p_x, .int p_y, .int p_wrap, .int p_skip, .int p_lineEnd, .int p_font, .ref p_stack, .int p_stacked, .ref p_kept]))] s.heap.size = A at hD hF ⊢
  have hA : ∀ q : Nat, s.heap.size ≤ q → A q := fun q h => by rw [← hAe]; exact Or.inr h
  have hS : va_S A s.heap s.heap [] := va_S.rf
  have hP : va_P (dC, dI) vcl [(h0, .inr (8, [.int p_dpi, .int p_size, .int p_orientation, .int p_copies, .int p_top, .int p_length, .int p_left, .int p_right, .int p_stepAcross, .int p_stepDown, .int p_x, .int p_y, .int p_wrap, .int p_skip, .int p_lineEnd, .int p_font, .ref p_stack, .int p_stacked, .ref p_kept]))] s.heap := hP
  have hl := lv_entry ([.ref h0]) (n := 1) (Nat.le_of_ble_eq_true rfl)
  rw [lg_entry_eq]
  generalize (lg_sl ([.ref h0]) ++ List.replicate (1 - (lg_sl ([.ref h0])).length) Slot.unset).toArray = ls at hl ⊢
  have hl : lv_has ls 1 [(0, .ref h0)] := hl
  refine lv_aload_n hx hb d_Page_sizeNumber_0 rfl (lv_at hl 0 rfl) ?_
  refine va_gets hx hb (SF_p13 hF).1 hS hown (hwd _ wd_5_200) (fun _ h9 => h9) d_Page_sizeNumber_1 ?_
  have hPc := hP.sub (ws' := [(h0, .inr (8, [.int p_dpi, .int p_size, .int p_orientation, .int p_copies, .int p_top, .int p_length, .int p_left, .int p_right, .int p_stepAcross, .int p_stepDown, .int p_x, .int p_y, .int p_wrap, .int p_skip, .int p_lineEnd, .int p_font, .ref p_stack, .int p_stacked, .ref p_kept]))]) [0] rfl
  have hDc := hD.sub (ws' := [(h0, .inr (8, [.int p_dpi, .int p_size, .int p_orientation, .int p_copies, .int p_top, .int p_length, .int p_left, .int p_right, .int p_stepAcross, .int p_stepDown, .int p_x, .int p_y, .int p_wrap, .int p_skip, .int p_lineEnd, .int p_font, .ref p_stack, .int p_stacked, .ref p_kept]))]) [0] (by decide) rfl
  have hKc := hK.sub (tys' := []) [] rfl
  have hFc := va_free (wc := [(h0, .inr (8, [.int p_dpi, .int p_size, .int p_orientation, .int p_copies, .int p_top, .int p_length, .int p_left, .int p_right, .int p_stepAcross, .int p_stepDown, .int p_x, .int p_y, .int p_wrap, .int p_skip, .int p_lineEnd, .int p_font, .ref p_stack, .int p_stacked, .ref p_kept]))]) hD hS hA [0] rfl
  refine va_calli (va_runV (As := [.ref (tt 13)]) (rest := []) ⟨hx, hb, hml, hown, hwd⟩ (c_ofSize_SIZES l dC dI tt h0 p_dpi p_size p_orientation p_copies p_top p_length p_left p_right p_stepAcross p_stepDown p_x p_y p_wrap p_skip p_lineEnd p_font p_stack p_stacked p_kept k s.heap.size (hs) (hk)) (cwV 1 hwd (gV gd_Page_ofSize wd_1_62 wd_1_64 ws_2 wd_1_2) rfl rfl rfl (by decide +kernel) ⟨Nat.le_of_ble_eq_true rfl, Nat.le_of_ble_eq_true rfl⟩) ⟨fun a U g mk q => by obtain ⟨q0, q1, qP, qK, qD, qF⟩ := q; exact ⟨q0, q1, qP, va_K.moved (u := U) (U := U.calling g mk a) (Vm.Alike.refl U.vm) qK, qD, SF.same (u := U) (U := U.calling g mk a) rfl qF⟩, va_recv hKc hPc (ci := 8) (q0 := 0) rfl rfl, fun U hU hW => ⟨rfl, by rw [hU], by rw [hU]; exact hPc, va_K.moved hW.alike hKc, hDc.weaken (fun _ _ _ _ => trivial), by rw [hU]; exact SF.narrow (SF.moved hW (SF.kept hF (fun a h1 h2 => hS.2.1 a h1 h2))) hFc⟩⟩ rfl rfl hl.1 rfl (lv_room (Nat.le_of_ble_eq_true rfl)) d_Page_sizeNumber_4 ⟨Nat.le_of_ble_eq_true rfl, Nat.le_of_ble_eq_true rfl⟩) hS (fun q _ h => hFc q h) hFc ?_
  clear hPc hDc hKc hS
  intro r_1 u_2 t H1 locs ht hvm hw hB hz1 hk1 hS
  obtain ⟨hP1, hK1, hD1⟩ := hB
  rw [ht] at hP1
  have hK1 := va_K.moved hvm.symm hK1
  try dsimp only at hw
  have hJ := va_join (wr := []) (w1 := [(h0, .inr (8, [.int p_dpi, .int p_size, .int p_orientation, .int p_copies, .int p_top, .int p_length, .int p_left, .int p_right, .int p_stepAcross, .int p_stepDown, .int p_x, .int p_y, .int p_wrap, .int p_skip, .int p_lineEnd, .int p_font, .ref p_stack, .int p_stacked, .ref p_kept]))]) hP hD [0] [] rfl rfl (by decide) (by decide) hk1 hFc hP1 hD1
  clear hP hD hk1 hFc hP1 hD1 hz1
  obtain ⟨hP, hD⟩ := hJ
  clear hK1 ht hvm
  generalize H1 = H at hP hS ⊢
  replace hP : va_P (dC, dI) vcl [(h0, .inr (8, [.int p_dpi, .int p_size, .int p_orientation, .int p_copies, .int p_top, .int p_length, .int p_left, .int p_right, .int p_stepAcross, .int p_stepDown, .int p_x, .int p_y, .int p_wrap, .int p_skip, .int p_lineEnd, .int p_font, .ref p_stack, .int p_stacked, .ref p_kept]))] H := hP
  replace hD : va_D A [(h0, .inr (8, [.int p_dpi, .int p_size, .int p_orientation, .int p_copies, .int p_top, .int p_length, .int p_left, .int p_right, .int p_stepAcross, .int p_stepDown, .int p_x, .int p_y, .int p_wrap, .int p_skip, .int p_lineEnd, .int p_font, .ref p_stack, .int p_stacked, .ref p_kept]))] := hD
  obtain rfl := hw
  have hP9 := hP.sub (ws' := [(h0, .inr (8, [.int p_dpi, .int p_size, .int p_orientation, .int p_copies, .int p_top, .int p_length, .int p_left, .int p_right, .int p_stepAcross, .int p_stepDown, .int p_x, .int p_y, .int p_wrap, .int p_skip, .int p_lineEnd, .int p_font, .ref p_stack, .int p_stacked, .ref p_kept]))]) [0] rfl
  have hD9 := hD.sub (ws' := [(h0, .inr (8, [.int p_dpi, .int p_size, .int p_orientation, .int p_copies, .int p_top, .int p_length, .int p_left, .int p_right, .int p_stepAcross, .int p_stepDown, .int p_x, .int p_y, .int p_wrap, .int p_skip, .int p_lineEnd, .int p_font, .ref p_stack, .int p_stacked, .ref p_kept]))]) [0] (by decide) rfl
  have hK9 := hK.sub (tys' := []) [] rfl
  exact W.iret (v := tb_Page_SIZES k) hx hb hr (fun t ht hW => ⟨⟨(tb_Page_SIZES k), (), rfl, (show (tb_Page_SIZES k : Int32) = tb_Page_SIZES k from (by first | exact trivial | rfl | simp [*])), by rw [ht]; exact hP9, va_K.moved hW.alike hK9, hD9⟩, hS.F ht⟩) hS.2.2 d_Page_sizeNumber_7
