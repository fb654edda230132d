theorem wd_1_17 : (Jvm.Cond.initialized "SheetPrinterModel$Desk") ∈ gT := gT_in (in_1 _ (List.mem_of_getElem? (i := 17) rfl)) rfl
theorem wd_1_21 : (Jvm.Cond.initialized "SheetPrinterModel$Pictures") ∈ gT := gT_in (in_1 _ (List.mem_of_getElem? (i := 21) rfl)) rfl
theorem wd_9_33 : (Jvm.Cond.code ({ cls := "SheetPrinterModel$Desk", name := "<init>", desc := "()V" } : Jvm.MethodName) prog_15_method_1_code (2 : Nat) (Option.none : Option Jvm.ClassFile.FieldType)) ∈ gT := gT_in (in_9 _ (List.mem_of_getElem? (i := 33) rfl)) rfl
theorem wd_9_34 : (Jvm.Cond.methodLink "SheetPrinterModel$Desk" (1 : Nat) ({ cls := "java/lang/Object", name := "<init>", desc := "()V" } : Jvm.MethodName)) ∈ gT := gT_in (in_9 _ (List.mem_of_getElem? (i := 34) rfl)) rfl
theorem wd_9_35 : (Jvm.Cond.methodLink "SheetPrinterModel$Desk" (36 : Nat) ({ cls := "SheetPrinterModel$Desk", name := "reset", desc := "()V" } : Jvm.MethodName)) ∈ gT := gT_in (in_9 _ (List.mem_of_getElem? (i := 35) rfl)) rfl
theorem wd_9_37 : (Jvm.Cond.instanceMethod ({ cls := "SheetPrinterModel$Desk", name := "reset", desc := "()V" } : Jvm.MethodName)) ∈ gT := gT_in (in_9 _ (List.mem_of_getElem? (i := 37) rfl)) rfl
theorem wd_9_38 : (Jvm.Cond.code ({ cls := "SheetPrinterModel$Desk", name := "reset", desc := "()V" } : Jvm.MethodName) prog_15_method_12_code (2 : Nat) (Option.none : Option Jvm.ClassFile.FieldType)) ∈ gT := gT_in (in_9 _ (List.mem_of_getElem? (i := 38) rfl)) rfl
theorem wd_9_39 : (Jvm.Cond.methodLink "SheetPrinterModel$Desk" (113 : Nat) ({ cls := "SheetPrinterModel$Desk", name := "defaults", desc := "()V" } : Jvm.MethodName)) ∈ gT := gT_in (in_9 _ (List.mem_of_getElem? (i := 39) rfl)) rfl
theorem wd_9_41 : (Jvm.Cond.instanceMethod ({ cls := "SheetPrinterModel$Desk", name := "defaults", desc := "()V" } : Jvm.MethodName)) ∈ gT := gT_in (in_9 _ (List.mem_of_getElem? (i := 41) rfl)) rfl
theorem wd_9_42 : (Jvm.Cond.code ({ cls := "SheetPrinterModel$Desk", name := "defaults", desc := "()V" } : Jvm.MethodName) prog_15_method_10_code (1 : Nat) (Option.none : Option Jvm.ClassFile.FieldType)) ∈ gT := gT_in (in_9 _ (List.mem_of_getElem? (i := 42) rfl)) rfl
theorem wd_9_43 : (Jvm.Cond.methodLink "SheetPrinterModel$Desk" (74 : Nat) ({ cls := "SheetPrinterModel$Desk", name := "measure", desc := "()V" } : Jvm.MethodName)) ∈ gT := gT_in (in_9 _ (List.mem_of_getElem? (i := 43) rfl)) rfl
theorem wd_9_45 : (Jvm.Cond.instanceMethod ({ cls := "SheetPrinterModel$Desk", name := "measure", desc := "()V" } : Jvm.MethodName)) ∈ gT := gT_in (in_9 _ (List.mem_of_getElem? (i := 45) rfl)) rfl
theorem wd_9_46 : (Jvm.Cond.code ({ cls := "SheetPrinterModel$Desk", name := "measure", desc := "()V" } : Jvm.MethodName) prog_15_method_5_code (2 : Nat) (Option.none : Option Jvm.ClassFile.FieldType)) ∈ gT := gT_in (in_9 _ (List.mem_of_getElem? (i := 46) rfl)) rfl
theorem wd_9_47 : (Jvm.Cond.methodLink "SheetPrinterModel$Desk" (57 : Nat) ({ cls := "SheetPrinterModel$Desk", name := "down", desc := "(I)I" } : Jvm.MethodName)) ∈ gT := gT_in (in_9 _ (List.mem_of_getElem? (i := 47) rfl)) rfl
theorem wd_9_48 : (Jvm.Cond.static ({ cls := "SheetPrinterModel$Desk", name := "down", desc := "(I)I" } : Jvm.MethodName)) ∈ gT := gT_in (in_9 _ (List.mem_of_getElem? (i := 48) rfl)) rfl
theorem wd_9_49 : (Jvm.Cond.code ({ cls := "SheetPrinterModel$Desk", name := "down", desc := "(I)I" } : Jvm.MethodName) prog_15_method_4_code (1 : Nat) (Option.some Jvm.ClassFile.FieldType.int)) ∈ gT := gT_in (in_9 _ (List.mem_of_getElem? (i := 49) rfl)) rfl
theorem wd_9_51 : (Jvm.Cond.constant "SheetPrinterModel$Desk" (45 : Nat) (79200 : Int32)) ∈ gT := gT_in (in_9 _ (List.mem_of_getElem? (i := 51) rfl)) rfl
theorem wd_9_55 : (Jvm.Cond.methodLink "SheetPrinterModel$Desk" (61 : Nat) ({ cls := "SheetPrinterModel$Desk", name := "across", desc := "(I)I" } : Jvm.MethodName)) ∈ gT := gT_in (in_9 _ (List.mem_of_getElem? (i := 55) rfl)) rfl
theorem wd_9_56 : (Jvm.Cond.static ({ cls := "SheetPrinterModel$Desk", name := "across", desc := "(I)I" } : Jvm.MethodName)) ∈ gT := gT_in (in_9 _ (List.mem_of_getElem? (i := 56) rfl)) rfl
theorem wd_9_57 : (Jvm.Cond.code ({ cls := "SheetPrinterModel$Desk", name := "across", desc := "(I)I" } : Jvm.MethodName) prog_15_method_3_code (1 : Nat) (Option.some Jvm.ClassFile.FieldType.int)) ∈ gT := gT_in (in_9 _ (List.mem_of_getElem? (i := 57) rfl)) rfl
theorem wd_9_59 : (Jvm.Cond.constant "SheetPrinterModel$Desk" (44 : Nat) (61200 : Int32)) ∈ gT := gT_in (in_9 _ (List.mem_of_getElem? (i := 59) rfl)) rfl
theorem wd_9_61 : (Jvm.Cond.methodLink "SheetPrinterModel$Desk" (77 : Nat) ({ cls := "SheetPrinterModel$Desk", name := "setX", desc := "(J)V" } : Jvm.MethodName)) ∈ gT := gT_in (in_9 _ (List.mem_of_getElem? (i := 61) rfl)) rfl
theorem wd_9_63 : (Jvm.Cond.instanceMethod ({ cls := "SheetPrinterModel$Desk", name := "setX", desc := "(J)V" } : Jvm.MethodName)) ∈ gT := gT_in (in_9 _ (List.mem_of_getElem? (i := 63) rfl)) rfl
theorem wd_9_64 : (Jvm.Cond.code ({ cls := "SheetPrinterModel$Desk", name := "setX", desc := "(J)V" } : Jvm.MethodName) prog_15_method_7_code (3 : Nat) (Option.none : Option Jvm.ClassFile.FieldType)) ∈ gT := gT_in (in_9 _ (List.mem_of_getElem? (i := 64) rfl)) rfl
theorem wd_9_65 : (Jvm.Cond.methodLink "SheetPrinterModel$Desk" (70 : Nat) ({ cls := "SheetPrinterModel$Desk", name := "within", desc := "(JI)I" } : Jvm.MethodName)) ∈ gT := gT_in (in_9 _ (List.mem_of_getElem? (i := 65) rfl)) rfl
theorem wd_9_66 : (Jvm.Cond.static ({ cls := "SheetPrinterModel$Desk", name := "within", desc := "(JI)I" } : Jvm.MethodName)) ∈ gT := gT_in (in_9 _ (List.mem_of_getElem? (i := 66) rfl)) rfl
theorem wd_9_67 : (Jvm.Cond.code ({ cls := "SheetPrinterModel$Desk", name := "within", desc := "(JI)I" } : Jvm.MethodName) prog_15_method_6_code (3 : Nat) (Option.some Jvm.ClassFile.FieldType.int)) ∈ gT := gT_in (in_9 _ (List.mem_of_getElem? (i := 67) rfl)) rfl
theorem wd_9_68 : (Jvm.Cond.methodLink "SheetPrinterModel$Desk" (81 : Nat) ({ cls := "SheetPrinterModel$Desk", name := "home", desc := "()I" } : Jvm.MethodName)) ∈ gT := gT_in (in_9 _ (List.mem_of_getElem? (i := 68) rfl)) rfl
theorem wd_9_70 : (Jvm.Cond.instanceMethod ({ cls := "SheetPrinterModel$Desk", name := "home", desc := "()I" } : Jvm.MethodName)) ∈ gT := gT_in (in_9 _ (List.mem_of_getElem? (i := 70) rfl)) rfl
theorem wd_9_71 : (Jvm.Cond.code ({ cls := "SheetPrinterModel$Desk", name := "home", desc := "()I" } : Jvm.MethodName) prog_15_method_9_code (1 : Nat) (Option.some Jvm.ClassFile.FieldType.int)) ∈ gT := gT_in (in_9 _ (List.mem_of_getElem? (i := 71) rfl)) rfl
theorem wd_9_72 : (Jvm.Cond.methodLink "SheetPrinterModel$Desk" (85 : Nat) ({ cls := "SheetPrinterModel$Desk", name := "setY", desc := "(J)V" } : Jvm.MethodName)) ∈ gT := gT_in (in_9 _ (List.mem_of_getElem? (i := 72) rfl)) rfl
theorem wd_9_74 : (Jvm.Cond.instanceMethod ({ cls := "SheetPrinterModel$Desk", name := "setY", desc := "(J)V" } : Jvm.MethodName)) ∈ gT := gT_in (in_9 _ (List.mem_of_getElem? (i := 74) rfl)) rfl
theorem wd_9_75 : (Jvm.Cond.code ({ cls := "SheetPrinterModel$Desk", name := "setY", desc := "(J)V" } : Jvm.MethodName) prog_15_method_8_code (3 : Nat) (Option.none : Option Jvm.ClassFile.FieldType)) ∈ gT := gT_in (in_9 _ (List.mem_of_getElem? (i := 75) rfl)) rfl
theorem wd_9_77 : (Jvm.Cond.fieldLink "SheetPrinterModel$Desk" (7 : Nat) "SheetPrinterModel$Desk" "state" "[I") ∈ gT := gT_in (in_9 _ (List.mem_of_getElem? (i := 77) rfl)) rfl
theorem wd_9_79 : (Jvm.Cond.fieldLink "SheetPrinterModel$Desk" (13 : Nat) "SheetPrinterModel$Desk" "kept" "[I") ∈ gT := gT_in (in_9 _ (List.mem_of_getElem? (i := 79) rfl)) rfl
theorem wd_9_80 : (Jvm.Cond.fieldLink "SheetPrinterModel$Desk" (16 : Nat) "SheetPrinterModel$Desk" "isKept" "[Z") ∈ gT := gT_in (in_9 _ (List.mem_of_getElem? (i := 80) rfl)) rfl
theorem wd_9_82 : (Jvm.Cond.fieldLink "SheetPrinterModel$Desk" (54 : Nat) "SheetPrinterModel$Desk" "size" "I") ∈ gT := gT_in (in_9 _ (List.mem_of_getElem? (i := 82) rfl)) rfl
theorem wd_9_84 : (Jvm.Cond.fieldLink "SheetPrinterModel$Desk" (51 : Nat) "SheetPrinterModel$Desk" "orientation" "I") ∈ gT := gT_in (in_9 _ (List.mem_of_getElem? (i := 84) rfl)) rfl
theorem wd_9_85 : (Jvm.Cond.fieldLink "SheetPrinterModel$Desk" (110 : Nat) "SheetPrinterModel$Desk" "copies" "I") ∈ gT := gT_in (in_9 _ (List.mem_of_getElem? (i := 85) rfl)) rfl
theorem wd_9_86 : (Jvm.Cond.fieldLink "SheetPrinterModel$Desk" (64 : Nat) "SheetPrinterModel$Desk" "width" "I") ∈ gT := gT_in (in_9 _ (List.mem_of_getElem? (i := 86) rfl)) rfl
theorem wd_9_87 : (Jvm.Cond.fieldLink "SheetPrinterModel$Desk" (67 : Nat) "SheetPrinterModel$Desk" "height" "I") ∈ gT := gT_in (in_9 _ (List.mem_of_getElem? (i := 87) rfl)) rfl
theorem wd_9_88 : (Jvm.Cond.fieldLink "SheetPrinterModel$Desk" (20 : Nat) "SheetPrinterModel$Desk" "steps" "[I") ∈ gT := gT_in (in_9 _ (List.mem_of_getElem? (i := 88) rfl)) rfl
theorem wd_9_90 : (Jvm.Cond.fieldLink "SheetPrinterModel$Desk" (88 : Nat) "SheetPrinterModel$Desk" "phase" "I") ∈ gT := gT_in (in_9 _ (List.mem_of_getElem? (i := 90) rfl)) rfl
theorem wd_9_104 : (Jvm.Cond.fieldLink "SheetPrinterModel$Desk" (107 : Nat) "SheetPrinterModel$Desk" "came" "Z") ∈ gT := gT_in (in_9 _ (List.mem_of_getElem? (i := 104) rfl)) rfl
theorem wd_9_109 : (Jvm.Cond.fieldLink "SheetPrinterModel$Desk" (91 : Nat) "SheetPrinterModel$Desk" "glyphs" "I") ∈ gT := gT_in (in_9 _ (List.mem_of_getElem? (i := 109) rfl)) rfl
theorem wd_9_110 : (Jvm.Cond.fieldLink "SheetPrinterModel$Desk" (94 : Nat) "SheetPrinterModel$Desk" "allGlyphs" "I") ∈ gT := gT_in (in_9 _ (List.mem_of_getElem? (i := 110) rfl)) rfl
theorem wd_9_111 : (Jvm.Cond.fieldLink "SheetPrinterModel$Desk" (97 : Nat) "SheetPrinterModel$Desk" "touched" "Z") ∈ gT := gT_in (in_9 _ (List.mem_of_getElem? (i := 111) rfl)) rfl
theorem wd_9_112 : (Jvm.Cond.fieldLink "SheetPrinterModel$Desk" (23 : Nat) "SheetPrinterModel$Desk" "glyph" "[I") ∈ gT := gT_in (in_9 _ (List.mem_of_getElem? (i := 112) rfl)) rfl
theorem wd_9_115 : (Jvm.Cond.fieldLink "SheetPrinterModel$Desk" (26 : Nat) "SheetPrinterModel$Desk" "page" "[I") ∈ gT := gT_in (in_9 _ (List.mem_of_getElem? (i := 115) rfl)) rfl
theorem wd_9_118 : (Jvm.Cond.fieldLink "SheetPrinterModel$Desk" (101 : Nat) "SheetPrinterModel$Desk" "others" "I") ∈ gT := gT_in (in_9 _ (List.mem_of_getElem? (i := 118) rfl)) rfl
theorem wd_9_119 : (Jvm.Cond.fieldLink "SheetPrinterModel$Desk" (29 : Nat) "SheetPrinterModel$Desk" "other" "[I") ∈ gT := gT_in (in_9 _ (List.mem_of_getElem? (i := 119) rfl)) rfl
theorem wd_9_121 : (Jvm.Cond.fieldLink "SheetPrinterModel$Desk" (104 : Nat) "SheetPrinterModel$Desk" "stored" "I") ∈ gT := gT_in (in_9 _ (List.mem_of_getElem? (i := 121) rfl)) rfl
theorem wd_9_122 : (Jvm.Cond.fieldLink "SheetPrinterModel$Desk" (32 : Nat) "SheetPrinterModel$Desk" "store" "[B") ∈ gT := gT_in (in_9 _ (List.mem_of_getElem? (i := 122) rfl)) rfl
theorem wd_9_124 : (Jvm.Cond.lays "SheetPrinterModel$Desk" "SheetPrinterModel$Desk" "thrown" "I") ∈ gT := gT_in (in_9 _ (List.mem_of_getElem? (i := 124) rfl)) rfl
theorem wd_9_126 : (Jvm.Cond.laysFinal "SheetPrinterModel$Desk" "SheetPrinterModel$Desk" "state" "[I") ∈ gT := gT_in (in_9 _ (List.mem_of_getElem? (i := 126) rfl)) rfl
theorem wd_9_128 : (Jvm.Cond.laysFinal "SheetPrinterModel$Desk" "SheetPrinterModel$Desk" "kept" "[I") ∈ gT := gT_in (in_9 _ (List.mem_of_getElem? (i := 128) rfl)) rfl
theorem wd_9_130 : (Jvm.Cond.laysFinal "SheetPrinterModel$Desk" "SheetPrinterModel$Desk" "isKept" "[Z") ∈ gT := gT_in (in_9 _ (List.mem_of_getElem? (i := 130) rfl)) rfl
theorem wd_9_132 : (Jvm.Cond.lays "SheetPrinterModel$Desk" "SheetPrinterModel$Desk" "size" "I") ∈ gT := gT_in (in_9 _ (List.mem_of_getElem? (i := 132) rfl)) rfl
theorem wd_9_134 : (Jvm.Cond.lays "SheetPrinterModel$Desk" "SheetPrinterModel$Desk" "orientation" "I") ∈ gT := gT_in (in_9 _ (List.mem_of_getElem? (i := 134) rfl)) rfl
theorem wd_9_136 : (Jvm.Cond.lays "SheetPrinterModel$Desk" "SheetPrinterModel$Desk" "copies" "I") ∈ gT := gT_in (in_9 _ (List.mem_of_getElem? (i := 136) rfl)) rfl
theorem wd_9_138 : (Jvm.Cond.lays "SheetPrinterModel$Desk" "SheetPrinterModel$Desk" "width" "I") ∈ gT := gT_in (in_9 _ (List.mem_of_getElem? (i := 138) rfl)) rfl
theorem wd_9_140 : (Jvm.Cond.lays "SheetPrinterModel$Desk" "SheetPrinterModel$Desk" "height" "I") ∈ gT := gT_in (in_9 _ (List.mem_of_getElem? (i := 140) rfl)) rfl
theorem wd_9_142 : (Jvm.Cond.laysFinal "SheetPrinterModel$Desk" "SheetPrinterModel$Desk" "steps" "[I") ∈ gT := gT_in (in_9 _ (List.mem_of_getElem? (i := 142) rfl)) rfl
theorem wd_9_144 : (Jvm.Cond.lays "SheetPrinterModel$Desk" "SheetPrinterModel$Desk" "phase" "I") ∈ gT := gT_in (in_9 _ (List.mem_of_getElem? (i := 144) rfl)) rfl
theorem wd_9_146 : (Jvm.Cond.lays "SheetPrinterModel$Desk" "SheetPrinterModel$Desk" "family" "I") ∈ gT := gT_in (in_9 _ (List.mem_of_getElem? (i := 146) rfl)) rfl
theorem wd_9_148 : (Jvm.Cond.lays "SheetPrinterModel$Desk" "SheetPrinterModel$Desk" "group" "I") ∈ gT := gT_in (in_9 _ (List.mem_of_getElem? (i := 148) rfl)) rfl
theorem wd_9_150 : (Jvm.Cond.lays "SheetPrinterModel$Desk" "SheetPrinterModel$Desk" "part" "I") ∈ gT := gT_in (in_9 _ (List.mem_of_getElem? (i := 150) rfl)) rfl
theorem wd_9_152 : (Jvm.Cond.lays "SheetPrinterModel$Desk" "SheetPrinterModel$Desk" "signed" "Z") ∈ gT := gT_in (in_9 _ (List.mem_of_getElem? (i := 152) rfl)) rfl
theorem wd_9_154 : (Jvm.Cond.lays "SheetPrinterModel$Desk" "SheetPrinterModel$Desk" "negative" "Z") ∈ gT := gT_in (in_9 _ (List.mem_of_getElem? (i := 154) rfl)) rfl
theorem wd_9_156 : (Jvm.Cond.lays "SheetPrinterModel$Desk" "SheetPrinterModel$Desk" "whole" "I") ∈ gT := gT_in (in_9 _ (List.mem_of_getElem? (i := 156) rfl)) rfl
theorem wd_9_158 : (Jvm.Cond.lays "SheetPrinterModel$Desk" "SheetPrinterModel$Desk" "behind" "I") ∈ gT := gT_in (in_9 _ (List.mem_of_getElem? (i := 158) rfl)) rfl
theorem wd_9_160 : (Jvm.Cond.lays "SheetPrinterModel$Desk" "SheetPrinterModel$Desk" "places" "I") ∈ gT := gT_in (in_9 _ (List.mem_of_getElem? (i := 160) rfl)) rfl
theorem wd_9_162 : (Jvm.Cond.lays "SheetPrinterModel$Desk" "SheetPrinterModel$Desk" "dataLeft" "I") ∈ gT := gT_in (in_9 _ (List.mem_of_getElem? (i := 162) rfl)) rfl
theorem wd_9_164 : (Jvm.Cond.lays "SheetPrinterModel$Desk" "SheetPrinterModel$Desk" "last" "Z") ∈ gT := gT_in (in_9 _ (List.mem_of_getElem? (i := 164) rfl)) rfl
theorem wd_9_166 : (Jvm.Cond.lays "SheetPrinterModel$Desk" "SheetPrinterModel$Desk" "dataTo" "I") ∈ gT := gT_in (in_9 _ (List.mem_of_getElem? (i := 166) rfl)) rfl
theorem wd_9_168 : (Jvm.Cond.lays "SheetPrinterModel$Desk" "SheetPrinterModel$Desk" "bytesCame" "I") ∈ gT := gT_in (in_9 _ (List.mem_of_getElem? (i := 168) rfl)) rfl
theorem wd_9_170 : (Jvm.Cond.lays "SheetPrinterModel$Desk" "SheetPrinterModel$Desk" "came" "Z") ∈ gT := gT_in (in_9 _ (List.mem_of_getElem? (i := 170) rfl)) rfl
theorem wd_9_172 : (Jvm.Cond.lays "SheetPrinterModel$Desk" "SheetPrinterModel$Desk" "cameX" "I") ∈ gT := gT_in (in_9 _ (List.mem_of_getElem? (i := 172) rfl)) rfl
theorem wd_9_174 : (Jvm.Cond.lays "SheetPrinterModel$Desk" "SheetPrinterModel$Desk" "cameY" "I") ∈ gT := gT_in (in_9 _ (List.mem_of_getElem? (i := 174) rfl)) rfl
theorem wd_9_176 : (Jvm.Cond.lays "SheetPrinterModel$Desk" "SheetPrinterModel$Desk" "glyphs" "I") ∈ gT := gT_in (in_9 _ (List.mem_of_getElem? (i := 176) rfl)) rfl
theorem wd_9_178 : (Jvm.Cond.lays "SheetPrinterModel$Desk" "SheetPrinterModel$Desk" "allGlyphs" "I") ∈ gT := gT_in (in_9 _ (List.mem_of_getElem? (i := 178) rfl)) rfl
theorem wd_9_180 : (Jvm.Cond.lays "SheetPrinterModel$Desk" "SheetPrinterModel$Desk" "touched" "Z") ∈ gT := gT_in (in_9 _ (List.mem_of_getElem? (i := 180) rfl)) rfl
theorem wd_9_182 : (Jvm.Cond.laysFinal "SheetPrinterModel$Desk" "SheetPrinterModel$Desk" "glyph" "[I") ∈ gT := gT_in (in_9 _ (List.mem_of_getElem? (i := 182) rfl)) rfl
theorem wd_9_184 : (Jvm.Cond.lays "SheetPrinterModel$Desk" "SheetPrinterModel$Desk" "pages" "I") ∈ gT := gT_in (in_9 _ (List.mem_of_getElem? (i := 184) rfl)) rfl
theorem wd_9_186 : (Jvm.Cond.laysFinal "SheetPrinterModel$Desk" "SheetPrinterModel$Desk" "page" "[I") ∈ gT := gT_in (in_9 _ (List.mem_of_getElem? (i := 186) rfl)) rfl
theorem wd_9_188 : (Jvm.Cond.lays "SheetPrinterModel$Desk" "SheetPrinterModel$Desk" "others" "I") ∈ gT := gT_in (in_9 _ (List.mem_of_getElem? (i := 188) rfl)) rfl
theorem wd_9_190 : (Jvm.Cond.laysFinal "SheetPrinterModel$Desk" "SheetPrinterModel$Desk" "other" "[I") ∈ gT := gT_in (in_9 _ (List.mem_of_getElem? (i := 190) rfl)) rfl
theorem wd_9_192 : (Jvm.Cond.lays "SheetPrinterModel$Desk" "SheetPrinterModel$Desk" "stored" "I") ∈ gT := gT_in (in_9 _ (List.mem_of_getElem? (i := 192) rfl)) rfl
theorem wd_9_194 : (Jvm.Cond.laysFinal "SheetPrinterModel$Desk" "SheetPrinterModel$Desk" "store" "[B") ∈ gT := gT_in (in_9 _ (List.mem_of_getElem? (i := 194) rfl)) rfl
theorem wd_9_201 : (Jvm.Cond.code ({ cls := "SheetPrinterModel$Shelf", name := "<init>", desc := "()V" } : Jvm.MethodName) prog_20_method_1_code (1 : Nat) (Option.none : Option Jvm.ClassFile.FieldType)) ∈ gT := gT_in (in_9 _ (List.mem_of_getElem? (i := 201) rfl)) rfl
theorem wd_9_202 : (Jvm.Cond.methodLink "SheetPrinterModel$Shelf" (1 : Nat) ({ cls := "java/lang/Object", name := "<init>", desc := "()V" } : Jvm.MethodName)) ∈ gT := gT_in (in_9 _ (List.mem_of_getElem? (i := 202) rfl)) rfl
theorem wd_9_203 : (Jvm.Cond.fieldLink "SheetPrinterModel$Shelf" (45 : Nat) "SheetPrinterModel$Shelf" "thrown" "I") ∈ gT := gT_in (in_9 _ (List.mem_of_getElem? (i := 203) rfl)) rfl
theorem wd_9_205 : (Jvm.Cond.fieldLink "SheetPrinterModel$Shelf" (66 : Nat) "SheetPrinterModel$Shelf" "fonts" "I") ∈ gT := gT_in (in_9 _ (List.mem_of_getElem? (i := 205) rfl)) rfl
theorem wd_9_207 : (Jvm.Cond.fieldLink "SheetPrinterModel$Shelf" (7 : Nat) "SheetPrinterModel$Shelf" "ids" "[I") ∈ gT := gT_in (in_9 _ (List.mem_of_getElem? (i := 207) rfl)) rfl
theorem wd_9_208 : (Jvm.Cond.fieldLink "SheetPrinterModel$Shelf" (13 : Nat) "SheetPrinterModel$Shelf" "attributes" "[I") ∈ gT := gT_in (in_9 _ (List.mem_of_getElem? (i := 208) rfl)) rfl
theorem wd_9_210 : (Jvm.Cond.fieldLink "SheetPrinterModel$Shelf" (16 : Nat) "SheetPrinterModel$Shelf" "permanent" "[Z") ∈ gT := gT_in (in_9 _ (List.mem_of_getElem? (i := 210) rfl)) rfl
theorem wd_9_213 : (Jvm.Cond.fieldLink "SheetPrinterModel$Shelf" (20 : Nat) "SheetPrinterModel$Shelf" "glyph" "[I") ∈ gT := gT_in (in_9 _ (List.mem_of_getElem? (i := 213) rfl)) rfl
theorem wd_9_216 : (Jvm.Cond.fieldLink "SheetPrinterModel$Shelf" (23 : Nat) "SheetPrinterModel$Shelf" "store" "[B") ∈ gT := gT_in (in_9 _ (List.mem_of_getElem? (i := 216) rfl)) rfl
theorem wd_9_217 : (Jvm.Cond.fieldLink "SheetPrinterModel$Shelf" (27 : Nat) "SheetPrinterModel$Shelf" "draft" "[I") ∈ gT := gT_in (in_9 _ (List.mem_of_getElem? (i := 217) rfl)) rfl
theorem wd_9_219 : (Jvm.Cond.fieldLink "SheetPrinterModel$Shelf" (30 : Nat) "SheetPrinterModel$Shelf" "wishes" "[I") ∈ gT := gT_in (in_9 _ (List.mem_of_getElem? (i := 219) rfl)) rfl
theorem wd_9_220 : (Jvm.Cond.fieldLink "SheetPrinterModel$Shelf" (33 : Nat) "SheetPrinterModel$Shelf" "pins" "[I") ∈ gT := gT_in (in_9 _ (List.mem_of_getElem? (i := 220) rfl)) rfl
theorem wd_9_221 : (Jvm.Cond.fieldLink "SheetPrinterModel$Shelf" (49 : Nat) "SheetPrinterModel$Shelf" "id" "I") ∈ gT := gT_in (in_9 _ (List.mem_of_getElem? (i := 221) rfl)) rfl
theorem wd_9_222 : (Jvm.Cond.fieldLink "SheetPrinterModel$Shelf" (52 : Nat) "SheetPrinterModel$Shelf" "code" "I") ∈ gT := gT_in (in_9 _ (List.mem_of_getElem? (i := 222) rfl)) rfl
theorem wd_9_223 : (Jvm.Cond.fieldLink "SheetPrinterModel$Shelf" (55 : Nat) "SheetPrinterModel$Shelf" "loading" "Z") ∈ gT := gT_in (in_9 _ (List.mem_of_getElem? (i := 223) rfl)) rfl
theorem wd_9_224 : (Jvm.Cond.fieldLink "SheetPrinterModel$Shelf" (36 : Nat) "SheetPrinterModel$Shelf" "coming" "[I") ∈ gT := gT_in (in_9 _ (List.mem_of_getElem? (i := 224) rfl)) rfl
theorem wd_9_227 : (Jvm.Cond.fieldLink "SheetPrinterModel$Shelf" (39 : Nat) "SheetPrinterModel$Shelf" "bytes" "[B") ∈ gT := gT_in (in_9 _ (List.mem_of_getElem? (i := 227) rfl)) rfl
theorem wd_9_228 : (Jvm.Cond.fieldLink "SheetPrinterModel$Shelf" (42 : Nat) "SheetPrinterModel$Shelf" "left" "[Z") ∈ gT := gT_in (in_9 _ (List.mem_of_getElem? (i := 228) rfl)) rfl
theorem wd_9_229 : (Jvm.Cond.lays "SheetPrinterModel$Shelf" "SheetPrinterModel$Shelf" "thrown" "I") ∈ gT := gT_in (in_9 _ (List.mem_of_getElem? (i := 229) rfl)) rfl
theorem wd_9_231 : (Jvm.Cond.lays "SheetPrinterModel$Shelf" "SheetPrinterModel$Shelf" "fonts" "I") ∈ gT := gT_in (in_9 _ (List.mem_of_getElem? (i := 231) rfl)) rfl
theorem wd_9_233 : (Jvm.Cond.laysFinal "SheetPrinterModel$Shelf" "SheetPrinterModel$Shelf" "ids" "[I") ∈ gT := gT_in (in_9 _ (List.mem_of_getElem? (i := 233) rfl)) rfl
theorem wd_9_235 : (Jvm.Cond.laysFinal "SheetPrinterModel$Shelf" "SheetPrinterModel$Shelf" "attributes" "[I") ∈ gT := gT_in (in_9 _ (List.mem_of_getElem? (i := 235) rfl)) rfl
theorem wd_9_237 : (Jvm.Cond.laysFinal "SheetPrinterModel$Shelf" "SheetPrinterModel$Shelf" "permanent" "[Z") ∈ gT := gT_in (in_9 _ (List.mem_of_getElem? (i := 237) rfl)) rfl
theorem wd_9_239 : (Jvm.Cond.lays "SheetPrinterModel$Shelf" "SheetPrinterModel$Shelf" "glyphs" "I") ∈ gT := gT_in (in_9 _ (List.mem_of_getElem? (i := 239) rfl)) rfl
theorem wd_10_1 : (Jvm.Cond.laysFinal "SheetPrinterModel$Shelf" "SheetPrinterModel$Shelf" "glyph" "[I") ∈ gT := gT_in (in_10 _ (List.mem_of_getElem? (i := 1) rfl)) rfl
theorem wd_10_3 : (Jvm.Cond.lays "SheetPrinterModel$Shelf" "SheetPrinterModel$Shelf" "used" "I") ∈ gT := gT_in (in_10 _ (List.mem_of_getElem? (i := 3) rfl)) rfl
theorem wd_10_5 : (Jvm.Cond.laysFinal "SheetPrinterModel$Shelf" "SheetPrinterModel$Shelf" "store" "[B") ∈ gT := gT_in (in_10 _ (List.mem_of_getElem? (i := 5) rfl)) rfl
theorem wd_10_7 : (Jvm.Cond.laysFinal "SheetPrinterModel$Shelf" "SheetPrinterModel$Shelf" "draft" "[I") ∈ gT := gT_in (in_10 _ (List.mem_of_getElem? (i := 7) rfl)) rfl
theorem wd_10_9 : (Jvm.Cond.laysFinal "SheetPrinterModel$Shelf" "SheetPrinterModel$Shelf" "wishes" "[I") ∈ gT := gT_in (in_10 _ (List.mem_of_getElem? (i := 9) rfl)) rfl
theorem wd_10_11 : (Jvm.Cond.laysFinal "SheetPrinterModel$Shelf" "SheetPrinterModel$Shelf" "pins" "[I") ∈ gT := gT_in (in_10 _ (List.mem_of_getElem? (i := 11) rfl)) rfl
theorem wd_10_13 : (Jvm.Cond.lays "SheetPrinterModel$Shelf" "SheetPrinterModel$Shelf" "id" "I") ∈ gT := gT_in (in_10 _ (List.mem_of_getElem? (i := 13) rfl)) rfl
theorem wd_10_15 : (Jvm.Cond.lays "SheetPrinterModel$Shelf" "SheetPrinterModel$Shelf" "code" "I") ∈ gT := gT_in (in_10 _ (List.mem_of_getElem? (i := 15) rfl)) rfl
theorem wd_10_17 : (Jvm.Cond.lays "SheetPrinterModel$Shelf" "SheetPrinterModel$Shelf" "loading" "Z") ∈ gT := gT_in (in_10 _ (List.mem_of_getElem? (i := 17) rfl)) rfl
theorem wd_10_19 : (Jvm.Cond.laysFinal "SheetPrinterModel$Shelf" "SheetPrinterModel$Shelf" "coming" "[I") ∈ gT := gT_in (in_10 _ (List.mem_of_getElem? (i := 19) rfl)) rfl
theorem wd_10_21 : (Jvm.Cond.lays "SheetPrinterModel$Shelf" "SheetPrinterModel$Shelf" "need" "I") ∈ gT := gT_in (in_10 _ (List.mem_of_getElem? (i := 21) rfl)) rfl
theorem wd_10_23 : (Jvm.Cond.lays "SheetPrinterModel$Shelf" "SheetPrinterModel$Shelf" "came" "I") ∈ gT := gT_in (in_10 _ (List.mem_of_getElem? (i := 23) rfl)) rfl
theorem wd_10_25 : (Jvm.Cond.laysFinal "SheetPrinterModel$Shelf" "SheetPrinterModel$Shelf" "bytes" "[B") ∈ gT := gT_in (in_10 _ (List.mem_of_getElem? (i := 25) rfl)) rfl
theorem wd_10_27 : (Jvm.Cond.laysFinal "SheetPrinterModel$Shelf" "SheetPrinterModel$Shelf" "left" "[Z") ∈ gT := gT_in (in_10 _ (List.mem_of_getElem? (i := 27) rfl)) rfl
theorem wd_10_34 : (Jvm.Cond.code ({ cls := "SheetPrinterModel$Macros", name := "<init>", desc := "()V" } : Jvm.MethodName) prog_17_method_1_code (1 : Nat) (Option.none : Option Jvm.ClassFile.FieldType)) ∈ gT := gT_in (in_10 _ (List.mem_of_getElem? (i := 34) rfl)) rfl
theorem wd_10_35 : (Jvm.Cond.methodLink "SheetPrinterModel$Macros" (3 : Nat) ({ cls := "java/lang/Object", name := "<init>", desc := "()V" } : Jvm.MethodName)) ∈ gT := gT_in (in_10 _ (List.mem_of_getElem? (i := 35) rfl)) rfl
theorem wd_10_36 : (Jvm.Cond.fieldLink "SheetPrinterModel$Macros" (29 : Nat) "SheetPrinterModel$Macros" "count" "I") ∈ gT := gT_in (in_10 _ (List.mem_of_getElem? (i := 36) rfl)) rfl
theorem wd_10_38 : (Jvm.Cond.fieldLink "SheetPrinterModel$Macros" (9 : Nat) "SheetPrinterModel$Macros" "ids" "[I") ∈ gT := gT_in (in_10 _ (List.mem_of_getElem? (i := 38) rfl)) rfl
theorem wd_10_39 : (Jvm.Cond.fieldLink "SheetPrinterModel$Macros" (15 : Nat) "SheetPrinterModel$Macros" "permanent" "[Z") ∈ gT := gT_in (in_10 _ (List.mem_of_getElem? (i := 39) rfl)) rfl
theorem wd_10_41 : (Jvm.Cond.fieldLink "SheetPrinterModel$Macros" (19 : Nat) "SheetPrinterModel$Macros" "lengths" "[I") ∈ gT := gT_in (in_10 _ (List.mem_of_getElem? (i := 41) rfl)) rfl
theorem wd_10_45 : (Jvm.Cond.fieldLink "SheetPrinterModel$Macros" (22 : Nat) "SheetPrinterModel$Macros" "store" "[B") ∈ gT := gT_in (in_10 _ (List.mem_of_getElem? (i := 45) rfl)) rfl
theorem wd_10_52 : (Jvm.Cond.fieldLink "SheetPrinterModel$Macros" (26 : Nat) "SheetPrinterModel$Macros" "buffer" "[B") ∈ gT := gT_in (in_10 _ (List.mem_of_getElem? (i := 52) rfl)) rfl
theorem wd_10_53 : (Jvm.Cond.lays "SheetPrinterModel$Macros" "SheetPrinterModel$Macros" "count" "I") ∈ gT := gT_in (in_10 _ (List.mem_of_getElem? (i := 53) rfl)) rfl
theorem wd_10_55 : (Jvm.Cond.laysFinal "SheetPrinterModel$Macros" "SheetPrinterModel$Macros" "ids" "[I") ∈ gT := gT_in (in_10 _ (List.mem_of_getElem? (i := 55) rfl)) rfl
theorem wd_10_57 : (Jvm.Cond.laysFinal "SheetPrinterModel$Macros" "SheetPrinterModel$Macros" "permanent" "[Z") ∈ gT := gT_in (in_10 _ (List.mem_of_getElem? (i := 57) rfl)) rfl
theorem wd_10_59 : (Jvm.Cond.laysFinal "SheetPrinterModel$Macros" "SheetPrinterModel$Macros" "lengths" "[I") ∈ gT := gT_in (in_10 _ (List.mem_of_getElem? (i := 59) rfl)) rfl
theorem wd_10_61 : (Jvm.Cond.lays "SheetPrinterModel$Macros" "SheetPrinterModel$Macros" "used" "I") ∈ gT := gT_in (in_10 _ (List.mem_of_getElem? (i := 61) rfl)) rfl
theorem wd_10_63 : (Jvm.Cond.laysFinal "SheetPrinterModel$Macros" "SheetPrinterModel$Macros" "store" "[B") ∈ gT := gT_in (in_10 _ (List.mem_of_getElem? (i := 63) rfl)) rfl
theorem wd_10_65 : (Jvm.Cond.lays "SheetPrinterModel$Macros" "SheetPrinterModel$Macros" "reading" "Z") ∈ gT := gT_in (in_10 _ (List.mem_of_getElem? (i := 65) rfl)) rfl
theorem wd_10_67 : (Jvm.Cond.lays "SheetPrinterModel$Macros" "SheetPrinterModel$Macros" "id" "I") ∈ gT := gT_in (in_10 _ (List.mem_of_getElem? (i := 67) rfl)) rfl
theorem wd_10_69 : (Jvm.Cond.lays "SheetPrinterModel$Macros" "SheetPrinterModel$Macros" "length" "I") ∈ gT := gT_in (in_10 _ (List.mem_of_getElem? (i := 69) rfl)) rfl
theorem wd_10_71 : (Jvm.Cond.lays "SheetPrinterModel$Macros" "SheetPrinterModel$Macros" "matched" "I") ∈ gT := gT_in (in_10 _ (List.mem_of_getElem? (i := 71) rfl)) rfl
theorem wd_10_73 : (Jvm.Cond.laysFinal "SheetPrinterModel$Macros" "SheetPrinterModel$Macros" "buffer" "[B") ∈ gT := gT_in (in_10 _ (List.mem_of_getElem? (i := 73) rfl)) rfl
theorem wd_10_155 : (Jvm.Cond.code ({ cls := "SheetPrinterModel$Pictures", name := "<init>", desc := "()V" } : Jvm.MethodName) prog_18_method_1_code (1 : Nat) (Option.none : Option Jvm.ClassFile.FieldType)) ∈ gT := gT_in (in_10 _ (List.mem_of_getElem? (i := 155) rfl)) rfl
theorem wd_10_156 : (Jvm.Cond.methodLink "SheetPrinterModel$Pictures" (1 : Nat) ({ cls := "java/lang/Object", name := "<init>", desc := "()V" } : Jvm.MethodName)) ∈ gT := gT_in (in_10 _ (List.mem_of_getElem? (i := 156) rfl)) rfl
theorem wd_10_157 : (Jvm.Cond.constant "SheetPrinterModel$Pictures" (7 : Nat) (65536 : Int32)) ∈ gT := gT_in (in_10 _ (List.mem_of_getElem? (i := 157) rfl)) rfl
theorem wd_10_158 : (Jvm.Cond.fieldLink "SheetPrinterModel$Pictures" (37 : Nat) "SheetPrinterModel$Pictures" "thrown" "I") ∈ gT := gT_in (in_10 _ (List.mem_of_getElem? (i := 158) rfl)) rfl
theorem wd_10_159 : (Jvm.Cond.fieldLink "SheetPrinterModel$Pictures" (8 : Nat) "SheetPrinterModel$Pictures" "file" "[B") ∈ gT := gT_in (in_10 _ (List.mem_of_getElem? (i := 159) rfl)) rfl
theorem wd_10_161 : (Jvm.Cond.fieldLink "SheetPrinterModel$Pictures" (41 : Nat) "SheetPrinterModel$Pictures" "size" "I") ∈ gT := gT_in (in_10 _ (List.mem_of_getElem? (i := 161) rfl)) rfl
theorem wd_10_163 : (Jvm.Cond.fieldLink "SheetPrinterModel$Pictures" (44 : Nat) "SheetPrinterModel$Pictures" "making" "Z") ∈ gT := gT_in (in_10 _ (List.mem_of_getElem? (i := 163) rfl)) rfl
theorem wd_10_164 : (Jvm.Cond.fieldLink "SheetPrinterModel$Pictures" (67 : Nat) "SheetPrinterModel$Pictures" "open" "Z") ∈ gT := gT_in (in_10 _ (List.mem_of_getElem? (i := 164) rfl)) rfl
theorem wd_10_165 : (Jvm.Cond.fieldLink "SheetPrinterModel$Pictures" (58 : Nat) "SheetPrinterModel$Pictures" "order" "I") ∈ gT := gT_in (in_10 _ (List.mem_of_getElem? (i := 165) rfl)) rfl
theorem wd_10_167 : (Jvm.Cond.fieldLink "SheetPrinterModel$Pictures" (70 : Nat) "SheetPrinterModel$Pictures" "made" "I") ∈ gT := gT_in (in_10 _ (List.mem_of_getElem? (i := 167) rfl)) rfl
theorem wd_10_168 : (Jvm.Cond.fieldLink "SheetPrinterModel$Pictures" (73 : Nat) "SheetPrinterModel$Pictures" "link" "I") ∈ gT := gT_in (in_10 _ (List.mem_of_getElem? (i := 168) rfl)) rfl
theorem wd_10_179 : (Jvm.Cond.fieldLink "SheetPrinterModel$Pictures" (14 : Nat) "SheetPrinterModel$Pictures" "places" "[I") ∈ gT := gT_in (in_10 _ (List.mem_of_getElem? (i := 179) rfl)) rfl
theorem wd_10_180 : (Jvm.Cond.fieldLink "SheetPrinterModel$Pictures" (18 : Nat) "SheetPrinterModel$Pictures" "lengths" "[I") ∈ gT := gT_in (in_10 _ (List.mem_of_getElem? (i := 180) rfl)) rfl
theorem wd_10_183 : (Jvm.Cond.fieldLink "SheetPrinterModel$Pictures" (21 : Nat) "SheetPrinterModel$Pictures" "numbers" "[J") ∈ gT := gT_in (in_10 _ (List.mem_of_getElem? (i := 183) rfl)) rfl
theorem wd_10_184 : (Jvm.Cond.fieldLink "SheetPrinterModel$Pictures" (25 : Nat) "SheetPrinterModel$Pictures" "firstStrip" "[I") ∈ gT := gT_in (in_10 _ (List.mem_of_getElem? (i := 184) rfl)) rfl
theorem wd_10_185 : (Jvm.Cond.fieldLink "SheetPrinterModel$Pictures" (28 : Nat) "SheetPrinterModel$Pictures" "stripPlace" "[I") ∈ gT := gT_in (in_10 _ (List.mem_of_getElem? (i := 185) rfl)) rfl
theorem wd_10_186 : (Jvm.Cond.fieldLink "SheetPrinterModel$Pictures" (31 : Nat) "SheetPrinterModel$Pictures" "stripLength" "[I") ∈ gT := gT_in (in_10 _ (List.mem_of_getElem? (i := 186) rfl)) rfl
theorem wd_10_191 : (Jvm.Cond.fieldLink "SheetPrinterModel$Pictures" (34 : Nat) "SheetPrinterModel$Pictures" "entry" "[I") ∈ gT := gT_in (in_10 _ (List.mem_of_getElem? (i := 191) rfl)) rfl
theorem wd_10_192 : (Jvm.Cond.lays "SheetPrinterModel$Pictures" "SheetPrinterModel$Pictures" "thrown" "I") ∈ gT := gT_in (in_10 _ (List.mem_of_getElem? (i := 192) rfl)) rfl
theorem wd_10_194 : (Jvm.Cond.laysFinal "SheetPrinterModel$Pictures" "SheetPrinterModel$Pictures" "file" "[B") ∈ gT := gT_in (in_10 _ (List.mem_of_getElem? (i := 194) rfl)) rfl
theorem wd_10_196 : (Jvm.Cond.lays "SheetPrinterModel$Pictures" "SheetPrinterModel$Pictures" "size" "I") ∈ gT := gT_in (in_10 _ (List.mem_of_getElem? (i := 196) rfl)) rfl
theorem wd_10_198 : (Jvm.Cond.lays "SheetPrinterModel$Pictures" "SheetPrinterModel$Pictures" "making" "Z") ∈ gT := gT_in (in_10 _ (List.mem_of_getElem? (i := 198) rfl)) rfl
theorem wd_10_200 : (Jvm.Cond.lays "SheetPrinterModel$Pictures" "SheetPrinterModel$Pictures" "open" "Z") ∈ gT := gT_in (in_10 _ (List.mem_of_getElem? (i := 200) rfl)) rfl
theorem wd_10_202 : (Jvm.Cond.lays "SheetPrinterModel$Pictures" "SheetPrinterModel$Pictures" "order" "I") ∈ gT := gT_in (in_10 _ (List.mem_of_getElem? (i := 202) rfl)) rfl
theorem wd_10_204 : (Jvm.Cond.lays "SheetPrinterModel$Pictures" "SheetPrinterModel$Pictures" "made" "I") ∈ gT := gT_in (in_10 _ (List.mem_of_getElem? (i := 204) rfl)) rfl
theorem wd_10_206 : (Jvm.Cond.lays "SheetPrinterModel$Pictures" "SheetPrinterModel$Pictures" "link" "I") ∈ gT := gT_in (in_10 _ (List.mem_of_getElem? (i := 206) rfl)) rfl
theorem wd_10_208 : (Jvm.Cond.lays "SheetPrinterModel$Pictures" "SheetPrinterModel$Pictures" "width" "I") ∈ gT := gT_in (in_10 _ (List.mem_of_getElem? (i := 208) rfl)) rfl
theorem wd_10_210 : (Jvm.Cond.lays "SheetPrinterModel$Pictures" "SheetPrinterModel$Pictures" "height" "I") ∈ gT := gT_in (in_10 _ (List.mem_of_getElem? (i := 210) rfl)) rfl
theorem wd_10_212 : (Jvm.Cond.lays "SheetPrinterModel$Pictures" "SheetPrinterModel$Pictures" "rows" "I") ∈ gT := gT_in (in_10 _ (List.mem_of_getElem? (i := 212) rfl)) rfl
theorem wd_10_214 : (Jvm.Cond.lays "SheetPrinterModel$Pictures" "SheetPrinterModel$Pictures" "across" "I") ∈ gT := gT_in (in_10 _ (List.mem_of_getElem? (i := 214) rfl)) rfl
theorem wd_10_216 : (Jvm.Cond.lays "SheetPrinterModel$Pictures" "SheetPrinterModel$Pictures" "down" "I") ∈ gT := gT_in (in_10 _ (List.mem_of_getElem? (i := 216) rfl)) rfl
theorem wd_10_218 : (Jvm.Cond.lays "SheetPrinterModel$Pictures" "SheetPrinterModel$Pictures" "strips" "I") ∈ gT := gT_in (in_10 _ (List.mem_of_getElem? (i := 218) rfl)) rfl
theorem wd_10_220 : (Jvm.Cond.lays "SheetPrinterModel$Pictures" "SheetPrinterModel$Pictures" "done" "I") ∈ gT := gT_in (in_10 _ (List.mem_of_getElem? (i := 220) rfl)) rfl
theorem wd_10_222 : (Jvm.Cond.lays "SheetPrinterModel$Pictures" "SheetPrinterModel$Pictures" "from" "I") ∈ gT := gT_in (in_10 _ (List.mem_of_getElem? (i := 222) rfl)) rfl
theorem wd_10_224 : (Jvm.Cond.lays "SheetPrinterModel$Pictures" "SheetPrinterModel$Pictures" "length" "I") ∈ gT := gT_in (in_10 _ (List.mem_of_getElem? (i := 224) rfl)) rfl
theorem wd_10_226 : (Jvm.Cond.laysFinal "SheetPrinterModel$Pictures" "SheetPrinterModel$Pictures" "places" "[I") ∈ gT := gT_in (in_10 _ (List.mem_of_getElem? (i := 226) rfl)) rfl
theorem wd_10_228 : (Jvm.Cond.laysFinal "SheetPrinterModel$Pictures" "SheetPrinterModel$Pictures" "lengths" "[I") ∈ gT := gT_in (in_10 _ (List.mem_of_getElem? (i := 228) rfl)) rfl
theorem wd_10_230 : (Jvm.Cond.lays "SheetPrinterModel$Pictures" "SheetPrinterModel$Pictures" "wasOrder" "I") ∈ gT := gT_in (in_10 _ (List.mem_of_getElem? (i := 230) rfl)) rfl
theorem wd_10_232 : (Jvm.Cond.lays "SheetPrinterModel$Pictures" "SheetPrinterModel$Pictures" "pages" "I") ∈ gT := gT_in (in_10 _ (List.mem_of_getElem? (i := 232) rfl)) rfl
theorem wd_10_234 : (Jvm.Cond.laysFinal "SheetPrinterModel$Pictures" "SheetPrinterModel$Pictures" "numbers" "[J") ∈ gT := gT_in (in_10 _ (List.mem_of_getElem? (i := 234) rfl)) rfl
theorem wd_10_236 : (Jvm.Cond.laysFinal "SheetPrinterModel$Pictures" "SheetPrinterModel$Pictures" "firstStrip" "[I") ∈ gT := gT_in (in_10 _ (List.mem_of_getElem? (i := 236) rfl)) rfl
theorem wd_10_238 : (Jvm.Cond.laysFinal "SheetPrinterModel$Pictures" "SheetPrinterModel$Pictures" "stripPlace" "[I") ∈ gT := gT_in (in_10 _ (List.mem_of_getElem? (i := 238) rfl)) rfl
theorem wd_11_0 : (Jvm.Cond.laysFinal "SheetPrinterModel$Pictures" "SheetPrinterModel$Pictures" "stripLength" "[I") ∈ gT := gT_in (in_11 _ (List.mem_of_getElem? (i := 0) rfl)) rfl
theorem wd_11_2 : (Jvm.Cond.lays "SheetPrinterModel$Pictures" "SheetPrinterModel$Pictures" "fault" "I") ∈ gT := gT_in (in_11 _ (List.mem_of_getElem? (i := 2) rfl)) rfl
theorem wd_11_4 : (Jvm.Cond.lays "SheetPrinterModel$Pictures" "SheetPrinterModel$Pictures" "faultPage" "I") ∈ gT := gT_in (in_11 _ (List.mem_of_getElem? (i := 4) rfl)) rfl
theorem wd_11_6 : (Jvm.Cond.lays "SheetPrinterModel$Pictures" "SheetPrinterModel$Pictures" "faultTag" "I") ∈ gT := gT_in (in_11 _ (List.mem_of_getElem? (i := 6) rfl)) rfl
theorem wd_11_8 : (Jvm.Cond.lays "SheetPrinterModel$Pictures" "SheetPrinterModel$Pictures" "faultStrip" "I") ∈ gT := gT_in (in_11 _ (List.mem_of_getElem? (i := 8) rfl)) rfl
theorem wd_11_10 : (Jvm.Cond.laysFinal "SheetPrinterModel$Pictures" "SheetPrinterModel$Pictures" "entry" "[I") ∈ gT := gT_in (in_11 _ (List.mem_of_getElem? (i := 10) rfl)) rfl
theorem wd_11_18 : (Jvm.Cond.code ({ cls := "SheetPrinterModel$Sheet", name := "<init>", desc := "(I)V" } : Jvm.MethodName) prog_19_method_1_code (2 : Nat) (Option.none : Option Jvm.ClassFile.FieldType)) ∈ gT := gT_in (in_11 _ (List.mem_of_getElem? (i := 18) rfl)) rfl
theorem wd_11_19 : (Jvm.Cond.methodLink "SheetPrinterModel$Sheet" (1 : Nat) ({ cls := "java/lang/Object", name := "<init>", desc := "()V" } : Jvm.MethodName)) ∈ gT := gT_in (in_11 _ (List.mem_of_getElem? (i := 19) rfl)) rfl
theorem wd_11_20 : (Jvm.Cond.fieldLink "SheetPrinterModel$Sheet" (7 : Nat) "SheetPrinterModel$Sheet" "stride" "I") ∈ gT := gT_in (in_11 _ (List.mem_of_getElem? (i := 20) rfl)) rfl
theorem wd_11_21 : (Jvm.Cond.fieldLink "SheetPrinterModel$Sheet" (13 : Nat) "SheetPrinterModel$Sheet" "dots" "[J") ∈ gT := gT_in (in_11 _ (List.mem_of_getElem? (i := 21) rfl)) rfl
theorem wd_11_24 : (Jvm.Cond.fieldLink "SheetPrinterModel$Sheet" (17 : Nat) "SheetPrinterModel$Sheet" "high" "I") ∈ gT := gT_in (in_11 _ (List.mem_of_getElem? (i := 24) rfl)) rfl
theorem wd_11_28 : (Jvm.Cond.fieldLink "SheetPrinterModel$Sheet" (20 : Nat) "SheetPrinterModel$Sheet" "marks" "I") ∈ gT := gT_in (in_11 _ (List.mem_of_getElem? (i := 28) rfl)) rfl
theorem wd_11_30 : (Jvm.Cond.fieldLink "SheetPrinterModel$Sheet" (23 : Nat) "SheetPrinterModel$Sheet" "bytes" "I") ∈ gT := gT_in (in_11 _ (List.mem_of_getElem? (i := 30) rfl)) rfl
theorem wd_11_32 : (Jvm.Cond.fieldLink "SheetPrinterModel$Sheet" (26 : Nat) "SheetPrinterModel$Sheet" "overrun" "Z") ∈ gT := gT_in (in_11 _ (List.mem_of_getElem? (i := 32) rfl)) rfl
theorem wd_11_39 : (Jvm.Cond.laysFinal "SheetPrinterModel$Sheet" "SheetPrinterModel$Sheet" "stride" "I") ∈ gT := gT_in (in_11 _ (List.mem_of_getElem? (i := 39) rfl)) rfl
theorem wd_11_41 : (Jvm.Cond.laysFinal "SheetPrinterModel$Sheet" "SheetPrinterModel$Sheet" "dots" "[J") ∈ gT := gT_in (in_11 _ (List.mem_of_getElem? (i := 41) rfl)) rfl
theorem wd_11_43 : (Jvm.Cond.lays "SheetPrinterModel$Sheet" "SheetPrinterModel$Sheet" "wide" "I") ∈ gT := gT_in (in_11 _ (List.mem_of_getElem? (i := 43) rfl)) rfl
theorem wd_11_45 : (Jvm.Cond.lays "SheetPrinterModel$Sheet" "SheetPrinterModel$Sheet" "high" "I") ∈ gT := gT_in (in_11 _ (List.mem_of_getElem? (i := 45) rfl)) rfl
theorem wd_11_47 : (Jvm.Cond.lays "SheetPrinterModel$Sheet" "SheetPrinterModel$Sheet" "orientation" "I") ∈ gT := gT_in (in_11 _ (List.mem_of_getElem? (i := 47) rfl)) rfl
theorem wd_11_49 : (Jvm.Cond.lays "SheetPrinterModel$Sheet" "SheetPrinterModel$Sheet" "marks" "I") ∈ gT := gT_in (in_11 _ (List.mem_of_getElem? (i := 49) rfl)) rfl
theorem wd_11_51 : (Jvm.Cond.lays "SheetPrinterModel$Sheet" "SheetPrinterModel$Sheet" "bytes" "I") ∈ gT := gT_in (in_11 _ (List.mem_of_getElem? (i := 51) rfl)) rfl
theorem wd_11_53 : (Jvm.Cond.lays "SheetPrinterModel$Sheet" "SheetPrinterModel$Sheet" "overrun" "Z") ∈ gT := gT_in (in_11 _ (List.mem_of_getElem? (i := 53) rfl)) rfl
theorem wd_11_55 : (Jvm.Cond.lays "SheetPrinterModel$Sheet" "SheetPrinterModel$Sheet" "ink" "I") ∈ gT := gT_in (in_11 _ (List.mem_of_getElem? (i := 55) rfl)) rfl
theorem wd_11_57 : (Jvm.Cond.lays "SheetPrinterModel$Sheet" "SheetPrinterModel$Sheet" "value" "I") ∈ gT := gT_in (in_11 _ (List.mem_of_getElem? (i := 57) rfl)) rfl
theorem wd_11_59 : (Jvm.Cond.lays "SheetPrinterModel$Sheet" "SheetPrinterModel$Sheet" "sourceOpaque" "Z") ∈ gT := gT_in (in_11 _ (List.mem_of_getElem? (i := 59) rfl)) rfl
theorem wd_11_61 : (Jvm.Cond.lays "SheetPrinterModel$Sheet" "SheetPrinterModel$Sheet" "inkOpaque" "Z") ∈ gT := gT_in (in_11 _ (List.mem_of_getElem? (i := 61) rfl)) rfl
theorem wd_11_71 : (Jvm.Cond.code ({ cls := "SheetPrinterModel$Desk", name := "restart", desc := "()V" } : Jvm.MethodName) prog_15_method_11_code (2 : Nat) (Option.none : Option Jvm.ClassFile.FieldType)) ∈ gT := gT_in (in_11 _ (List.mem_of_getElem? (i := 71) rfl)) rfl
theorem wd_11_75 : (Jvm.Cond.code ({ cls := "SheetPrinterModel$Shelf", name := "drop", desc := "(I)I" } : Jvm.MethodName) prog_20_method_20_code (4 : Nat) (Option.some Jvm.ClassFile.FieldType.int)) ∈ gT := gT_in (in_11 _ (List.mem_of_getElem? (i := 75) rfl)) rfl
theorem wd_11_99 : (Jvm.Cond.code ({ cls := "SheetPrinterModel$Shelf", name := "restart", desc := "()V" } : Jvm.MethodName) prog_20_method_3_code (2 : Nat) (Option.none : Option Jvm.ClassFile.FieldType)) ∈ gT := gT_in (in_11 _ (List.mem_of_getElem? (i := 99) rfl)) rfl
theorem wd_11_103 : (Jvm.Cond.code ({ cls := "SheetPrinterModel$Macros", name := "removeAll", desc := "(Z)V" } : Jvm.MethodName) prog_17_method_5_code (3 : Nat) (Option.none : Option Jvm.ClassFile.FieldType)) ∈ gT := gT_in (in_11 _ (List.mem_of_getElem? (i := 103) rfl)) rfl
theorem wd_11_115 : (Jvm.Cond.code ({ cls := "SheetPrinterModel$Sheet", name := "blank", desc := "()V" } : Jvm.MethodName) prog_19_method_2_code (2 : Nat) (Option.none : Option Jvm.ClassFile.FieldType)) ∈ gT := gT_in (in_11 _ (List.mem_of_getElem? (i := 115) rfl)) rfl
theorem wd_11_125 : (Jvm.Cond.code ({ cls := "SheetPrinterModel$Pictures", name := "begin", desc := "(I)V" } : Jvm.MethodName) prog_18_method_12_code (2 : Nat) (Option.none : Option Jvm.ClassFile.FieldType)) ∈ gT := gT_in (in_11 _ (List.mem_of_getElem? (i := 125) rfl)) rfl
theorem wd_11_126 : (Jvm.Cond.methodLink "SheetPrinterModel$Pictures" (50 : Nat) ({ cls := "SheetPrinterModel$Pictures", name := "one", desc := "(I)V" } : Jvm.MethodName)) ∈ gT := gT_in (in_11 _ (List.mem_of_getElem? (i := 126) rfl)) rfl
theorem wd_11_128 : (Jvm.Cond.instanceMethod ({ cls := "SheetPrinterModel$Pictures", name := "one", desc := "(I)V" } : Jvm.MethodName)) ∈ gT := gT_in (in_11 _ (List.mem_of_getElem? (i := 128) rfl)) rfl
theorem wd_11_129 : (Jvm.Cond.code ({ cls := "SheetPrinterModel$Pictures", name := "one", desc := "(I)V" } : Jvm.MethodName) prog_18_method_3_code (2 : Nat) (Option.none : Option Jvm.ClassFile.FieldType)) ∈ gT := gT_in (in_11 _ (List.mem_of_getElem? (i := 129) rfl)) rfl
theorem wd_11_130 : (Jvm.Cond.methodLink "SheetPrinterModel$Pictures" (61 : Nat) ({ cls := "SheetPrinterModel$Pictures", name := "two", desc := "(I)V" } : Jvm.MethodName)) ∈ gT := gT_in (in_11 _ (List.mem_of_getElem? (i := 130) rfl)) rfl
theorem wd_11_132 : (Jvm.Cond.instanceMethod ({ cls := "SheetPrinterModel$Pictures", name := "two", desc := "(I)V" } : Jvm.MethodName)) ∈ gT := gT_in (in_11 _ (List.mem_of_getElem? (i := 132) rfl)) rfl
theorem wd_11_133 : (Jvm.Cond.code ({ cls := "SheetPrinterModel$Pictures", name := "two", desc := "(I)V" } : Jvm.MethodName) prog_18_method_9_code (2 : Nat) (Option.none : Option Jvm.ClassFile.FieldType)) ∈ gT := gT_in (in_11 _ (List.mem_of_getElem? (i := 133) rfl)) rfl
theorem wd_11_134 : (Jvm.Cond.methodLink "SheetPrinterModel$Pictures" (64 : Nat) ({ cls := "SheetPrinterModel$Pictures", name := "four", desc := "(I)V" } : Jvm.MethodName)) ∈ gT := gT_in (in_11 _ (List.mem_of_getElem? (i := 134) rfl)) rfl
theorem wd_11_136 : (Jvm.Cond.instanceMethod ({ cls := "SheetPrinterModel$Pictures", name := "four", desc := "(I)V" } : Jvm.MethodName)) ∈ gT := gT_in (in_11 _ (List.mem_of_getElem? (i := 136) rfl)) rfl
theorem wd_11_137 : (Jvm.Cond.code ({ cls := "SheetPrinterModel$Pictures", name := "four", desc := "(I)V" } : Jvm.MethodName) prog_18_method_10_code (2 : Nat) (Option.none : Option Jvm.ClassFile.FieldType)) ∈ gT := gT_in (in_11 _ (List.mem_of_getElem? (i := 137) rfl)) rfl
theorem ws_111 : Cond.selects "SheetPrinterModel$Desk" ⟨"SheetPrinterModel$Desk", "reset", "()V"⟩ ⟨"SheetPrinterModel$Desk", "reset", "()V"⟩ ∈ gT := gT_in (List.mem_append_left _ (List.mem_of_getElem? (i := 111) rfl)) rfl
theorem ws_112 : Cond.selects "SheetPrinterModel$Desk" ⟨"SheetPrinterModel$Desk", "defaults", "()V"⟩ ⟨"SheetPrinterModel$Desk", "defaults", "()V"⟩ ∈ gT := gT_in (List.mem_append_left _ (List.mem_of_getElem? (i := 112) rfl)) rfl
theorem ws_113 : Cond.selects "SheetPrinterModel$Desk" ⟨"SheetPrinterModel$Desk", "measure", "()V"⟩ ⟨"SheetPrinterModel$Desk", "measure", "()V"⟩ ∈ gT := gT_in (List.mem_append_left _ (List.mem_of_getElem? (i := 113) rfl)) rfl
theorem ws_114 : Cond.selects "SheetPrinterModel$Desk" ⟨"SheetPrinterModel$Desk", "setX", "(J)V"⟩ ⟨"SheetPrinterModel$Desk", "setX", "(J)V"⟩ ∈ gT := gT_in (List.mem_append_left _ (List.mem_of_getElem? (i := 114) rfl)) rfl
theorem ws_115 : Cond.selects "SheetPrinterModel$Desk" ⟨"SheetPrinterModel$Desk", "home", "()I"⟩ ⟨"SheetPrinterModel$Desk", "home", "()I"⟩ ∈ gT := gT_in (List.mem_append_left _ (List.mem_of_getElem? (i := 115) rfl)) rfl
theorem ws_116 : Cond.selects "SheetPrinterModel$Desk" ⟨"SheetPrinterModel$Desk", "setY", "(J)V"⟩ ⟨"SheetPrinterModel$Desk", "setY", "(J)V"⟩ ∈ gT := gT_in (List.mem_append_left _ (List.mem_of_getElem? (i := 116) rfl)) rfl
theorem ws_124 : Cond.selects "SheetPrinterModel$Pictures" ⟨"SheetPrinterModel$Pictures", "one", "(I)V"⟩ ⟨"SheetPrinterModel$Pictures", "one", "(I)V"⟩ ∈ gT := gT_in (List.mem_append_left _ (List.mem_of_getElem? (i := 124) rfl)) rfl
theorem ws_125 : Cond.selects "SheetPrinterModel$Pictures" ⟨"SheetPrinterModel$Pictures", "two", "(I)V"⟩ ⟨"SheetPrinterModel$Pictures", "two", "(I)V"⟩ ∈ gT := gT_in (List.mem_append_left _ (List.mem_of_getElem? (i := 125) rfl)) rfl
theorem ws_126 : Cond.selects "SheetPrinterModel$Pictures" ⟨"SheetPrinterModel$Pictures", "four", "(I)V"⟩ ⟨"SheetPrinterModel$Pictures", "four", "(I)V"⟩ ∈ gT := gT_in (List.mem_append_left _ (List.mem_of_getElem? (i := 126) rfl)) rfl
theorem i_mDesk : ∀ w ∈ u_ws R_mDesk F_mDesk 36, w ∈ gT := by
  intro w h
  obtain ⟨k, hk, rfl⟩ := List.mem_map.mp h
  have hk := List.mem_range.mp hk
  match k, hk with
  | 0, _ => exact wd_9_124
  | 1, _ => exact wd_9_126
  | 2, _ => exact wd_9_128
  | 3, _ => exact wd_9_130
  | 4, _ => exact wd_9_132
  | 5, _ => exact wd_9_134
  | 6, _ => exact wd_9_136
  | 7, _ => exact wd_9_138
  | 8, _ => exact wd_9_140
  | 9, _ => exact wd_9_142
  | 10, _ => exact wd_9_144
  | 11, _ => exact wd_9_146
  | 12, _ => exact wd_9_148
  | 13, _ => exact wd_9_150
  | 14, _ => exact wd_9_152
  | 15, _ => exact wd_9_154
  | 16, _ => exact wd_9_156
  | 17, _ => exact wd_9_158
  | 18, _ => exact wd_9_160
  | 19, _ => exact wd_9_162
  | 20, _ => exact wd_9_164
  | 21, _ => exact wd_9_166
  | 22, _ => exact wd_9_168
  | 23, _ => exact wd_9_170
  | 24, _ => exact wd_9_172
  | 25, _ => exact wd_9_174
  | 26, _ => exact wd_9_176
  | 27, _ => exact wd_9_178
  | 28, _ => exact wd_9_180
  | 29, _ => exact wd_9_182
  | 30, _ => exact wd_9_184
  | 31, _ => exact wd_9_186
  | 32, _ => exact wd_9_188
  | 33, _ => exact wd_9_190
  | 34, _ => exact wd_9_192
  | 35, _ => exact wd_9_194
  | k + 36, hk => exact absurd hk (by omega)
theorem i_mShelf : ∀ w ∈ u_ws R_mShelf F_mShelf 20, w ∈ gT := by
  intro w h
  obtain ⟨k, hk, rfl⟩ := List.mem_map.mp h
  have hk := List.mem_range.mp hk
  match k, hk with
  | 0, _ => exact wd_9_229
  | 1, _ => exact wd_9_231
  | 2, _ => exact wd_9_233
  | 3, _ => exact wd_9_235
  | 4, _ => exact wd_9_237
  | 5, _ => exact wd_9_239
  | 6, _ => exact wd_10_1
  | 7, _ => exact wd_10_3
  | 8, _ => exact wd_10_5
  | 9, _ => exact wd_10_7
  | 10, _ => exact wd_10_9
  | 11, _ => exact wd_10_11
  | 12, _ => exact wd_10_13
  | 13, _ => exact wd_10_15
  | 14, _ => exact wd_10_17
  | 15, _ => exact wd_10_19
  | 16, _ => exact wd_10_21
  | 17, _ => exact wd_10_23
  | 18, _ => exact wd_10_25
  | 19, _ => exact wd_10_27
  | k + 20, hk => exact absurd hk (by omega)
theorem i_mMacros : ∀ w ∈ u_ws R_mMacros F_mMacros 11, w ∈ gT := by
  intro w h
  obtain ⟨k, hk, rfl⟩ := List.mem_map.mp h
  have hk := List.mem_range.mp hk
  match k, hk with
  | 0, _ => exact wd_10_53
  | 1, _ => exact wd_10_55
  | 2, _ => exact wd_10_57
  | 3, _ => exact wd_10_59
  | 4, _ => exact wd_10_61
  | 5, _ => exact wd_10_63
  | 6, _ => exact wd_10_65
  | 7, _ => exact wd_10_67
  | 8, _ => exact wd_10_69
  | 9, _ => exact wd_10_71
  | 10, _ => exact wd_10_73
  | k + 11, hk => exact absurd hk (by omega)
theorem i_mPictures : ∀ w ∈ u_ws R_mPictures F_mPictures 30, w ∈ gT := by
  intro w h
  obtain ⟨k, hk, rfl⟩ := List.mem_map.mp h
  have hk := List.mem_range.mp hk
  match k, hk with
  | 0, _ => exact wd_10_192
  | 1, _ => exact wd_10_194
  | 2, _ => exact wd_10_196
  | 3, _ => exact wd_10_198
  | 4, _ => exact wd_10_200
  | 5, _ => exact wd_10_202
  | 6, _ => exact wd_10_204
  | 7, _ => exact wd_10_206
  | 8, _ => exact wd_10_208
  | 9, _ => exact wd_10_210
  | 10, _ => exact wd_10_212
  | 11, _ => exact wd_10_214
  | 12, _ => exact wd_10_216
  | 13, _ => exact wd_10_218
  | 14, _ => exact wd_10_220
  | 15, _ => exact wd_10_222
  | 16, _ => exact wd_10_224
  | 17, _ => exact wd_10_226
  | 18, _ => exact wd_10_228
  | 19, _ => exact wd_10_230
  | 20, _ => exact wd_10_232
  | 21, _ => exact wd_10_234
  | 22, _ => exact wd_10_236
  | 23, _ => exact wd_10_238
  | 24, _ => exact wd_11_0
  | 25, _ => exact wd_11_2
  | 26, _ => exact wd_11_4
  | 27, _ => exact wd_11_6
  | 28, _ => exact wd_11_8
  | 29, _ => exact wd_11_10
  | k + 30, hk => exact absurd hk (by omega)
theorem i_mSheet : ∀ w ∈ u_ws R_mSheet F_mSheet 12, w ∈ gT := by
  intro w h
  obtain ⟨k, hk, rfl⟩ := List.mem_map.mp h
  have hk := List.mem_range.mp hk
  match k, hk with
  | 0, _ => exact wd_11_39
  | 1, _ => exact wd_11_41
  | 2, _ => exact wd_11_43
  | 3, _ => exact wd_11_45
  | 4, _ => exact wd_11_47
  | 5, _ => exact wd_11_49
  | 6, _ => exact wd_11_51
  | 7, _ => exact wd_11_53
  | 8, _ => exact wd_11_55
  | 9, _ => exact wd_11_57
  | 10, _ => exact wd_11_59
  | 11, _ => exact wd_11_61
  | k + 12, hk => exact absurd hk (by omega)
abbrev b_mDesk_across : ByteArray := prog_15_method_3_code
abbrev y_mDesk_across : MethodName := ⟨"SheetPrinterModel$Desk", "across", "(I)I"⟩
abbrev w_mDesk_across : List Cond := .code y_mDesk_across b_mDesk_across 1 (some .int) :: gT
theorem gd_mDesk_across : GoodIn gT w_mDesk_across := gW wd_9_57
theorem d_mDesk_across_0 : decode b_mDesk_across 0 = .ok (.iload_n 0, 1) := by decide +kernel
theorem d_mDesk_across_1 : decode b_mDesk_across 1 = .ok (.iconst 1, 1) := by decide +kernel
theorem d_mDesk_across_2 : decode b_mDesk_across 2 = .ok (.if_icmp .ne 8, 3) := by decide +kernel
theorem d_mDesk_across_5 : decode b_mDesk_across 5 = .ok (.ldc 43, 2) := by decide +kernel
theorem d_mDesk_across_7 : decode b_mDesk_across 7 = .ok (.goto 41, 3) := by decide +kernel
theorem d_mDesk_across_10 : decode b_mDesk_across 10 = .ok (.iload_n 0, 1) := by decide +kernel
theorem d_mDesk_across_11 : decode b_mDesk_across 11 = .ok (.iconst 2, 1) := by decide +kernel
theorem d_mDesk_across_12 : decode b_mDesk_across 12 = .ok (.if_icmp .eq 8, 3) := by decide +kernel
theorem d_mDesk_across_15 : decode b_mDesk_across 15 = .ok (.iload_n 0, 1) := by decide +kernel
theorem d_mDesk_across_16 : decode b_mDesk_across 16 = .ok (.iconst 3, 1) := by decide +kernel
theorem d_mDesk_across_17 : decode b_mDesk_across 17 = .ok (.if_icmp .ne 8, 3) := by decide +kernel
theorem d_mDesk_across_20 : decode b_mDesk_across 20 = .ok (.ldc 44, 2) := by decide +kernel
theorem d_mDesk_across_22 : decode b_mDesk_across 22 = .ok (.goto 26, 3) := by decide +kernel
theorem d_mDesk_across_25 : decode b_mDesk_across 25 = .ok (.iload_n 0, 1) := by decide +kernel
theorem d_mDesk_across_26 : decode b_mDesk_across 26 = .ok (.bipush 6, 2) := by decide +kernel
theorem d_mDesk_across_28 : decode b_mDesk_across 28 = .ok (.if_icmp .ne 8, 3) := by decide +kernel
theorem d_mDesk_across_31 : decode b_mDesk_across 31 = .ok (.ldc 45, 2) := by decide +kernel
theorem d_mDesk_across_33 : decode b_mDesk_across 33 = .ok (.goto 15, 3) := by decide +kernel
theorem d_mDesk_across_36 : decode b_mDesk_across 36 = .ok (.iload_n 0, 1) := by decide +kernel
theorem d_mDesk_across_37 : decode b_mDesk_across 37 = .ok (.bipush 26, 2) := by decide +kernel
theorem d_mDesk_across_39 : decode b_mDesk_across 39 = .ok (.if_icmp .ne 8, 3) := by decide +kernel
theorem d_mDesk_across_42 : decode b_mDesk_across 42 = .ok (.ldc 46, 2) := by decide +kernel
theorem d_mDesk_across_44 : decode b_mDesk_across 44 = .ok (.goto 4, 3) := by decide +kernel
theorem d_mDesk_across_47 : decode b_mDesk_across 47 = .ok (.iconst 0, 1) := by decide +kernel
theorem d_mDesk_across_48 : decode b_mDesk_across 48 = .ok (.ireturn, 1) := by decide +kernel
abbrev b_mDesk_down : ByteArray := prog_15_method_4_code
abbrev y_mDesk_down : MethodName := ⟨"SheetPrinterModel$Desk", "down", "(I)I"⟩
abbrev w_mDesk_down : List Cond := .code y_mDesk_down b_mDesk_down 1 (some .int) :: gT
theorem gd_mDesk_down : GoodIn gT w_mDesk_down := gW wd_9_49
theorem d_mDesk_down_0 : decode b_mDesk_down 0 = .ok (.iload_n 0, 1) := by decide +kernel
theorem d_mDesk_down_1 : decode b_mDesk_down 1 = .ok (.iconst 1, 1) := by decide +kernel
theorem d_mDesk_down_2 : decode b_mDesk_down 2 = .ok (.if_icmp .ne 8, 3) := by decide +kernel
theorem d_mDesk_down_5 : decode b_mDesk_down 5 = .ok (.ldc 47, 2) := by decide +kernel
theorem d_mDesk_down_7 : decode b_mDesk_down 7 = .ok (.goto 36, 3) := by decide +kernel
theorem d_mDesk_down_10 : decode b_mDesk_down 10 = .ok (.iload_n 0, 1) := by decide +kernel
theorem d_mDesk_down_11 : decode b_mDesk_down 11 = .ok (.iconst 2, 1) := by decide +kernel
theorem d_mDesk_down_12 : decode b_mDesk_down 12 = .ok (.if_icmp .ne 8, 3) := by decide +kernel
theorem d_mDesk_down_15 : decode b_mDesk_down 15 = .ok (.ldc 45, 2) := by decide +kernel
theorem d_mDesk_down_17 : decode b_mDesk_down 17 = .ok (.goto 26, 3) := by decide +kernel
theorem d_mDesk_down_20 : decode b_mDesk_down 20 = .ok (.iload_n 0, 1) := by decide +kernel
theorem d_mDesk_down_21 : decode b_mDesk_down 21 = .ok (.iconst 3, 1) := by decide +kernel
theorem d_mDesk_down_22 : decode b_mDesk_down 22 = .ok (.if_icmp .ne 8, 3) := by decide +kernel
theorem d_mDesk_down_25 : decode b_mDesk_down 25 = .ok (.ldc 48, 2) := by decide +kernel
theorem d_mDesk_down_27 : decode b_mDesk_down 27 = .ok (.goto 16, 3) := by decide +kernel
theorem d_mDesk_down_30 : decode b_mDesk_down 30 = .ok (.iload_n 0, 1) := by decide +kernel
theorem d_mDesk_down_31 : decode b_mDesk_down 31 = .ok (.bipush 6, 2) := by decide +kernel
theorem d_mDesk_down_33 : decode b_mDesk_down 33 = .ok (.if_icmp .ne 8, 3) := by decide +kernel
theorem d_mDesk_down_36 : decode b_mDesk_down 36 = .ok (.ldc 49, 2) := by decide +kernel
theorem d_mDesk_down_38 : decode b_mDesk_down 38 = .ok (.goto 5, 3) := by decide +kernel
theorem d_mDesk_down_41 : decode b_mDesk_down 41 = .ok (.ldc 50, 2) := by decide +kernel
theorem d_mDesk_down_43 : decode b_mDesk_down 43 = .ok (.ireturn, 1) := by decide +kernel
abbrev b_mDesk_measure : ByteArray := prog_15_method_5_code
abbrev y_mDesk_measure : MethodName := ⟨"SheetPrinterModel$Desk", "measure", "()V"⟩
abbrev w_mDesk_measure : List Cond := .code y_mDesk_measure b_mDesk_measure 2 none :: gT
theorem gd_mDesk_measure : GoodIn gT w_mDesk_measure := gW wd_9_46
theorem d_mDesk_measure_0 : decode b_mDesk_measure 0 = .ok (.aload_n 0, 1) := by decide +kernel
theorem d_mDesk_measure_1 : decode b_mDesk_measure 1 = .ok (.getfield 51, 3) := by decide +kernel
theorem d_mDesk_measure_4 : decode b_mDesk_measure 4 = .ok (.iconst 2, 1) := by decide +kernel
theorem d_mDesk_measure_5 : decode b_mDesk_measure 5 = .ok (.irem, 1) := by decide +kernel
theorem d_mDesk_measure_6 : decode b_mDesk_measure 6 = .ok (.iconst 1, 1) := by decide +kernel
theorem d_mDesk_measure_7 : decode b_mDesk_measure 7 = .ok (.if_icmp .ne 7, 3) := by decide +kernel
theorem d_mDesk_measure_10 : decode b_mDesk_measure 10 = .ok (.iconst 1, 1) := by decide +kernel
theorem d_mDesk_measure_11 : decode b_mDesk_measure 11 = .ok (.goto 4, 3) := by decide +kernel
theorem d_mDesk_measure_14 : decode b_mDesk_measure 14 = .ok (.iconst 0, 1) := by decide +kernel
theorem d_mDesk_measure_15 : decode b_mDesk_measure 15 = .ok (.istore_n 1, 1) := by decide +kernel
theorem d_mDesk_measure_16 : decode b_mDesk_measure 16 = .ok (.aload_n 0, 1) := by decide +kernel
theorem d_mDesk_measure_17 : decode b_mDesk_measure 17 = .ok (.iload_n 1, 1) := by decide +kernel
theorem d_mDesk_measure_18 : decode b_mDesk_measure 18 = .ok (.ifCond .eq 17, 3) := by decide +kernel
theorem d_mDesk_measure_21 : decode b_mDesk_measure 21 = .ok (.aload_n 0, 1) := by decide +kernel
theorem d_mDesk_measure_22 : decode b_mDesk_measure 22 = .ok (.getfield 54, 3) := by decide +kernel
theorem d_mDesk_measure_25 : decode b_mDesk_measure 25 = .ok (.invokestatic 57, 3) := by decide +kernel
theorem d_mDesk_measure_28 : decode b_mDesk_measure 28 = .ok (.sipush 2880, 3) := by decide +kernel
theorem d_mDesk_measure_31 : decode b_mDesk_measure 31 = .ok (.isub, 1) := by decide +kernel
theorem d_mDesk_measure_32 : decode b_mDesk_measure 32 = .ok (.goto 14, 3) := by decide +kernel
theorem d_mDesk_measure_35 : decode b_mDesk_measure 35 = .ok (.aload_n 0, 1) := by decide +kernel
theorem d_mDesk_measure_36 : decode b_mDesk_measure 36 = .ok (.getfield 54, 3) := by decide +kernel
theorem d_mDesk_measure_39 : decode b_mDesk_measure 39 = .ok (.invokestatic 61, 3) := by decide +kernel
theorem d_mDesk_measure_42 : decode b_mDesk_measure 42 = .ok (.sipush 3600, 3) := by decide +kernel
theorem d_mDesk_measure_45 : decode b_mDesk_measure 45 = .ok (.isub, 1) := by decide +kernel
theorem d_mDesk_measure_46 : decode b_mDesk_measure 46 = .ok (.putfield 64, 3) := by decide +kernel
theorem d_mDesk_measure_49 : decode b_mDesk_measure 49 = .ok (.aload_n 0, 1) := by decide +kernel
theorem d_mDesk_measure_50 : decode b_mDesk_measure 50 = .ok (.iload_n 1, 1) := by decide +kernel
theorem d_mDesk_measure_51 : decode b_mDesk_measure 51 = .ok (.ifCond .eq 13, 3) := by decide +kernel
theorem d_mDesk_measure_54 : decode b_mDesk_measure 54 = .ok (.aload_n 0, 1) := by decide +kernel
theorem d_mDesk_measure_55 : decode b_mDesk_measure 55 = .ok (.getfield 54, 3) := by decide +kernel
theorem d_mDesk_measure_58 : decode b_mDesk_measure 58 = .ok (.invokestatic 61, 3) := by decide +kernel
theorem d_mDesk_measure_61 : decode b_mDesk_measure 61 = .ok (.goto 10, 3) := by decide +kernel
theorem d_mDesk_measure_64 : decode b_mDesk_measure 64 = .ok (.aload_n 0, 1) := by decide +kernel
theorem d_mDesk_measure_65 : decode b_mDesk_measure 65 = .ok (.getfield 54, 3) := by decide +kernel
theorem d_mDesk_measure_68 : decode b_mDesk_measure 68 = .ok (.invokestatic 57, 3) := by decide +kernel
theorem d_mDesk_measure_71 : decode b_mDesk_measure 71 = .ok (.putfield 67, 3) := by decide +kernel
theorem d_mDesk_measure_74 : decode b_mDesk_measure 74 = .ok (.return_, 1) := by decide +kernel
abbrev b_mDesk_within : ByteArray := prog_15_method_6_code
abbrev y_mDesk_within : MethodName := ⟨"SheetPrinterModel$Desk", "within", "(JI)I"⟩
abbrev w_mDesk_within : List Cond := .code y_mDesk_within b_mDesk_within 3 (some .int) :: gT
theorem gd_mDesk_within : GoodIn gT w_mDesk_within := gW wd_9_67
theorem d_mDesk_within_0 : decode b_mDesk_within 0 = .ok (.lload_n 0, 1) := by decide +kernel
theorem d_mDesk_within_1 : decode b_mDesk_within 1 = .ok (.lconst 0, 1) := by decide +kernel
theorem d_mDesk_within_2 : decode b_mDesk_within 2 = .ok (.lcmp, 1) := by decide +kernel
theorem d_mDesk_within_3 : decode b_mDesk_within 3 = .ok (.ifCond .ge 7, 3) := by decide +kernel
theorem d_mDesk_within_6 : decode b_mDesk_within 6 = .ok (.iconst 0, 1) := by decide +kernel
theorem d_mDesk_within_7 : decode b_mDesk_within 7 = .ok (.goto 16, 3) := by decide +kernel
theorem d_mDesk_within_10 : decode b_mDesk_within 10 = .ok (.lload_n 0, 1) := by decide +kernel
theorem d_mDesk_within_11 : decode b_mDesk_within 11 = .ok (.iload_n 2, 1) := by decide +kernel
theorem d_mDesk_within_12 : decode b_mDesk_within 12 = .ok (.i2l, 1) := by decide +kernel
theorem d_mDesk_within_13 : decode b_mDesk_within 13 = .ok (.lcmp, 1) := by decide +kernel
theorem d_mDesk_within_14 : decode b_mDesk_within 14 = .ok (.ifCond .le 7, 3) := by decide +kernel
theorem d_mDesk_within_17 : decode b_mDesk_within 17 = .ok (.iload_n 2, 1) := by decide +kernel
theorem d_mDesk_within_18 : decode b_mDesk_within 18 = .ok (.goto 5, 3) := by decide +kernel
theorem d_mDesk_within_21 : decode b_mDesk_within 21 = .ok (.lload_n 0, 1) := by decide +kernel
theorem d_mDesk_within_22 : decode b_mDesk_within 22 = .ok (.l2i, 1) := by decide +kernel
theorem d_mDesk_within_23 : decode b_mDesk_within 23 = .ok (.ireturn, 1) := by decide +kernel
abbrev b_mDesk_setX : ByteArray := prog_15_method_7_code
abbrev y_mDesk_setX : MethodName := ⟨"SheetPrinterModel$Desk", "setX", "(J)V"⟩
abbrev w_mDesk_setX : List Cond := .code y_mDesk_setX b_mDesk_setX 3 none :: gT
theorem gd_mDesk_setX : GoodIn gT w_mDesk_setX := gW wd_9_64
theorem d_mDesk_setX_0 : decode b_mDesk_setX 0 = .ok (.aload_n 0, 1) := by decide +kernel
theorem d_mDesk_setX_1 : decode b_mDesk_setX 1 = .ok (.getfield 7, 3) := by decide +kernel
theorem d_mDesk_setX_4 : decode b_mDesk_setX 4 = .ok (.iconst 0, 1) := by decide +kernel
theorem d_mDesk_setX_5 : decode b_mDesk_setX 5 = .ok (.lload_n 1, 1) := by decide +kernel
theorem d_mDesk_setX_6 : decode b_mDesk_setX 6 = .ok (.aload_n 0, 1) := by decide +kernel
theorem d_mDesk_setX_7 : decode b_mDesk_setX 7 = .ok (.getfield 64, 3) := by decide +kernel
theorem d_mDesk_setX_10 : decode b_mDesk_setX 10 = .ok (.invokestatic 70, 3) := by decide +kernel
theorem d_mDesk_setX_13 : decode b_mDesk_setX 13 = .ok (.iastore, 1) := by decide +kernel
theorem d_mDesk_setX_14 : decode b_mDesk_setX 14 = .ok (.return_, 1) := by decide +kernel
abbrev b_mDesk_setY : ByteArray := prog_15_method_8_code
abbrev y_mDesk_setY : MethodName := ⟨"SheetPrinterModel$Desk", "setY", "(J)V"⟩
abbrev w_mDesk_setY : List Cond := .code y_mDesk_setY b_mDesk_setY 3 none :: gT
theorem gd_mDesk_setY : GoodIn gT w_mDesk_setY := gW wd_9_75
theorem d_mDesk_setY_0 : decode b_mDesk_setY 0 = .ok (.aload_n 0, 1) := by decide +kernel
theorem d_mDesk_setY_1 : decode b_mDesk_setY 1 = .ok (.getfield 7, 3) := by decide +kernel
theorem d_mDesk_setY_4 : decode b_mDesk_setY 4 = .ok (.iconst 1, 1) := by decide +kernel
theorem d_mDesk_setY_5 : decode b_mDesk_setY 5 = .ok (.lload_n 1, 1) := by decide +kernel
theorem d_mDesk_setY_6 : decode b_mDesk_setY 6 = .ok (.aload_n 0, 1) := by decide +kernel
theorem d_mDesk_setY_7 : decode b_mDesk_setY 7 = .ok (.getfield 67, 3) := by decide +kernel
theorem d_mDesk_setY_10 : decode b_mDesk_setY 10 = .ok (.invokestatic 70, 3) := by decide +kernel
theorem d_mDesk_setY_13 : decode b_mDesk_setY 13 = .ok (.iastore, 1) := by decide +kernel
theorem d_mDesk_setY_14 : decode b_mDesk_setY 14 = .ok (.return_, 1) := by decide +kernel
abbrev b_mDesk_home : ByteArray := prog_15_method_9_code
abbrev y_mDesk_home : MethodName := ⟨"SheetPrinterModel$Desk", "home", "()I"⟩
abbrev w_mDesk_home : List Cond := .code y_mDesk_home b_mDesk_home 1 (some .int) :: gT
theorem gd_mDesk_home : GoodIn gT w_mDesk_home := gW wd_9_71
theorem d_mDesk_home_0 : decode b_mDesk_home 0 = .ok (.aload_n 0, 1) := by decide +kernel
theorem d_mDesk_home_1 : decode b_mDesk_home 1 = .ok (.getfield 7, 3) := by decide +kernel
theorem d_mDesk_home_4 : decode b_mDesk_home 4 = .ok (.iconst 4, 1) := by decide +kernel
theorem d_mDesk_home_5 : decode b_mDesk_home 5 = .ok (.iaload, 1) := by decide +kernel
theorem d_mDesk_home_6 : decode b_mDesk_home 6 = .ok (.aload_n 0, 1) := by decide +kernel
theorem d_mDesk_home_7 : decode b_mDesk_home 7 = .ok (.getfield 7, 3) := by decide +kernel
theorem d_mDesk_home_10 : decode b_mDesk_home 10 = .ok (.bipush 7, 2) := by decide +kernel
theorem d_mDesk_home_12 : decode b_mDesk_home 12 = .ok (.iaload, 1) := by decide +kernel
theorem d_mDesk_home_13 : decode b_mDesk_home 13 = .ok (.iconst 3, 1) := by decide +kernel
theorem d_mDesk_home_14 : decode b_mDesk_home 14 = .ok (.imul, 1) := by decide +kernel
theorem d_mDesk_home_15 : decode b_mDesk_home 15 = .ok (.iconst 4, 1) := by decide +kernel
theorem d_mDesk_home_16 : decode b_mDesk_home 16 = .ok (.idiv, 1) := by decide +kernel
theorem d_mDesk_home_17 : decode b_mDesk_home 17 = .ok (.iadd, 1) := by decide +kernel
theorem d_mDesk_home_18 : decode b_mDesk_home 18 = .ok (.ireturn, 1) := by decide +kernel
abbrev b_mDesk_defaults : ByteArray := prog_15_method_10_code
abbrev y_mDesk_defaults : MethodName := ⟨"SheetPrinterModel$Desk", "defaults", "()V"⟩
abbrev w_mDesk_defaults : List Cond := .code y_mDesk_defaults b_mDesk_defaults 1 none :: gT
theorem gd_mDesk_defaults : GoodIn gT w_mDesk_defaults := gW wd_9_42
theorem d_mDesk_defaults_0 : decode b_mDesk_defaults 0 = .ok (.aload_n 0, 1) := by decide +kernel
theorem d_mDesk_defaults_1 : decode b_mDesk_defaults 1 = .ok (.invokevirtual 74, 3) := by decide +kernel
theorem d_mDesk_defaults_4 : decode b_mDesk_defaults 4 = .ok (.aload_n 0, 1) := by decide +kernel
theorem d_mDesk_defaults_5 : decode b_mDesk_defaults 5 = .ok (.getfield 7, 3) := by decide +kernel
theorem d_mDesk_defaults_8 : decode b_mDesk_defaults 8 = .ok (.iconst 4, 1) := by decide +kernel
theorem d_mDesk_defaults_9 : decode b_mDesk_defaults 9 = .ok (.sipush 3600, 3) := by decide +kernel
theorem d_mDesk_defaults_12 : decode b_mDesk_defaults 12 = .ok (.iastore, 1) := by decide +kernel
theorem d_mDesk_defaults_13 : decode b_mDesk_defaults 13 = .ok (.aload_n 0, 1) := by decide +kernel
theorem d_mDesk_defaults_14 : decode b_mDesk_defaults 14 = .ok (.getfield 7, 3) := by decide +kernel
theorem d_mDesk_defaults_17 : decode b_mDesk_defaults 17 = .ok (.iconst 5, 1) := by decide +kernel
theorem d_mDesk_defaults_18 : decode b_mDesk_defaults 18 = .ok (.aload_n 0, 1) := by decide +kernel
theorem d_mDesk_defaults_19 : decode b_mDesk_defaults 19 = .ok (.getfield 67, 3) := by decide +kernel
theorem d_mDesk_defaults_22 : decode b_mDesk_defaults 22 = .ok (.sipush 7200, 3) := by decide +kernel
theorem d_mDesk_defaults_25 : decode b_mDesk_defaults 25 = .ok (.isub, 1) := by decide +kernel
theorem d_mDesk_defaults_26 : decode b_mDesk_defaults 26 = .ok (.iastore, 1) := by decide +kernel
theorem d_mDesk_defaults_27 : decode b_mDesk_defaults 27 = .ok (.aload_n 0, 1) := by decide +kernel
theorem d_mDesk_defaults_28 : decode b_mDesk_defaults 28 = .ok (.getfield 7, 3) := by decide +kernel
theorem d_mDesk_defaults_31 : decode b_mDesk_defaults 31 = .ok (.iconst 2, 1) := by decide +kernel
theorem d_mDesk_defaults_32 : decode b_mDesk_defaults 32 = .ok (.iconst 0, 1) := by decide +kernel
theorem d_mDesk_defaults_33 : decode b_mDesk_defaults 33 = .ok (.iastore, 1) := by decide +kernel
theorem d_mDesk_defaults_34 : decode b_mDesk_defaults 34 = .ok (.aload_n 0, 1) := by decide +kernel
theorem d_mDesk_defaults_35 : decode b_mDesk_defaults 35 = .ok (.getfield 7, 3) := by decide +kernel
theorem d_mDesk_defaults_38 : decode b_mDesk_defaults 38 = .ok (.iconst 3, 1) := by decide +kernel
theorem d_mDesk_defaults_39 : decode b_mDesk_defaults 39 = .ok (.aload_n 0, 1) := by decide +kernel
theorem d_mDesk_defaults_40 : decode b_mDesk_defaults 40 = .ok (.getfield 64, 3) := by decide +kernel
theorem d_mDesk_defaults_43 : decode b_mDesk_defaults 43 = .ok (.iastore, 1) := by decide +kernel
theorem d_mDesk_defaults_44 : decode b_mDesk_defaults 44 = .ok (.aload_n 0, 1) := by decide +kernel
theorem d_mDesk_defaults_45 : decode b_mDesk_defaults 45 = .ok (.lconst 0, 1) := by decide +kernel
theorem d_mDesk_defaults_46 : decode b_mDesk_defaults 46 = .ok (.invokevirtual 77, 3) := by decide +kernel
theorem d_mDesk_defaults_49 : decode b_mDesk_defaults 49 = .ok (.aload_n 0, 1) := by decide +kernel
theorem d_mDesk_defaults_50 : decode b_mDesk_defaults 50 = .ok (.aload_n 0, 1) := by decide +kernel
theorem d_mDesk_defaults_51 : decode b_mDesk_defaults 51 = .ok (.invokevirtual 81, 3) := by decide +kernel
theorem d_mDesk_defaults_54 : decode b_mDesk_defaults 54 = .ok (.i2l, 1) := by decide +kernel
theorem d_mDesk_defaults_55 : decode b_mDesk_defaults 55 = .ok (.invokevirtual 85, 3) := by decide +kernel
theorem d_mDesk_defaults_58 : decode b_mDesk_defaults 58 = .ok (.return_, 1) := by decide +kernel
abbrev b_mDesk_reset : ByteArray := prog_15_method_12_code
abbrev y_mDesk_reset : MethodName := ⟨"SheetPrinterModel$Desk", "reset", "()V"⟩
abbrev w_mDesk_reset : List Cond := .code y_mDesk_reset b_mDesk_reset 2 none :: gT
theorem gd_mDesk_reset : GoodIn gT w_mDesk_reset := gW wd_9_38
theorem d_mDesk_reset_0 : decode b_mDesk_reset 0 = .ok (.iconst 0, 1) := by decide +kernel
theorem d_mDesk_reset_1 : decode b_mDesk_reset 1 = .ok (.istore_n 1, 1) := by decide +kernel
theorem d_mDesk_reset_2 : decode b_mDesk_reset 2 = .ok (.iload_n 1, 1) := by decide +kernel
theorem d_mDesk_reset_3 : decode b_mDesk_reset 3 = .ok (.bipush 53, 2) := by decide +kernel
theorem d_mDesk_reset_5 : decode b_mDesk_reset 5 = .ok (.if_icmp .ge 16, 3) := by decide +kernel
theorem d_mDesk_reset_8 : decode b_mDesk_reset 8 = .ok (.aload_n 0, 1) := by decide +kernel
theorem d_mDesk_reset_9 : decode b_mDesk_reset 9 = .ok (.getfield 7, 3) := by decide +kernel
theorem d_mDesk_reset_12 : decode b_mDesk_reset 12 = .ok (.iload_n 1, 1) := by decide +kernel
theorem d_mDesk_reset_13 : decode b_mDesk_reset 13 = .ok (.iconst 0, 1) := by decide +kernel
theorem d_mDesk_reset_14 : decode b_mDesk_reset 14 = .ok (.iastore, 1) := by decide +kernel
theorem d_mDesk_reset_15 : decode b_mDesk_reset 15 = .ok (.iinc 1 1, 3) := by decide +kernel
theorem d_mDesk_reset_18 : decode b_mDesk_reset 18 = .ok (.goto (-16), 3) := by decide +kernel
theorem d_mDesk_reset_21 : decode b_mDesk_reset 21 = .ok (.aload_n 0, 1) := by decide +kernel
theorem d_mDesk_reset_22 : decode b_mDesk_reset 22 = .ok (.iconst 2, 1) := by decide +kernel
theorem d_mDesk_reset_23 : decode b_mDesk_reset 23 = .ok (.putfield 54, 3) := by decide +kernel
theorem d_mDesk_reset_26 : decode b_mDesk_reset 26 = .ok (.aload_n 0, 1) := by decide +kernel
theorem d_mDesk_reset_27 : decode b_mDesk_reset 27 = .ok (.iconst 0, 1) := by decide +kernel
theorem d_mDesk_reset_28 : decode b_mDesk_reset 28 = .ok (.putfield 51, 3) := by decide +kernel
theorem d_mDesk_reset_31 : decode b_mDesk_reset 31 = .ok (.aload_n 0, 1) := by decide +kernel
theorem d_mDesk_reset_32 : decode b_mDesk_reset 32 = .ok (.iconst 1, 1) := by decide +kernel
theorem d_mDesk_reset_33 : decode b_mDesk_reset 33 = .ok (.putfield 110, 3) := by decide +kernel
theorem d_mDesk_reset_36 : decode b_mDesk_reset 36 = .ok (.aload_n 0, 1) := by decide +kernel
theorem d_mDesk_reset_37 : decode b_mDesk_reset 37 = .ok (.getfield 7, 3) := by decide +kernel
theorem d_mDesk_reset_40 : decode b_mDesk_reset 40 = .ok (.bipush 6, 2) := by decide +kernel
theorem d_mDesk_reset_42 : decode b_mDesk_reset 42 = .ok (.sipush 720, 3) := by decide +kernel
theorem d_mDesk_reset_45 : decode b_mDesk_reset 45 = .ok (.iastore, 1) := by decide +kernel
theorem d_mDesk_reset_46 : decode b_mDesk_reset 46 = .ok (.aload_n 0, 1) := by decide +kernel
theorem d_mDesk_reset_47 : decode b_mDesk_reset 47 = .ok (.getfield 7, 3) := by decide +kernel
theorem d_mDesk_reset_50 : decode b_mDesk_reset 50 = .ok (.bipush 7, 2) := by decide +kernel
theorem d_mDesk_reset_52 : decode b_mDesk_reset 52 = .ok (.sipush 1200, 3) := by decide +kernel
theorem d_mDesk_reset_55 : decode b_mDesk_reset 55 = .ok (.iastore, 1) := by decide +kernel
theorem d_mDesk_reset_56 : decode b_mDesk_reset 56 = .ok (.aload_n 0, 1) := by decide +kernel
theorem d_mDesk_reset_57 : decode b_mDesk_reset 57 = .ok (.invokevirtual 113, 3) := by decide +kernel
theorem d_mDesk_reset_60 : decode b_mDesk_reset 60 = .ok (.return_, 1) := by decide +kernel
abbrev b_mDesk_init : ByteArray := prog_15_method_1_code
abbrev y_mDesk_init : MethodName := ⟨"SheetPrinterModel$Desk", "<init>", "()V"⟩
abbrev w_mDesk_init : List Cond := .code y_mDesk_init b_mDesk_init 2 none :: gT
theorem gd_mDesk_init : GoodIn gT w_mDesk_init := gW wd_9_33
theorem d_mDesk_init_0 : decode b_mDesk_init 0 = .ok (.aload_n 0, 1) := by decide +kernel
theorem d_mDesk_init_1 : decode b_mDesk_init 1 = .ok (.invokespecial 1, 3) := by decide +kernel
theorem d_mDesk_init_4 : decode b_mDesk_init 4 = .ok (.aload_n 0, 1) := by decide +kernel
theorem d_mDesk_init_5 : decode b_mDesk_init 5 = .ok (.bipush 53, 2) := by decide +kernel
theorem d_mDesk_init_7 : decode b_mDesk_init 7 = .ok (.newarray .int, 2) := by decide +kernel
theorem d_mDesk_init_9 : decode b_mDesk_init 9 = .ok (.putfield 7, 3) := by decide +kernel
theorem d_mDesk_init_12 : decode b_mDesk_init 12 = .ok (.aload_n 0, 1) := by decide +kernel
theorem d_mDesk_init_13 : decode b_mDesk_init 13 = .ok (.sipush 159, 3) := by decide +kernel
theorem d_mDesk_init_16 : decode b_mDesk_init 16 = .ok (.newarray .int, 2) := by decide +kernel
theorem d_mDesk_init_18 : decode b_mDesk_init 18 = .ok (.putfield 13, 3) := by decide +kernel
theorem d_mDesk_init_21 : decode b_mDesk_init 21 = .ok (.aload_n 0, 1) := by decide +kernel
theorem d_mDesk_init_22 : decode b_mDesk_init 22 = .ok (.iconst 3, 1) := by decide +kernel
theorem d_mDesk_init_23 : decode b_mDesk_init 23 = .ok (.newarray .boolean, 2) := by decide +kernel
theorem d_mDesk_init_25 : decode b_mDesk_init 25 = .ok (.putfield 16, 3) := by decide +kernel
theorem d_mDesk_init_28 : decode b_mDesk_init 28 = .ok (.aload_n 0, 1) := by decide +kernel
theorem d_mDesk_init_29 : decode b_mDesk_init 29 = .ok (.sipush 512, 3) := by decide +kernel
theorem d_mDesk_init_32 : decode b_mDesk_init 32 = .ok (.newarray .int, 2) := by decide +kernel
theorem d_mDesk_init_34 : decode b_mDesk_init 34 = .ok (.putfield 20, 3) := by decide +kernel
theorem d_mDesk_init_37 : decode b_mDesk_init 37 = .ok (.aload_n 0, 1) := by decide +kernel
theorem d_mDesk_init_38 : decode b_mDesk_init 38 = .ok (.sipush 24000, 3) := by decide +kernel
theorem d_mDesk_init_41 : decode b_mDesk_init 41 = .ok (.newarray .int, 2) := by decide +kernel
theorem d_mDesk_init_43 : decode b_mDesk_init 43 = .ok (.putfield 23, 3) := by decide +kernel
theorem d_mDesk_init_46 : decode b_mDesk_init 46 = .ok (.aload_n 0, 1) := by decide +kernel
theorem d_mDesk_init_47 : decode b_mDesk_init 47 = .ok (.sipush 160, 3) := by decide +kernel
theorem d_mDesk_init_50 : decode b_mDesk_init 50 = .ok (.newarray .int, 2) := by decide +kernel
theorem d_mDesk_init_52 : decode b_mDesk_init 52 = .ok (.putfield 26, 3) := by decide +kernel
theorem d_mDesk_init_55 : decode b_mDesk_init 55 = .ok (.aload_n 0, 1) := by decide +kernel
theorem d_mDesk_init_56 : decode b_mDesk_init 56 = .ok (.bipush 112, 2) := by decide +kernel
theorem d_mDesk_init_58 : decode b_mDesk_init 58 = .ok (.newarray .int, 2) := by decide +kernel
theorem d_mDesk_init_60 : decode b_mDesk_init 60 = .ok (.putfield 29, 3) := by decide +kernel
theorem d_mDesk_init_63 : decode b_mDesk_init 63 = .ok (.aload_n 0, 1) := by decide +kernel
theorem d_mDesk_init_64 : decode b_mDesk_init 64 = .ok (.sipush 4096, 3) := by decide +kernel
theorem d_mDesk_init_67 : decode b_mDesk_init 67 = .ok (.newarray .byte, 2) := by decide +kernel
theorem d_mDesk_init_69 : decode b_mDesk_init 69 = .ok (.putfield 32, 3) := by decide +kernel
theorem d_mDesk_init_72 : decode b_mDesk_init 72 = .ok (.iconst 0, 1) := by decide +kernel
theorem d_mDesk_init_73 : decode b_mDesk_init 73 = .ok (.istore_n 1, 1) := by decide +kernel
theorem d_mDesk_init_74 : decode b_mDesk_init 74 = .ok (.iload_n 1, 1) := by decide +kernel
theorem d_mDesk_init_75 : decode b_mDesk_init 75 = .ok (.sipush 512, 3) := by decide +kernel
theorem d_mDesk_init_78 : decode b_mDesk_init 78 = .ok (.if_icmp .ge 16, 3) := by decide +kernel
theorem d_mDesk_init_81 : decode b_mDesk_init 81 = .ok (.aload_n 0, 1) := by decide +kernel
theorem d_mDesk_init_82 : decode b_mDesk_init 82 = .ok (.getfield 20, 3) := by decide +kernel
theorem d_mDesk_init_85 : decode b_mDesk_init 85 = .ok (.iload_n 1, 1) := by decide +kernel
theorem d_mDesk_init_86 : decode b_mDesk_init 86 = .ok (.iconst (-1), 1) := by decide +kernel
theorem d_mDesk_init_87 : decode b_mDesk_init 87 = .ok (.iastore, 1) := by decide +kernel
theorem d_mDesk_init_88 : decode b_mDesk_init 88 = .ok (.iinc 1 1, 3) := by decide +kernel
theorem d_mDesk_init_91 : decode b_mDesk_init 91 = .ok (.goto (-17), 3) := by decide +kernel
theorem d_mDesk_init_94 : decode b_mDesk_init 94 = .ok (.aload_n 0, 1) := by decide +kernel
theorem d_mDesk_init_95 : decode b_mDesk_init 95 = .ok (.invokevirtual 36, 3) := by decide +kernel
theorem d_mDesk_init_98 : decode b_mDesk_init 98 = .ok (.return_, 1) := by decide +kernel
abbrev b_mDesk_restart : ByteArray := prog_15_method_11_code
abbrev y_mDesk_restart : MethodName := ⟨"SheetPrinterModel$Desk", "restart", "()V"⟩
abbrev w_mDesk_restart : List Cond := .code y_mDesk_restart b_mDesk_restart 2 none :: gT
theorem gd_mDesk_restart : GoodIn gT w_mDesk_restart := gW wd_11_71
theorem d_mDesk_restart_0 : decode b_mDesk_restart 0 = .ok (.iconst 0, 1) := by decide +kernel
theorem d_mDesk_restart_1 : decode b_mDesk_restart 1 = .ok (.istore_n 1, 1) := by decide +kernel
theorem d_mDesk_restart_2 : decode b_mDesk_restart 2 = .ok (.iload_n 1, 1) := by decide +kernel
theorem d_mDesk_restart_3 : decode b_mDesk_restart 3 = .ok (.sipush 512, 3) := by decide +kernel
theorem d_mDesk_restart_6 : decode b_mDesk_restart 6 = .ok (.if_icmp .ge 16, 3) := by decide +kernel
theorem d_mDesk_restart_9 : decode b_mDesk_restart 9 = .ok (.aload_n 0, 1) := by decide +kernel
theorem d_mDesk_restart_10 : decode b_mDesk_restart 10 = .ok (.getfield 20, 3) := by decide +kernel
theorem d_mDesk_restart_13 : decode b_mDesk_restart 13 = .ok (.iload_n 1, 1) := by decide +kernel
theorem d_mDesk_restart_14 : decode b_mDesk_restart 14 = .ok (.iconst (-1), 1) := by decide +kernel
theorem d_mDesk_restart_15 : decode b_mDesk_restart 15 = .ok (.iastore, 1) := by decide +kernel
theorem d_mDesk_restart_16 : decode b_mDesk_restart 16 = .ok (.iinc 1 1, 3) := by decide +kernel
theorem d_mDesk_restart_19 : decode b_mDesk_restart 19 = .ok (.goto (-17), 3) := by decide +kernel
theorem d_mDesk_restart_22 : decode b_mDesk_restart 22 = .ok (.iconst 0, 1) := by decide +kernel
theorem d_mDesk_restart_23 : decode b_mDesk_restart 23 = .ok (.istore_n 1, 1) := by decide +kernel
theorem d_mDesk_restart_24 : decode b_mDesk_restart 24 = .ok (.iload_n 1, 1) := by decide +kernel
theorem d_mDesk_restart_25 : decode b_mDesk_restart 25 = .ok (.iconst 3, 1) := by decide +kernel
theorem d_mDesk_restart_26 : decode b_mDesk_restart 26 = .ok (.if_icmp .ge 16, 3) := by decide +kernel
theorem d_mDesk_restart_29 : decode b_mDesk_restart 29 = .ok (.aload_n 0, 1) := by decide +kernel
theorem d_mDesk_restart_30 : decode b_mDesk_restart 30 = .ok (.getfield 16, 3) := by decide +kernel
theorem d_mDesk_restart_33 : decode b_mDesk_restart 33 = .ok (.iload_n 1, 1) := by decide +kernel
theorem d_mDesk_restart_34 : decode b_mDesk_restart 34 = .ok (.iconst 0, 1) := by decide +kernel
theorem d_mDesk_restart_35 : decode b_mDesk_restart 35 = .ok (.bastore, 1) := by decide +kernel
theorem d_mDesk_restart_36 : decode b_mDesk_restart 36 = .ok (.iinc 1 1, 3) := by decide +kernel
theorem d_mDesk_restart_39 : decode b_mDesk_restart 39 = .ok (.goto (-15), 3) := by decide +kernel
theorem d_mDesk_restart_42 : decode b_mDesk_restart 42 = .ok (.aload_n 0, 1) := by decide +kernel
theorem d_mDesk_restart_43 : decode b_mDesk_restart 43 = .ok (.iconst 0, 1) := by decide +kernel
theorem d_mDesk_restart_44 : decode b_mDesk_restart 44 = .ok (.putfield 88, 3) := by decide +kernel
theorem d_mDesk_restart_47 : decode b_mDesk_restart 47 = .ok (.aload_n 0, 1) := by decide +kernel
theorem d_mDesk_restart_48 : decode b_mDesk_restart 48 = .ok (.iconst 0, 1) := by decide +kernel
theorem d_mDesk_restart_49 : decode b_mDesk_restart 49 = .ok (.putfield 91, 3) := by decide +kernel
theorem d_mDesk_restart_52 : decode b_mDesk_restart 52 = .ok (.aload_n 0, 1) := by decide +kernel
theorem d_mDesk_restart_53 : decode b_mDesk_restart 53 = .ok (.iconst 0, 1) := by decide +kernel
theorem d_mDesk_restart_54 : decode b_mDesk_restart 54 = .ok (.putfield 94, 3) := by decide +kernel
theorem d_mDesk_restart_57 : decode b_mDesk_restart 57 = .ok (.aload_n 0, 1) := by decide +kernel
theorem d_mDesk_restart_58 : decode b_mDesk_restart 58 = .ok (.iconst 0, 1) := by decide +kernel
theorem d_mDesk_restart_59 : decode b_mDesk_restart 59 = .ok (.putfield 97, 3) := by decide +kernel
theorem d_mDesk_restart_62 : decode b_mDesk_restart 62 = .ok (.aload_n 0, 1) := by decide +kernel
theorem d_mDesk_restart_63 : decode b_mDesk_restart 63 = .ok (.iconst 0, 1) := by decide +kernel
theorem d_mDesk_restart_64 : decode b_mDesk_restart 64 = .ok (.putfield 101, 3) := by decide +kernel
theorem d_mDesk_restart_67 : decode b_mDesk_restart 67 = .ok (.aload_n 0, 1) := by decide +kernel
theorem d_mDesk_restart_68 : decode b_mDesk_restart 68 = .ok (.iconst 0, 1) := by decide +kernel
theorem d_mDesk_restart_69 : decode b_mDesk_restart 69 = .ok (.putfield 104, 3) := by decide +kernel
theorem d_mDesk_restart_72 : decode b_mDesk_restart 72 = .ok (.aload_n 0, 1) := by decide +kernel
theorem d_mDesk_restart_73 : decode b_mDesk_restart 73 = .ok (.iconst 0, 1) := by decide +kernel
theorem d_mDesk_restart_74 : decode b_mDesk_restart 74 = .ok (.putfield 107, 3) := by decide +kernel
theorem d_mDesk_restart_77 : decode b_mDesk_restart 77 = .ok (.aload_n 0, 1) := by decide +kernel
theorem d_mDesk_restart_78 : decode b_mDesk_restart 78 = .ok (.invokevirtual 36, 3) := by decide +kernel
theorem d_mDesk_restart_81 : decode b_mDesk_restart 81 = .ok (.return_, 1) := by decide +kernel
abbrev b_mShelf_init : ByteArray := prog_20_method_1_code
abbrev y_mShelf_init : MethodName := ⟨"SheetPrinterModel$Shelf", "<init>", "()V"⟩
abbrev w_mShelf_init : List Cond := .code y_mShelf_init b_mShelf_init 1 none :: gT
theorem gd_mShelf_init : GoodIn gT w_mShelf_init := gW wd_9_201
theorem d_mShelf_init_0 : decode b_mShelf_init 0 = .ok (.aload_n 0, 1) := by decide +kernel
theorem d_mShelf_init_1 : decode b_mShelf_init 1 = .ok (.invokespecial 1, 3) := by decide +kernel
theorem d_mShelf_init_4 : decode b_mShelf_init 4 = .ok (.aload_n 0, 1) := by decide +kernel
theorem d_mShelf_init_5 : decode b_mShelf_init 5 = .ok (.bipush 33, 2) := by decide +kernel
theorem d_mShelf_init_7 : decode b_mShelf_init 7 = .ok (.newarray .int, 2) := by decide +kernel
theorem d_mShelf_init_9 : decode b_mShelf_init 9 = .ok (.putfield 7, 3) := by decide +kernel
theorem d_mShelf_init_12 : decode b_mShelf_init 12 = .ok (.aload_n 0, 1) := by decide +kernel
theorem d_mShelf_init_13 : decode b_mShelf_init 13 = .ok (.sipush 231, 3) := by decide +kernel
theorem d_mShelf_init_16 : decode b_mShelf_init 16 = .ok (.newarray .int, 2) := by decide +kernel
theorem d_mShelf_init_18 : decode b_mShelf_init 18 = .ok (.putfield 13, 3) := by decide +kernel
theorem d_mShelf_init_21 : decode b_mShelf_init 21 = .ok (.aload_n 0, 1) := by decide +kernel
theorem d_mShelf_init_22 : decode b_mShelf_init 22 = .ok (.bipush 33, 2) := by decide +kernel
theorem d_mShelf_init_24 : decode b_mShelf_init 24 = .ok (.newarray .boolean, 2) := by decide +kernel
theorem d_mShelf_init_26 : decode b_mShelf_init 26 = .ok (.putfield 16, 3) := by decide +kernel
theorem d_mShelf_init_29 : decode b_mShelf_init 29 = .ok (.aload_n 0, 1) := by decide +kernel
theorem d_mShelf_init_30 : decode b_mShelf_init 30 = .ok (.sipush 1799, 3) := by decide +kernel
theorem d_mShelf_init_33 : decode b_mShelf_init 33 = .ok (.newarray .int, 2) := by decide +kernel
theorem d_mShelf_init_35 : decode b_mShelf_init 35 = .ok (.putfield 20, 3) := by decide +kernel
theorem d_mShelf_init_38 : decode b_mShelf_init 38 = .ok (.aload_n 0, 1) := by decide +kernel
theorem d_mShelf_init_39 : decode b_mShelf_init 39 = .ok (.sipush 20000, 3) := by decide +kernel
theorem d_mShelf_init_42 : decode b_mShelf_init 42 = .ok (.newarray .byte, 2) := by decide +kernel
theorem d_mShelf_init_44 : decode b_mShelf_init 44 = .ok (.putfield 23, 3) := by decide +kernel
theorem d_mShelf_init_47 : decode b_mShelf_init 47 = .ok (.aload_n 0, 1) := by decide +kernel
theorem d_mShelf_init_48 : decode b_mShelf_init 48 = .ok (.bipush 7, 2) := by decide +kernel
theorem d_mShelf_init_50 : decode b_mShelf_init 50 = .ok (.newarray .int, 2) := by decide +kernel
theorem d_mShelf_init_52 : decode b_mShelf_init 52 = .ok (.dup, 1) := by decide +kernel
theorem d_mShelf_init_53 : decode b_mShelf_init 53 = .ok (.iconst 0, 1) := by decide +kernel
theorem d_mShelf_init_54 : decode b_mShelf_init 54 = .ok (.sipush 277, 3) := by decide +kernel
theorem d_mShelf_init_57 : decode b_mShelf_init 57 = .ok (.iastore, 1) := by decide +kernel
theorem d_mShelf_init_58 : decode b_mShelf_init 58 = .ok (.dup, 1) := by decide +kernel
theorem d_mShelf_init_59 : decode b_mShelf_init 59 = .ok (.iconst 1, 1) := by decide +kernel
theorem d_mShelf_init_60 : decode b_mShelf_init 60 = .ok (.iconst 0, 1) := by decide +kernel
theorem d_mShelf_init_61 : decode b_mShelf_init 61 = .ok (.iastore, 1) := by decide +kernel
theorem d_mShelf_init_62 : decode b_mShelf_init 62 = .ok (.dup, 1) := by decide +kernel
theorem d_mShelf_init_63 : decode b_mShelf_init 63 = .ok (.iconst 2, 1) := by decide +kernel
theorem d_mShelf_init_64 : decode b_mShelf_init 64 = .ok (.sipush 1000, 3) := by decide +kernel
theorem d_mShelf_init_67 : decode b_mShelf_init 67 = .ok (.iastore, 1) := by decide +kernel
theorem d_mShelf_init_68 : decode b_mShelf_init 68 = .ok (.dup, 1) := by decide +kernel
theorem d_mShelf_init_69 : decode b_mShelf_init 69 = .ok (.iconst 3, 1) := by decide +kernel
theorem d_mShelf_init_70 : decode b_mShelf_init 70 = .ok (.sipush 1200, 3) := by decide +kernel
theorem d_mShelf_init_73 : decode b_mShelf_init 73 = .ok (.iastore, 1) := by decide +kernel
theorem d_mShelf_init_74 : decode b_mShelf_init 74 = .ok (.dup, 1) := by decide +kernel
theorem d_mShelf_init_75 : decode b_mShelf_init 75 = .ok (.iconst 4, 1) := by decide +kernel
theorem d_mShelf_init_76 : decode b_mShelf_init 76 = .ok (.iconst 0, 1) := by decide +kernel
theorem d_mShelf_init_77 : decode b_mShelf_init 77 = .ok (.iastore, 1) := by decide +kernel
theorem d_mShelf_init_78 : decode b_mShelf_init 78 = .ok (.dup, 1) := by decide +kernel
theorem d_mShelf_init_79 : decode b_mShelf_init 79 = .ok (.iconst 5, 1) := by decide +kernel
theorem d_mShelf_init_80 : decode b_mShelf_init 80 = .ok (.iconst 0, 1) := by decide +kernel
theorem d_mShelf_init_81 : decode b_mShelf_init 81 = .ok (.iastore, 1) := by decide +kernel
theorem d_mShelf_init_82 : decode b_mShelf_init 82 = .ok (.dup, 1) := by decide +kernel
theorem d_mShelf_init_83 : decode b_mShelf_init 83 = .ok (.bipush 6, 2) := by decide +kernel
theorem d_mShelf_init_85 : decode b_mShelf_init 85 = .ok (.iconst 3, 1) := by decide +kernel
theorem d_mShelf_init_86 : decode b_mShelf_init 86 = .ok (.iastore, 1) := by decide +kernel
theorem d_mShelf_init_87 : decode b_mShelf_init 87 = .ok (.putfield 27, 3) := by decide +kernel
theorem d_mShelf_init_90 : decode b_mShelf_init 90 = .ok (.aload_n 0, 1) := by decide +kernel
theorem d_mShelf_init_91 : decode b_mShelf_init 91 = .ok (.bipush 14, 2) := by decide +kernel
theorem d_mShelf_init_93 : decode b_mShelf_init 93 = .ok (.newarray .int, 2) := by decide +kernel
theorem d_mShelf_init_95 : decode b_mShelf_init 95 = .ok (.dup, 1) := by decide +kernel
theorem d_mShelf_init_96 : decode b_mShelf_init 96 = .ok (.iconst 0, 1) := by decide +kernel
theorem d_mShelf_init_97 : decode b_mShelf_init 97 = .ok (.sipush 277, 3) := by decide +kernel
theorem d_mShelf_init_100 : decode b_mShelf_init 100 = .ok (.iastore, 1) := by decide +kernel
theorem d_mShelf_init_101 : decode b_mShelf_init 101 = .ok (.dup, 1) := by decide +kernel
theorem d_mShelf_init_102 : decode b_mShelf_init 102 = .ok (.iconst 1, 1) := by decide +kernel
theorem d_mShelf_init_103 : decode b_mShelf_init 103 = .ok (.iconst 0, 1) := by decide +kernel
theorem d_mShelf_init_104 : decode b_mShelf_init 104 = .ok (.iastore, 1) := by decide +kernel
theorem d_mShelf_init_105 : decode b_mShelf_init 105 = .ok (.dup, 1) := by decide +kernel
theorem d_mShelf_init_106 : decode b_mShelf_init 106 = .ok (.iconst 2, 1) := by decide +kernel
theorem d_mShelf_init_107 : decode b_mShelf_init 107 = .ok (.sipush 1000, 3) := by decide +kernel
theorem d_mShelf_init_110 : decode b_mShelf_init 110 = .ok (.iastore, 1) := by decide +kernel
theorem d_mShelf_init_111 : decode b_mShelf_init 111 = .ok (.dup, 1) := by decide +kernel
theorem d_mShelf_init_112 : decode b_mShelf_init 112 = .ok (.iconst 3, 1) := by decide +kernel
theorem d_mShelf_init_113 : decode b_mShelf_init 113 = .ok (.sipush 1200, 3) := by decide +kernel
theorem d_mShelf_init_116 : decode b_mShelf_init 116 = .ok (.iastore, 1) := by decide +kernel
theorem d_mShelf_init_117 : decode b_mShelf_init 117 = .ok (.dup, 1) := by decide +kernel
theorem d_mShelf_init_118 : decode b_mShelf_init 118 = .ok (.iconst 4, 1) := by decide +kernel
theorem d_mShelf_init_119 : decode b_mShelf_init 119 = .ok (.iconst 0, 1) := by decide +kernel
theorem d_mShelf_init_120 : decode b_mShelf_init 120 = .ok (.iastore, 1) := by decide +kernel
theorem d_mShelf_init_121 : decode b_mShelf_init 121 = .ok (.dup, 1) := by decide +kernel
theorem d_mShelf_init_122 : decode b_mShelf_init 122 = .ok (.iconst 5, 1) := by decide +kernel
theorem d_mShelf_init_123 : decode b_mShelf_init 123 = .ok (.iconst 0, 1) := by decide +kernel
theorem d_mShelf_init_124 : decode b_mShelf_init 124 = .ok (.iastore, 1) := by decide +kernel
theorem d_mShelf_init_125 : decode b_mShelf_init 125 = .ok (.dup, 1) := by decide +kernel
theorem d_mShelf_init_126 : decode b_mShelf_init 126 = .ok (.bipush 6, 2) := by decide +kernel
theorem d_mShelf_init_128 : decode b_mShelf_init 128 = .ok (.iconst 3, 1) := by decide +kernel
theorem d_mShelf_init_129 : decode b_mShelf_init 129 = .ok (.iastore, 1) := by decide +kernel
theorem d_mShelf_init_130 : decode b_mShelf_init 130 = .ok (.dup, 1) := by decide +kernel
theorem d_mShelf_init_131 : decode b_mShelf_init 131 = .ok (.bipush 7, 2) := by decide +kernel
theorem d_mShelf_init_133 : decode b_mShelf_init 133 = .ok (.sipush 277, 3) := by decide +kernel
theorem d_mShelf_init_136 : decode b_mShelf_init 136 = .ok (.iastore, 1) := by decide +kernel
theorem d_mShelf_init_137 : decode b_mShelf_init 137 = .ok (.dup, 1) := by decide +kernel
theorem d_mShelf_init_138 : decode b_mShelf_init 138 = .ok (.bipush 8, 2) := by decide +kernel
theorem d_mShelf_init_140 : decode b_mShelf_init 140 = .ok (.iconst 0, 1) := by decide +kernel
theorem d_mShelf_init_141 : decode b_mShelf_init 141 = .ok (.iastore, 1) := by decide +kernel
theorem d_mShelf_init_142 : decode b_mShelf_init 142 = .ok (.dup, 1) := by decide +kernel
theorem d_mShelf_init_143 : decode b_mShelf_init 143 = .ok (.bipush 9, 2) := by decide +kernel
theorem d_mShelf_init_145 : decode b_mShelf_init 145 = .ok (.sipush 1000, 3) := by decide +kernel
theorem d_mShelf_init_148 : decode b_mShelf_init 148 = .ok (.iastore, 1) := by decide +kernel
theorem d_mShelf_init_149 : decode b_mShelf_init 149 = .ok (.dup, 1) := by decide +kernel
theorem d_mShelf_init_150 : decode b_mShelf_init 150 = .ok (.bipush 10, 2) := by decide +kernel
theorem d_mShelf_init_152 : decode b_mShelf_init 152 = .ok (.sipush 1200, 3) := by decide +kernel
theorem d_mShelf_init_155 : decode b_mShelf_init 155 = .ok (.iastore, 1) := by decide +kernel
theorem d_mShelf_init_156 : decode b_mShelf_init 156 = .ok (.dup, 1) := by decide +kernel
theorem d_mShelf_init_157 : decode b_mShelf_init 157 = .ok (.bipush 11, 2) := by decide +kernel
theorem d_mShelf_init_159 : decode b_mShelf_init 159 = .ok (.iconst 0, 1) := by decide +kernel
theorem d_mShelf_init_160 : decode b_mShelf_init 160 = .ok (.iastore, 1) := by decide +kernel
theorem d_mShelf_init_161 : decode b_mShelf_init 161 = .ok (.dup, 1) := by decide +kernel
theorem d_mShelf_init_162 : decode b_mShelf_init 162 = .ok (.bipush 12, 2) := by decide +kernel
theorem d_mShelf_init_164 : decode b_mShelf_init 164 = .ok (.iconst 0, 1) := by decide +kernel
theorem d_mShelf_init_165 : decode b_mShelf_init 165 = .ok (.iastore, 1) := by decide +kernel
theorem d_mShelf_init_166 : decode b_mShelf_init 166 = .ok (.dup, 1) := by decide +kernel
theorem d_mShelf_init_167 : decode b_mShelf_init 167 = .ok (.bipush 13, 2) := by decide +kernel
theorem d_mShelf_init_169 : decode b_mShelf_init 169 = .ok (.iconst 3, 1) := by decide +kernel
theorem d_mShelf_init_170 : decode b_mShelf_init 170 = .ok (.iastore, 1) := by decide +kernel
theorem d_mShelf_init_171 : decode b_mShelf_init 171 = .ok (.putfield 30, 3) := by decide +kernel
theorem d_mShelf_init_174 : decode b_mShelf_init 174 = .ok (.aload_n 0, 1) := by decide +kernel
theorem d_mShelf_init_175 : decode b_mShelf_init 175 = .ok (.iconst 2, 1) := by decide +kernel
theorem d_mShelf_init_176 : decode b_mShelf_init 176 = .ok (.newarray .int, 2) := by decide +kernel
theorem d_mShelf_init_178 : decode b_mShelf_init 178 = .ok (.dup, 1) := by decide +kernel
theorem d_mShelf_init_179 : decode b_mShelf_init 179 = .ok (.iconst 0, 1) := by decide +kernel
theorem d_mShelf_init_180 : decode b_mShelf_init 180 = .ok (.iconst (-1), 1) := by decide +kernel
theorem d_mShelf_init_181 : decode b_mShelf_init 181 = .ok (.iastore, 1) := by decide +kernel
theorem d_mShelf_init_182 : decode b_mShelf_init 182 = .ok (.dup, 1) := by decide +kernel
theorem d_mShelf_init_183 : decode b_mShelf_init 183 = .ok (.iconst 1, 1) := by decide +kernel
theorem d_mShelf_init_184 : decode b_mShelf_init 184 = .ok (.iconst (-1), 1) := by decide +kernel
theorem d_mShelf_init_185 : decode b_mShelf_init 185 = .ok (.iastore, 1) := by decide +kernel
theorem d_mShelf_init_186 : decode b_mShelf_init 186 = .ok (.putfield 33, 3) := by decide +kernel
theorem d_mShelf_init_189 : decode b_mShelf_init 189 = .ok (.aload_n 0, 1) := by decide +kernel
theorem d_mShelf_init_190 : decode b_mShelf_init 190 = .ok (.iconst 5, 1) := by decide +kernel
theorem d_mShelf_init_191 : decode b_mShelf_init 191 = .ok (.newarray .int, 2) := by decide +kernel
theorem d_mShelf_init_193 : decode b_mShelf_init 193 = .ok (.putfield 36, 3) := by decide +kernel
theorem d_mShelf_init_196 : decode b_mShelf_init 196 = .ok (.aload_n 0, 1) := by decide +kernel
theorem d_mShelf_init_197 : decode b_mShelf_init 197 = .ok (.sipush 2048, 3) := by decide +kernel
theorem d_mShelf_init_200 : decode b_mShelf_init 200 = .ok (.newarray .byte, 2) := by decide +kernel
theorem d_mShelf_init_202 : decode b_mShelf_init 202 = .ok (.putfield 39, 3) := by decide +kernel
theorem d_mShelf_init_205 : decode b_mShelf_init 205 = .ok (.aload_n 0, 1) := by decide +kernel
theorem d_mShelf_init_206 : decode b_mShelf_init 206 = .ok (.bipush 32, 2) := by decide +kernel
theorem d_mShelf_init_208 : decode b_mShelf_init 208 = .ok (.newarray .boolean, 2) := by decide +kernel
theorem d_mShelf_init_210 : decode b_mShelf_init 210 = .ok (.putfield 42, 3) := by decide +kernel
theorem d_mShelf_init_213 : decode b_mShelf_init 213 = .ok (.return_, 1) := by decide +kernel
abbrev b_mShelf_drop : ByteArray := prog_20_method_20_code
abbrev y_mShelf_drop : MethodName := ⟨"SheetPrinterModel$Shelf", "drop", "(I)I"⟩
abbrev w_mShelf_drop : List Cond := .code y_mShelf_drop b_mShelf_drop 4 (some .int) :: gT
theorem gd_mShelf_drop : GoodIn gT w_mShelf_drop := gW wd_11_75
theorem d_mShelf_drop_0 : decode b_mShelf_drop 0 = .ok (.aload_n 0, 1) := by decide +kernel
theorem d_mShelf_drop_1 : decode b_mShelf_drop 1 = .ok (.iload_n 1, 1) := by decide +kernel
theorem d_mShelf_drop_2 : decode b_mShelf_drop 2 = .ok (.ifCond .lt 8, 3) := by decide +kernel
theorem d_mShelf_drop_5 : decode b_mShelf_drop 5 = .ok (.iload_n 1, 1) := by decide +kernel
theorem d_mShelf_drop_6 : decode b_mShelf_drop 6 = .ok (.iconst 3, 1) := by decide +kernel
theorem d_mShelf_drop_7 : decode b_mShelf_drop 7 = .ok (.if_icmp .le 7, 3) := by decide +kernel
theorem d_mShelf_drop_10 : decode b_mShelf_drop 10 = .ok (.iconst 1, 1) := by decide +kernel
theorem d_mShelf_drop_11 : decode b_mShelf_drop 11 = .ok (.goto 4, 3) := by decide +kernel
theorem d_mShelf_drop_14 : decode b_mShelf_drop 14 = .ok (.iconst 0, 1) := by decide +kernel
theorem d_mShelf_drop_15 : decode b_mShelf_drop 15 = .ok (.putfield 45, 3) := by decide +kernel
theorem d_mShelf_drop_18 : decode b_mShelf_drop 18 = .ok (.aload_n 0, 1) := by decide +kernel
theorem d_mShelf_drop_19 : decode b_mShelf_drop 19 = .ok (.getfield 45, 3) := by decide +kernel
theorem d_mShelf_drop_22 : decode b_mShelf_drop 22 = .ok (.ifCond .le 5, 3) := by decide +kernel
theorem d_mShelf_drop_25 : decode b_mShelf_drop 25 = .ok (.iconst 0, 1) := by decide +kernel
theorem d_mShelf_drop_26 : decode b_mShelf_drop 26 = .ok (.ireturn, 1) := by decide +kernel
theorem d_mShelf_drop_27 : decode b_mShelf_drop 27 = .ok (.aload_n 0, 1) := by decide +kernel
theorem d_mShelf_drop_28 : decode b_mShelf_drop 28 = .ok (.iconst 0, 1) := by decide +kernel
theorem d_mShelf_drop_29 : decode b_mShelf_drop 29 = .ok (.putfield 55, 3) := by decide +kernel
theorem d_mShelf_drop_32 : decode b_mShelf_drop 32 = .ok (.iconst 0, 1) := by decide +kernel
theorem d_mShelf_drop_33 : decode b_mShelf_drop 33 = .ok (.istore_n 2, 1) := by decide +kernel
theorem d_mShelf_drop_34 : decode b_mShelf_drop 34 = .ok (.iload_n 1, 1) := by decide +kernel
theorem d_mShelf_drop_35 : decode b_mShelf_drop 35 = .ok (.iconst 3, 1) := by decide +kernel
theorem d_mShelf_drop_36 : decode b_mShelf_drop 36 = .ok (.if_icmp .ne 29, 3) := by decide +kernel
theorem d_mShelf_drop_39 : decode b_mShelf_drop 39 = .ok (.aload_n 0, 1) := by decide +kernel
theorem d_mShelf_drop_40 : decode b_mShelf_drop 40 = .ok (.aload_n 0, 1) := by decide +kernel
theorem d_mShelf_drop_41 : decode b_mShelf_drop 41 = .ok (.getfield 49, 3) := by decide +kernel
theorem d_mShelf_drop_44 : decode b_mShelf_drop 44 = .ok (.aload_n 0, 1) := by decide +kernel
theorem d_mShelf_drop_45 : decode b_mShelf_drop 45 = .ok (.getfield 52, 3) := by decide +kernel
theorem d_mShelf_drop_48 : decode b_mShelf_drop 48 = .ok (.invokevirtual 100, 3) := by decide +kernel
theorem d_mShelf_drop_51 : decode b_mShelf_drop 51 = .ok (.istore_n 3, 1) := by decide +kernel
theorem d_mShelf_drop_52 : decode b_mShelf_drop 52 = .ok (.iload_n 3, 1) := by decide +kernel
theorem d_mShelf_drop_53 : decode b_mShelf_drop 53 = .ok (.ifCond .lt 10, 3) := by decide +kernel
theorem d_mShelf_drop_56 : decode b_mShelf_drop 56 = .ok (.aload_n 0, 1) := by decide +kernel
theorem d_mShelf_drop_57 : decode b_mShelf_drop 57 = .ok (.iload_n 3, 1) := by decide +kernel
theorem d_mShelf_drop_58 : decode b_mShelf_drop 58 = .ok (.invokevirtual 82, 3) := by decide +kernel
theorem d_mShelf_drop_61 : decode b_mShelf_drop 61 = .ok (.iconst 1, 1) := by decide +kernel
theorem d_mShelf_drop_62 : decode b_mShelf_drop 62 = .ok (.istore_n 2, 1) := by decide +kernel
theorem d_mShelf_drop_63 : decode b_mShelf_drop 63 = .ok (.iload_n 2, 1) := by decide +kernel
theorem d_mShelf_drop_64 : decode b_mShelf_drop 64 = .ok (.ireturn, 1) := by decide +kernel
theorem d_mShelf_drop_65 : decode b_mShelf_drop 65 = .ok (.aload_n 0, 1) := by decide +kernel
theorem d_mShelf_drop_66 : decode b_mShelf_drop 66 = .ok (.getfield 66, 3) := by decide +kernel
theorem d_mShelf_drop_69 : decode b_mShelf_drop 69 = .ok (.iconst 1, 1) := by decide +kernel
theorem d_mShelf_drop_70 : decode b_mShelf_drop 70 = .ok (.isub, 1) := by decide +kernel
theorem d_mShelf_drop_71 : decode b_mShelf_drop 71 = .ok (.istore_n 3, 1) := by decide +kernel
theorem d_mShelf_drop_72 : decode b_mShelf_drop 72 = .ok (.iload_n 3, 1) := by decide +kernel
theorem d_mShelf_drop_73 : decode b_mShelf_drop 73 = .ok (.ifCond .lt 53, 3) := by decide +kernel
theorem d_mShelf_drop_76 : decode b_mShelf_drop 76 = .ok (.iload_n 1, 1) := by decide +kernel
theorem d_mShelf_drop_77 : decode b_mShelf_drop 77 = .ok (.ifCond .eq 35, 3) := by decide +kernel
theorem d_mShelf_drop_80 : decode b_mShelf_drop 80 = .ok (.iload_n 1, 1) := by decide +kernel
theorem d_mShelf_drop_81 : decode b_mShelf_drop 81 = .ok (.iconst 1, 1) := by decide +kernel
theorem d_mShelf_drop_82 : decode b_mShelf_drop 82 = .ok (.if_icmp .ne 12, 3) := by decide +kernel
theorem d_mShelf_drop_85 : decode b_mShelf_drop 85 = .ok (.aload_n 0, 1) := by decide +kernel
theorem d_mShelf_drop_86 : decode b_mShelf_drop 86 = .ok (.getfield 16, 3) := by decide +kernel
theorem d_mShelf_drop_89 : decode b_mShelf_drop 89 = .ok (.iload_n 3, 1) := by decide +kernel
theorem d_mShelf_drop_90 : decode b_mShelf_drop 90 = .ok (.baload, 1) := by decide +kernel
theorem d_mShelf_drop_91 : decode b_mShelf_drop 91 = .ok (.ifCond .eq 21, 3) := by decide +kernel
theorem d_mShelf_drop_94 : decode b_mShelf_drop 94 = .ok (.iload_n 1, 1) := by decide +kernel
theorem d_mShelf_drop_95 : decode b_mShelf_drop 95 = .ok (.iconst 2, 1) := by decide +kernel
theorem d_mShelf_drop_96 : decode b_mShelf_drop 96 = .ok (.if_icmp .ne 24, 3) := by decide +kernel
theorem d_mShelf_drop_99 : decode b_mShelf_drop 99 = .ok (.aload_n 0, 1) := by decide +kernel
theorem d_mShelf_drop_100 : decode b_mShelf_drop 100 = .ok (.getfield 7, 3) := by decide +kernel
theorem d_mShelf_drop_103 : decode b_mShelf_drop 103 = .ok (.iload_n 3, 1) := by decide +kernel
theorem d_mShelf_drop_104 : decode b_mShelf_drop 104 = .ok (.iaload, 1) := by decide +kernel
theorem d_mShelf_drop_105 : decode b_mShelf_drop 105 = .ok (.aload_n 0, 1) := by decide +kernel
theorem d_mShelf_drop_106 : decode b_mShelf_drop 106 = .ok (.getfield 49, 3) := by decide +kernel
theorem d_mShelf_drop_109 : decode b_mShelf_drop 109 = .ok (.if_icmp .ne 11, 3) := by decide +kernel
theorem d_mShelf_drop_112 : decode b_mShelf_drop 112 = .ok (.aload_n 0, 1) := by decide +kernel
theorem d_mShelf_drop_113 : decode b_mShelf_drop 113 = .ok (.iload_n 3, 1) := by decide +kernel
theorem d_mShelf_drop_114 : decode b_mShelf_drop 114 = .ok (.invokevirtual 89, 3) := by decide +kernel
theorem d_mShelf_drop_117 : decode b_mShelf_drop 117 = .ok (.iinc 2 1, 3) := by decide +kernel
theorem d_mShelf_drop_120 : decode b_mShelf_drop 120 = .ok (.iinc 3 (-1), 3) := by decide +kernel
theorem d_mShelf_drop_123 : decode b_mShelf_drop 123 = .ok (.goto (-51), 3) := by decide +kernel
theorem d_mShelf_drop_126 : decode b_mShelf_drop 126 = .ok (.iload_n 2, 1) := by decide +kernel
theorem d_mShelf_drop_127 : decode b_mShelf_drop 127 = .ok (.ireturn, 1) := by decide +kernel
abbrev b_mShelf_restart : ByteArray := prog_20_method_3_code
abbrev y_mShelf_restart : MethodName := ⟨"SheetPrinterModel$Shelf", "restart", "()V"⟩
abbrev w_mShelf_restart : List Cond := .code y_mShelf_restart b_mShelf_restart 2 none :: gT
theorem gd_mShelf_restart : GoodIn gT w_mShelf_restart := gW wd_11_99
theorem d_mShelf_restart_0 : decode b_mShelf_restart 0 = .ok (.iconst 0, 1) := by decide +kernel
theorem d_mShelf_restart_1 : decode b_mShelf_restart 1 = .ok (.istore_n 1, 1) := by decide +kernel
theorem d_mShelf_restart_2 : decode b_mShelf_restart 2 = .ok (.iload_n 1, 1) := by decide +kernel
theorem d_mShelf_restart_3 : decode b_mShelf_restart 3 = .ok (.bipush 7, 2) := by decide +kernel
theorem d_mShelf_restart_5 : decode b_mShelf_restart 5 = .ok (.if_icmp .ge 85, 3) := by decide +kernel
theorem d_mShelf_restart_8 : decode b_mShelf_restart 8 = .ok (.aload_n 0, 1) := by decide +kernel
theorem d_mShelf_restart_9 : decode b_mShelf_restart 9 = .ok (.getfield 27, 3) := by decide +kernel
theorem d_mShelf_restart_12 : decode b_mShelf_restart 12 = .ok (.iload_n 1, 1) := by decide +kernel
theorem d_mShelf_restart_13 : decode b_mShelf_restart 13 = .ok (.iload_n 1, 1) := by decide +kernel
theorem d_mShelf_restart_14 : decode b_mShelf_restart 14 = .ok (.ifCond .ne 9, 3) := by decide +kernel
theorem d_mShelf_restart_17 : decode b_mShelf_restart 17 = .ok (.sipush 277, 3) := by decide +kernel
theorem d_mShelf_restart_20 : decode b_mShelf_restart 20 = .ok (.goto 36, 3) := by decide +kernel
theorem d_mShelf_restart_23 : decode b_mShelf_restart 23 = .ok (.iload_n 1, 1) := by decide +kernel
theorem d_mShelf_restart_24 : decode b_mShelf_restart 24 = .ok (.iconst 2, 1) := by decide +kernel
theorem d_mShelf_restart_25 : decode b_mShelf_restart 25 = .ok (.if_icmp .ne 9, 3) := by decide +kernel
theorem d_mShelf_restart_28 : decode b_mShelf_restart 28 = .ok (.sipush 1000, 3) := by decide +kernel
theorem d_mShelf_restart_31 : decode b_mShelf_restart 31 = .ok (.goto 25, 3) := by decide +kernel
theorem d_mShelf_restart_34 : decode b_mShelf_restart 34 = .ok (.iload_n 1, 1) := by decide +kernel
theorem d_mShelf_restart_35 : decode b_mShelf_restart 35 = .ok (.iconst 3, 1) := by decide +kernel
theorem d_mShelf_restart_36 : decode b_mShelf_restart 36 = .ok (.if_icmp .ne 9, 3) := by decide +kernel
theorem d_mShelf_restart_39 : decode b_mShelf_restart 39 = .ok (.sipush 1200, 3) := by decide +kernel
theorem d_mShelf_restart_42 : decode b_mShelf_restart 42 = .ok (.goto 14, 3) := by decide +kernel
theorem d_mShelf_restart_45 : decode b_mShelf_restart 45 = .ok (.iload_n 1, 1) := by decide +kernel
theorem d_mShelf_restart_46 : decode b_mShelf_restart 46 = .ok (.bipush 6, 2) := by decide +kernel
theorem d_mShelf_restart_48 : decode b_mShelf_restart 48 = .ok (.if_icmp .ne 7, 3) := by decide +kernel
theorem d_mShelf_restart_51 : decode b_mShelf_restart 51 = .ok (.iconst 3, 1) := by decide +kernel
theorem d_mShelf_restart_52 : decode b_mShelf_restart 52 = .ok (.goto 4, 3) := by decide +kernel
theorem d_mShelf_restart_55 : decode b_mShelf_restart 55 = .ok (.iconst 0, 1) := by decide +kernel
theorem d_mShelf_restart_56 : decode b_mShelf_restart 56 = .ok (.iastore, 1) := by decide +kernel
theorem d_mShelf_restart_57 : decode b_mShelf_restart 57 = .ok (.aload_n 0, 1) := by decide +kernel
theorem d_mShelf_restart_58 : decode b_mShelf_restart 58 = .ok (.getfield 30, 3) := by decide +kernel
theorem d_mShelf_restart_61 : decode b_mShelf_restart 61 = .ok (.iload_n 1, 1) := by decide +kernel
theorem d_mShelf_restart_62 : decode b_mShelf_restart 62 = .ok (.aload_n 0, 1) := by decide +kernel
theorem d_mShelf_restart_63 : decode b_mShelf_restart 63 = .ok (.getfield 27, 3) := by decide +kernel
theorem d_mShelf_restart_66 : decode b_mShelf_restart 66 = .ok (.iload_n 1, 1) := by decide +kernel
theorem d_mShelf_restart_67 : decode b_mShelf_restart 67 = .ok (.iaload, 1) := by decide +kernel
theorem d_mShelf_restart_68 : decode b_mShelf_restart 68 = .ok (.iastore, 1) := by decide +kernel
theorem d_mShelf_restart_69 : decode b_mShelf_restart 69 = .ok (.aload_n 0, 1) := by decide +kernel
theorem d_mShelf_restart_70 : decode b_mShelf_restart 70 = .ok (.getfield 30, 3) := by decide +kernel
theorem d_mShelf_restart_73 : decode b_mShelf_restart 73 = .ok (.bipush 7, 2) := by decide +kernel
theorem d_mShelf_restart_75 : decode b_mShelf_restart 75 = .ok (.iload_n 1, 1) := by decide +kernel
theorem d_mShelf_restart_76 : decode b_mShelf_restart 76 = .ok (.iadd, 1) := by decide +kernel
theorem d_mShelf_restart_77 : decode b_mShelf_restart 77 = .ok (.aload_n 0, 1) := by decide +kernel
theorem d_mShelf_restart_78 : decode b_mShelf_restart 78 = .ok (.getfield 27, 3) := by decide +kernel
theorem d_mShelf_restart_81 : decode b_mShelf_restart 81 = .ok (.iload_n 1, 1) := by decide +kernel
theorem d_mShelf_restart_82 : decode b_mShelf_restart 82 = .ok (.iaload, 1) := by decide +kernel
theorem d_mShelf_restart_83 : decode b_mShelf_restart 83 = .ok (.iastore, 1) := by decide +kernel
theorem d_mShelf_restart_84 : decode b_mShelf_restart 84 = .ok (.iinc 1 1, 3) := by decide +kernel
theorem d_mShelf_restart_87 : decode b_mShelf_restart 87 = .ok (.goto (-85), 3) := by decide +kernel
theorem d_mShelf_restart_90 : decode b_mShelf_restart 90 = .ok (.aload_n 0, 1) := by decide +kernel
theorem d_mShelf_restart_91 : decode b_mShelf_restart 91 = .ok (.getfield 33, 3) := by decide +kernel
theorem d_mShelf_restart_94 : decode b_mShelf_restart 94 = .ok (.iconst 0, 1) := by decide +kernel
theorem d_mShelf_restart_95 : decode b_mShelf_restart 95 = .ok (.iconst (-1), 1) := by decide +kernel
theorem d_mShelf_restart_96 : decode b_mShelf_restart 96 = .ok (.iastore, 1) := by decide +kernel
theorem d_mShelf_restart_97 : decode b_mShelf_restart 97 = .ok (.aload_n 0, 1) := by decide +kernel
theorem d_mShelf_restart_98 : decode b_mShelf_restart 98 = .ok (.getfield 33, 3) := by decide +kernel
theorem d_mShelf_restart_101 : decode b_mShelf_restart 101 = .ok (.iconst 1, 1) := by decide +kernel
theorem d_mShelf_restart_102 : decode b_mShelf_restart 102 = .ok (.iconst (-1), 1) := by decide +kernel
theorem d_mShelf_restart_103 : decode b_mShelf_restart 103 = .ok (.iastore, 1) := by decide +kernel
theorem d_mShelf_restart_104 : decode b_mShelf_restart 104 = .ok (.aload_n 0, 1) := by decide +kernel
theorem d_mShelf_restart_105 : decode b_mShelf_restart 105 = .ok (.iconst 0, 1) := by decide +kernel
theorem d_mShelf_restart_106 : decode b_mShelf_restart 106 = .ok (.putfield 49, 3) := by decide +kernel
theorem d_mShelf_restart_109 : decode b_mShelf_restart 109 = .ok (.aload_n 0, 1) := by decide +kernel
theorem d_mShelf_restart_110 : decode b_mShelf_restart 110 = .ok (.iconst 0, 1) := by decide +kernel
theorem d_mShelf_restart_111 : decode b_mShelf_restart 111 = .ok (.putfield 52, 3) := by decide +kernel
theorem d_mShelf_restart_114 : decode b_mShelf_restart 114 = .ok (.aload_n 0, 1) := by decide +kernel
theorem d_mShelf_restart_115 : decode b_mShelf_restart 115 = .ok (.iconst 0, 1) := by decide +kernel
theorem d_mShelf_restart_116 : decode b_mShelf_restart 116 = .ok (.putfield 55, 3) := by decide +kernel
theorem d_mShelf_restart_119 : decode b_mShelf_restart 119 = .ok (.return_, 1) := by decide +kernel
abbrev b_mMacros_init : ByteArray := prog_17_method_1_code
abbrev y_mMacros_init : MethodName := ⟨"SheetPrinterModel$Macros", "<init>", "()V"⟩
abbrev w_mMacros_init : List Cond := .code y_mMacros_init b_mMacros_init 1 none :: gT
theorem gd_mMacros_init : GoodIn gT w_mMacros_init := gW wd_10_34
theorem d_mMacros_init_0 : decode b_mMacros_init 0 = .ok (.aload_n 0, 1) := by decide +kernel
theorem d_mMacros_init_1 : decode b_mMacros_init 1 = .ok (.invokespecial 3, 3) := by decide +kernel
theorem d_mMacros_init_4 : decode b_mMacros_init 4 = .ok (.aload_n 0, 1) := by decide +kernel
theorem d_mMacros_init_5 : decode b_mMacros_init 5 = .ok (.bipush 32, 2) := by decide +kernel
theorem d_mMacros_init_7 : decode b_mMacros_init 7 = .ok (.newarray .int, 2) := by decide +kernel
theorem d_mMacros_init_9 : decode b_mMacros_init 9 = .ok (.putfield 9, 3) := by decide +kernel
theorem d_mMacros_init_12 : decode b_mMacros_init 12 = .ok (.aload_n 0, 1) := by decide +kernel
theorem d_mMacros_init_13 : decode b_mMacros_init 13 = .ok (.bipush 32, 2) := by decide +kernel
theorem d_mMacros_init_15 : decode b_mMacros_init 15 = .ok (.newarray .boolean, 2) := by decide +kernel
theorem d_mMacros_init_17 : decode b_mMacros_init 17 = .ok (.putfield 15, 3) := by decide +kernel
theorem d_mMacros_init_20 : decode b_mMacros_init 20 = .ok (.aload_n 0, 1) := by decide +kernel
theorem d_mMacros_init_21 : decode b_mMacros_init 21 = .ok (.bipush 32, 2) := by decide +kernel
theorem d_mMacros_init_23 : decode b_mMacros_init 23 = .ok (.newarray .int, 2) := by decide +kernel
theorem d_mMacros_init_25 : decode b_mMacros_init 25 = .ok (.putfield 19, 3) := by decide +kernel
theorem d_mMacros_init_28 : decode b_mMacros_init 28 = .ok (.aload_n 0, 1) := by decide +kernel
theorem d_mMacros_init_29 : decode b_mMacros_init 29 = .ok (.sipush 16384, 3) := by decide +kernel
theorem d_mMacros_init_32 : decode b_mMacros_init 32 = .ok (.newarray .byte, 2) := by decide +kernel
theorem d_mMacros_init_34 : decode b_mMacros_init 34 = .ok (.putfield 22, 3) := by decide +kernel
theorem d_mMacros_init_37 : decode b_mMacros_init 37 = .ok (.aload_n 0, 1) := by decide +kernel
theorem d_mMacros_init_38 : decode b_mMacros_init 38 = .ok (.sipush 16384, 3) := by decide +kernel
theorem d_mMacros_init_41 : decode b_mMacros_init 41 = .ok (.newarray .byte, 2) := by decide +kernel
theorem d_mMacros_init_43 : decode b_mMacros_init 43 = .ok (.putfield 26, 3) := by decide +kernel
theorem d_mMacros_init_46 : decode b_mMacros_init 46 = .ok (.return_, 1) := by decide +kernel
abbrev b_mMacros_removeAll : ByteArray := prog_17_method_5_code
abbrev y_mMacros_removeAll : MethodName := ⟨"SheetPrinterModel$Macros", "removeAll", "(Z)V"⟩
abbrev w_mMacros_removeAll : List Cond := .code y_mMacros_removeAll b_mMacros_removeAll 3 none :: gT
theorem gd_mMacros_removeAll : GoodIn gT w_mMacros_removeAll := gW wd_11_103
theorem d_mMacros_removeAll_0 : decode b_mMacros_removeAll 0 = .ok (.aload_n 0, 1) := by decide +kernel
theorem d_mMacros_removeAll_1 : decode b_mMacros_removeAll 1 = .ok (.getfield 29, 3) := by decide +kernel
theorem d_mMacros_removeAll_4 : decode b_mMacros_removeAll 4 = .ok (.iconst 1, 1) := by decide +kernel
theorem d_mMacros_removeAll_5 : decode b_mMacros_removeAll 5 = .ok (.isub, 1) := by decide +kernel
theorem d_mMacros_removeAll_6 : decode b_mMacros_removeAll 6 = .ok (.istore_n 2, 1) := by decide +kernel
theorem d_mMacros_removeAll_7 : decode b_mMacros_removeAll 7 = .ok (.iload_n 2, 1) := by decide +kernel
theorem d_mMacros_removeAll_8 : decode b_mMacros_removeAll 8 = .ok (.ifCond .lt 27, 3) := by decide +kernel
theorem d_mMacros_removeAll_11 : decode b_mMacros_removeAll 11 = .ok (.iload_n 1, 1) := by decide +kernel
theorem d_mMacros_removeAll_12 : decode b_mMacros_removeAll 12 = .ok (.ifCond .ne 12, 3) := by decide +kernel
theorem d_mMacros_removeAll_15 : decode b_mMacros_removeAll 15 = .ok (.aload_n 0, 1) := by decide +kernel
theorem d_mMacros_removeAll_16 : decode b_mMacros_removeAll 16 = .ok (.getfield 15, 3) := by decide +kernel
theorem d_mMacros_removeAll_19 : decode b_mMacros_removeAll 19 = .ok (.iload_n 2, 1) := by decide +kernel
theorem d_mMacros_removeAll_20 : decode b_mMacros_removeAll 20 = .ok (.baload, 1) := by decide +kernel
theorem d_mMacros_removeAll_21 : decode b_mMacros_removeAll 21 = .ok (.ifCond .ne 8, 3) := by decide +kernel
theorem d_mMacros_removeAll_24 : decode b_mMacros_removeAll 24 = .ok (.aload_n 0, 1) := by decide +kernel
theorem d_mMacros_removeAll_25 : decode b_mMacros_removeAll 25 = .ok (.iload_n 2, 1) := by decide +kernel
theorem d_mMacros_removeAll_26 : decode b_mMacros_removeAll 26 = .ok (.invokevirtual 40, 3) := by decide +kernel
theorem d_mMacros_removeAll_29 : decode b_mMacros_removeAll 29 = .ok (.iinc 2 (-1), 3) := by decide +kernel
theorem d_mMacros_removeAll_32 : decode b_mMacros_removeAll 32 = .ok (.goto (-25), 3) := by decide +kernel
theorem d_mMacros_removeAll_35 : decode b_mMacros_removeAll 35 = .ok (.return_, 1) := by decide +kernel
abbrev b_mPictures_init : ByteArray := prog_18_method_1_code
abbrev y_mPictures_init : MethodName := ⟨"SheetPrinterModel$Pictures", "<init>", "()V"⟩
abbrev w_mPictures_init : List Cond := .code y_mPictures_init b_mPictures_init 1 none :: gT
theorem gd_mPictures_init : GoodIn gT w_mPictures_init := gW wd_10_155
theorem d_mPictures_init_0 : decode b_mPictures_init 0 = .ok (.aload_n 0, 1) := by decide +kernel
theorem d_mPictures_init_1 : decode b_mPictures_init 1 = .ok (.invokespecial 1, 3) := by decide +kernel
theorem d_mPictures_init_4 : decode b_mPictures_init 4 = .ok (.aload_n 0, 1) := by decide +kernel
theorem d_mPictures_init_5 : decode b_mPictures_init 5 = .ok (.ldc 7, 2) := by decide +kernel
theorem d_mPictures_init_7 : decode b_mPictures_init 7 = .ok (.newarray .byte, 2) := by decide +kernel
theorem d_mPictures_init_9 : decode b_mPictures_init 9 = .ok (.putfield 8, 3) := by decide +kernel
theorem d_mPictures_init_12 : decode b_mPictures_init 12 = .ok (.aload_n 0, 1) := by decide +kernel
theorem d_mPictures_init_13 : decode b_mPictures_init 13 = .ok (.sipush 512, 3) := by decide +kernel
theorem d_mPictures_init_16 : decode b_mPictures_init 16 = .ok (.newarray .int, 2) := by decide +kernel
theorem d_mPictures_init_18 : decode b_mPictures_init 18 = .ok (.putfield 14, 3) := by decide +kernel
theorem d_mPictures_init_21 : decode b_mPictures_init 21 = .ok (.aload_n 0, 1) := by decide +kernel
theorem d_mPictures_init_22 : decode b_mPictures_init 22 = .ok (.sipush 512, 3) := by decide +kernel
theorem d_mPictures_init_25 : decode b_mPictures_init 25 = .ok (.newarray .int, 2) := by decide +kernel
theorem d_mPictures_init_27 : decode b_mPictures_init 27 = .ok (.putfield 18, 3) := by decide +kernel
theorem d_mPictures_init_30 : decode b_mPictures_init 30 = .ok (.aload_n 0, 1) := by decide +kernel
theorem d_mPictures_init_31 : decode b_mPictures_init 31 = .ok (.sipush 520, 3) := by decide +kernel
theorem d_mPictures_init_34 : decode b_mPictures_init 34 = .ok (.newarray .long, 2) := by decide +kernel
theorem d_mPictures_init_36 : decode b_mPictures_init 36 = .ok (.putfield 21, 3) := by decide +kernel
theorem d_mPictures_init_39 : decode b_mPictures_init 39 = .ok (.aload_n 0, 1) := by decide +kernel
theorem d_mPictures_init_40 : decode b_mPictures_init 40 = .ok (.bipush 41, 2) := by decide +kernel
theorem d_mPictures_init_42 : decode b_mPictures_init 42 = .ok (.newarray .int, 2) := by decide +kernel
theorem d_mPictures_init_44 : decode b_mPictures_init 44 = .ok (.putfield 25, 3) := by decide +kernel
theorem d_mPictures_init_47 : decode b_mPictures_init 47 = .ok (.aload_n 0, 1) := by decide +kernel
theorem d_mPictures_init_48 : decode b_mPictures_init 48 = .ok (.sipush 8192, 3) := by decide +kernel
theorem d_mPictures_init_51 : decode b_mPictures_init 51 = .ok (.newarray .int, 2) := by decide +kernel
theorem d_mPictures_init_53 : decode b_mPictures_init 53 = .ok (.putfield 28, 3) := by decide +kernel
theorem d_mPictures_init_56 : decode b_mPictures_init 56 = .ok (.aload_n 0, 1) := by decide +kernel
theorem d_mPictures_init_57 : decode b_mPictures_init 57 = .ok (.sipush 8192, 3) := by decide +kernel
theorem d_mPictures_init_60 : decode b_mPictures_init 60 = .ok (.newarray .int, 2) := by decide +kernel
theorem d_mPictures_init_62 : decode b_mPictures_init 62 = .ok (.putfield 31, 3) := by decide +kernel
theorem d_mPictures_init_65 : decode b_mPictures_init 65 = .ok (.aload_n 0, 1) := by decide +kernel
theorem d_mPictures_init_66 : decode b_mPictures_init 66 = .ok (.bipush 11, 2) := by decide +kernel
theorem d_mPictures_init_68 : decode b_mPictures_init 68 = .ok (.newarray .int, 2) := by decide +kernel
theorem d_mPictures_init_70 : decode b_mPictures_init 70 = .ok (.putfield 34, 3) := by decide +kernel
theorem d_mPictures_init_73 : decode b_mPictures_init 73 = .ok (.return_, 1) := by decide +kernel
abbrev b_mPictures_one : ByteArray := prog_18_method_3_code
abbrev y_mPictures_one : MethodName := ⟨"SheetPrinterModel$Pictures", "one", "(I)V"⟩
abbrev w_mPictures_one : List Cond := .code y_mPictures_one b_mPictures_one 2 none :: gT
theorem gd_mPictures_one : GoodIn gT w_mPictures_one := gW wd_11_129
theorem d_mPictures_one_0 : decode b_mPictures_one 0 = .ok (.aload_n 0, 1) := by decide +kernel
theorem d_mPictures_one_1 : decode b_mPictures_one 1 = .ok (.getfield 8, 3) := by decide +kernel
theorem d_mPictures_one_4 : decode b_mPictures_one 4 = .ok (.aload_n 0, 1) := by decide +kernel
theorem d_mPictures_one_5 : decode b_mPictures_one 5 = .ok (.getfield 41, 3) := by decide +kernel
theorem d_mPictures_one_8 : decode b_mPictures_one 8 = .ok (.iload_n 1, 1) := by decide +kernel
theorem d_mPictures_one_9 : decode b_mPictures_one 9 = .ok (.i2b, 1) := by decide +kernel
theorem d_mPictures_one_10 : decode b_mPictures_one 10 = .ok (.bastore, 1) := by decide +kernel
theorem d_mPictures_one_11 : decode b_mPictures_one 11 = .ok (.aload_n 0, 1) := by decide +kernel
theorem d_mPictures_one_12 : decode b_mPictures_one 12 = .ok (.dup, 1) := by decide +kernel
theorem d_mPictures_one_13 : decode b_mPictures_one 13 = .ok (.getfield 41, 3) := by decide +kernel
theorem d_mPictures_one_16 : decode b_mPictures_one 16 = .ok (.iconst 1, 1) := by decide +kernel
theorem d_mPictures_one_17 : decode b_mPictures_one 17 = .ok (.iadd, 1) := by decide +kernel
theorem d_mPictures_one_18 : decode b_mPictures_one 18 = .ok (.putfield 41, 3) := by decide +kernel
theorem d_mPictures_one_21 : decode b_mPictures_one 21 = .ok (.return_, 1) := by decide +kernel
abbrev b_mPictures_two : ByteArray := prog_18_method_9_code
abbrev y_mPictures_two : MethodName := ⟨"SheetPrinterModel$Pictures", "two", "(I)V"⟩
abbrev w_mPictures_two : List Cond := .code y_mPictures_two b_mPictures_two 2 none :: gT
theorem gd_mPictures_two : GoodIn gT w_mPictures_two := gW wd_11_133
theorem d_mPictures_two_0 : decode b_mPictures_two 0 = .ok (.aload_n 0, 1) := by decide +kernel
theorem d_mPictures_two_1 : decode b_mPictures_two 1 = .ok (.aload_n 0, 1) := by decide +kernel
theorem d_mPictures_two_2 : decode b_mPictures_two 2 = .ok (.getfield 58, 3) := by decide +kernel
theorem d_mPictures_two_5 : decode b_mPictures_two 5 = .ok (.bipush 77, 2) := by decide +kernel
theorem d_mPictures_two_7 : decode b_mPictures_two 7 = .ok (.if_icmp .ne 10, 3) := by decide +kernel
theorem d_mPictures_two_10 : decode b_mPictures_two 10 = .ok (.iload_n 1, 1) := by decide +kernel
theorem d_mPictures_two_11 : decode b_mPictures_two 11 = .ok (.bipush 8, 2) := by decide +kernel
theorem d_mPictures_two_13 : decode b_mPictures_two 13 = .ok (.ishr, 1) := by decide +kernel
theorem d_mPictures_two_14 : decode b_mPictures_two 14 = .ok (.goto 4, 3) := by decide +kernel
theorem d_mPictures_two_17 : decode b_mPictures_two 17 = .ok (.iload_n 1, 1) := by decide +kernel
theorem d_mPictures_two_18 : decode b_mPictures_two 18 = .ok (.invokevirtual 50, 3) := by decide +kernel
theorem d_mPictures_two_21 : decode b_mPictures_two 21 = .ok (.aload_n 0, 1) := by decide +kernel
theorem d_mPictures_two_22 : decode b_mPictures_two 22 = .ok (.aload_n 0, 1) := by decide +kernel
theorem d_mPictures_two_23 : decode b_mPictures_two 23 = .ok (.getfield 58, 3) := by decide +kernel
theorem d_mPictures_two_26 : decode b_mPictures_two 26 = .ok (.bipush 77, 2) := by decide +kernel
theorem d_mPictures_two_28 : decode b_mPictures_two 28 = .ok (.if_icmp .ne 7, 3) := by decide +kernel
theorem d_mPictures_two_31 : decode b_mPictures_two 31 = .ok (.iload_n 1, 1) := by decide +kernel
theorem d_mPictures_two_32 : decode b_mPictures_two 32 = .ok (.goto 7, 3) := by decide +kernel
theorem d_mPictures_two_35 : decode b_mPictures_two 35 = .ok (.iload_n 1, 1) := by decide +kernel
theorem d_mPictures_two_36 : decode b_mPictures_two 36 = .ok (.bipush 8, 2) := by decide +kernel
theorem d_mPictures_two_38 : decode b_mPictures_two 38 = .ok (.ishr, 1) := by decide +kernel
theorem d_mPictures_two_39 : decode b_mPictures_two 39 = .ok (.invokevirtual 50, 3) := by decide +kernel
theorem d_mPictures_two_42 : decode b_mPictures_two 42 = .ok (.return_, 1) := by decide +kernel
abbrev b_mPictures_four : ByteArray := prog_18_method_10_code
abbrev y_mPictures_four : MethodName := ⟨"SheetPrinterModel$Pictures", "four", "(I)V"⟩
abbrev w_mPictures_four : List Cond := .code y_mPictures_four b_mPictures_four 2 none :: gT
theorem gd_mPictures_four : GoodIn gT w_mPictures_four := gW wd_11_137
theorem d_mPictures_four_0 : decode b_mPictures_four 0 = .ok (.aload_n 0, 1) := by decide +kernel
theorem d_mPictures_four_1 : decode b_mPictures_four 1 = .ok (.aload_n 0, 1) := by decide +kernel
theorem d_mPictures_four_2 : decode b_mPictures_four 2 = .ok (.getfield 58, 3) := by decide +kernel
theorem d_mPictures_four_5 : decode b_mPictures_four 5 = .ok (.bipush 77, 2) := by decide +kernel
theorem d_mPictures_four_7 : decode b_mPictures_four 7 = .ok (.if_icmp .ne 10, 3) := by decide +kernel
theorem d_mPictures_four_10 : decode b_mPictures_four 10 = .ok (.iload_n 1, 1) := by decide +kernel
theorem d_mPictures_four_11 : decode b_mPictures_four 11 = .ok (.bipush 16, 2) := by decide +kernel
theorem d_mPictures_four_13 : decode b_mPictures_four 13 = .ok (.ishr, 1) := by decide +kernel
theorem d_mPictures_four_14 : decode b_mPictures_four 14 = .ok (.goto 4, 3) := by decide +kernel
theorem d_mPictures_four_17 : decode b_mPictures_four 17 = .ok (.iload_n 1, 1) := by decide +kernel
theorem d_mPictures_four_18 : decode b_mPictures_four 18 = .ok (.invokevirtual 61, 3) := by decide +kernel
theorem d_mPictures_four_21 : decode b_mPictures_four 21 = .ok (.aload_n 0, 1) := by decide +kernel
theorem d_mPictures_four_22 : decode b_mPictures_four 22 = .ok (.aload_n 0, 1) := by decide +kernel
theorem d_mPictures_four_23 : decode b_mPictures_four 23 = .ok (.getfield 58, 3) := by decide +kernel
theorem d_mPictures_four_26 : decode b_mPictures_four 26 = .ok (.bipush 77, 2) := by decide +kernel
theorem d_mPictures_four_28 : decode b_mPictures_four 28 = .ok (.if_icmp .ne 7, 3) := by decide +kernel
theorem d_mPictures_four_31 : decode b_mPictures_four 31 = .ok (.iload_n 1, 1) := by decide +kernel
theorem d_mPictures_four_32 : decode b_mPictures_four 32 = .ok (.goto 7, 3) := by decide +kernel
theorem d_mPictures_four_35 : decode b_mPictures_four 35 = .ok (.iload_n 1, 1) := by decide +kernel
theorem d_mPictures_four_36 : decode b_mPictures_four 36 = .ok (.bipush 16, 2) := by decide +kernel
theorem d_mPictures_four_38 : decode b_mPictures_four 38 = .ok (.ishr, 1) := by decide +kernel
theorem d_mPictures_four_39 : decode b_mPictures_four 39 = .ok (.invokevirtual 61, 3) := by decide +kernel
theorem d_mPictures_four_42 : decode b_mPictures_four 42 = .ok (.return_, 1) := by decide +kernel
abbrev b_mPictures_begin : ByteArray := prog_18_method_12_code
abbrev y_mPictures_begin : MethodName := ⟨"SheetPrinterModel$Pictures", "begin", "(I)V"⟩
abbrev w_mPictures_begin : List Cond := .code y_mPictures_begin b_mPictures_begin 2 none :: gT
theorem gd_mPictures_begin : GoodIn gT w_mPictures_begin := gW wd_11_125
theorem d_mPictures_begin_0 : decode b_mPictures_begin 0 = .ok (.aload_n 0, 1) := by decide +kernel
theorem d_mPictures_begin_1 : decode b_mPictures_begin 1 = .ok (.iload_n 1, 1) := by decide +kernel
theorem d_mPictures_begin_2 : decode b_mPictures_begin 2 = .ok (.bipush 73, 2) := by decide +kernel
theorem d_mPictures_begin_4 : decode b_mPictures_begin 4 = .ok (.if_icmp .eq 9, 3) := by decide +kernel
theorem d_mPictures_begin_7 : decode b_mPictures_begin 7 = .ok (.iload_n 1, 1) := by decide +kernel
theorem d_mPictures_begin_8 : decode b_mPictures_begin 8 = .ok (.bipush 77, 2) := by decide +kernel
theorem d_mPictures_begin_10 : decode b_mPictures_begin 10 = .ok (.if_icmp .ne 7, 3) := by decide +kernel
theorem d_mPictures_begin_13 : decode b_mPictures_begin 13 = .ok (.iconst 0, 1) := by decide +kernel
theorem d_mPictures_begin_14 : decode b_mPictures_begin 14 = .ok (.goto 4, 3) := by decide +kernel
theorem d_mPictures_begin_17 : decode b_mPictures_begin 17 = .ok (.iconst 1, 1) := by decide +kernel
theorem d_mPictures_begin_18 : decode b_mPictures_begin 18 = .ok (.putfield 37, 3) := by decide +kernel
theorem d_mPictures_begin_21 : decode b_mPictures_begin 21 = .ok (.aload_n 0, 1) := by decide +kernel
theorem d_mPictures_begin_22 : decode b_mPictures_begin 22 = .ok (.getfield 37, 3) := by decide +kernel
theorem d_mPictures_begin_25 : decode b_mPictures_begin 25 = .ok (.ifCond .le 4, 3) := by decide +kernel
theorem d_mPictures_begin_28 : decode b_mPictures_begin 28 = .ok (.return_, 1) := by decide +kernel
theorem d_mPictures_begin_29 : decode b_mPictures_begin 29 = .ok (.aload_n 0, 1) := by decide +kernel
theorem d_mPictures_begin_30 : decode b_mPictures_begin 30 = .ok (.iconst 0, 1) := by decide +kernel
theorem d_mPictures_begin_31 : decode b_mPictures_begin 31 = .ok (.putfield 41, 3) := by decide +kernel
theorem d_mPictures_begin_34 : decode b_mPictures_begin 34 = .ok (.aload_n 0, 1) := by decide +kernel
theorem d_mPictures_begin_35 : decode b_mPictures_begin 35 = .ok (.iload_n 1, 1) := by decide +kernel
theorem d_mPictures_begin_36 : decode b_mPictures_begin 36 = .ok (.putfield 58, 3) := by decide +kernel
theorem d_mPictures_begin_39 : decode b_mPictures_begin 39 = .ok (.aload_n 0, 1) := by decide +kernel
theorem d_mPictures_begin_40 : decode b_mPictures_begin 40 = .ok (.iload_n 1, 1) := by decide +kernel
theorem d_mPictures_begin_41 : decode b_mPictures_begin 41 = .ok (.invokevirtual 50, 3) := by decide +kernel
theorem d_mPictures_begin_44 : decode b_mPictures_begin 44 = .ok (.aload_n 0, 1) := by decide +kernel
theorem d_mPictures_begin_45 : decode b_mPictures_begin 45 = .ok (.iload_n 1, 1) := by decide +kernel
theorem d_mPictures_begin_46 : decode b_mPictures_begin 46 = .ok (.invokevirtual 50, 3) := by decide +kernel
theorem d_mPictures_begin_49 : decode b_mPictures_begin 49 = .ok (.aload_n 0, 1) := by decide +kernel
theorem d_mPictures_begin_50 : decode b_mPictures_begin 50 = .ok (.bipush 42, 2) := by decide +kernel
theorem d_mPictures_begin_52 : decode b_mPictures_begin 52 = .ok (.invokevirtual 61, 3) := by decide +kernel
theorem d_mPictures_begin_55 : decode b_mPictures_begin 55 = .ok (.aload_n 0, 1) := by decide +kernel
theorem d_mPictures_begin_56 : decode b_mPictures_begin 56 = .ok (.iconst 0, 1) := by decide +kernel
theorem d_mPictures_begin_57 : decode b_mPictures_begin 57 = .ok (.invokevirtual 64, 3) := by decide +kernel
theorem d_mPictures_begin_60 : decode b_mPictures_begin 60 = .ok (.aload_n 0, 1) := by decide +kernel
theorem d_mPictures_begin_61 : decode b_mPictures_begin 61 = .ok (.iconst 1, 1) := by decide +kernel
theorem d_mPictures_begin_62 : decode b_mPictures_begin 62 = .ok (.putfield 44, 3) := by decide +kernel
theorem d_mPictures_begin_65 : decode b_mPictures_begin 65 = .ok (.aload_n 0, 1) := by decide +kernel
theorem d_mPictures_begin_66 : decode b_mPictures_begin 66 = .ok (.iconst 0, 1) := by decide +kernel
theorem d_mPictures_begin_67 : decode b_mPictures_begin 67 = .ok (.putfield 67, 3) := by decide +kernel
theorem d_mPictures_begin_70 : decode b_mPictures_begin 70 = .ok (.aload_n 0, 1) := by decide +kernel
theorem d_mPictures_begin_71 : decode b_mPictures_begin 71 = .ok (.iconst 0, 1) := by decide +kernel
theorem d_mPictures_begin_72 : decode b_mPictures_begin 72 = .ok (.putfield 70, 3) := by decide +kernel
theorem d_mPictures_begin_75 : decode b_mPictures_begin 75 = .ok (.aload_n 0, 1) := by decide +kernel
theorem d_mPictures_begin_76 : decode b_mPictures_begin 76 = .ok (.iconst 4, 1) := by decide +kernel
theorem d_mPictures_begin_77 : decode b_mPictures_begin 77 = .ok (.putfield 73, 3) := by decide +kernel
theorem d_mPictures_begin_80 : decode b_mPictures_begin 80 = .ok (.return_, 1) := by decide +kernel
abbrev b_mSheet_init : ByteArray := prog_19_method_1_code
abbrev y_mSheet_init : MethodName := ⟨"SheetPrinterModel$Sheet", "<init>", "(I)V"⟩
abbrev w_mSheet_init : List Cond := .code y_mSheet_init b_mSheet_init 2 none :: gT
theorem gd_mSheet_init : GoodIn gT w_mSheet_init := gW wd_11_18
theorem d_mSheet_init_0 : decode b_mSheet_init 0 = .ok (.aload_n 0, 1) := by decide +kernel
theorem d_mSheet_init_1 : decode b_mSheet_init 1 = .ok (.invokespecial 1, 3) := by decide +kernel
theorem d_mSheet_init_4 : decode b_mSheet_init 4 = .ok (.aload_n 0, 1) := by decide +kernel
theorem d_mSheet_init_5 : decode b_mSheet_init 5 = .ok (.bipush 11, 2) := by decide +kernel
theorem d_mSheet_init_7 : decode b_mSheet_init 7 = .ok (.iload_n 1, 1) := by decide +kernel
theorem d_mSheet_init_8 : decode b_mSheet_init 8 = .ok (.imul, 1) := by decide +kernel
theorem d_mSheet_init_9 : decode b_mSheet_init 9 = .ok (.bipush 63, 2) := by decide +kernel
theorem d_mSheet_init_11 : decode b_mSheet_init 11 = .ok (.iadd, 1) := by decide +kernel
theorem d_mSheet_init_12 : decode b_mSheet_init 12 = .ok (.bipush 64, 2) := by decide +kernel
theorem d_mSheet_init_14 : decode b_mSheet_init 14 = .ok (.idiv, 1) := by decide +kernel
theorem d_mSheet_init_15 : decode b_mSheet_init 15 = .ok (.putfield 7, 3) := by decide +kernel
theorem d_mSheet_init_18 : decode b_mSheet_init 18 = .ok (.aload_n 0, 1) := by decide +kernel
theorem d_mSheet_init_19 : decode b_mSheet_init 19 = .ok (.aload_n 0, 1) := by decide +kernel
theorem d_mSheet_init_20 : decode b_mSheet_init 20 = .ok (.getfield 7, 3) := by decide +kernel
theorem d_mSheet_init_23 : decode b_mSheet_init 23 = .ok (.bipush 17, 2) := by decide +kernel
theorem d_mSheet_init_25 : decode b_mSheet_init 25 = .ok (.imul, 1) := by decide +kernel
theorem d_mSheet_init_26 : decode b_mSheet_init 26 = .ok (.iload_n 1, 1) := by decide +kernel
theorem d_mSheet_init_27 : decode b_mSheet_init 27 = .ok (.imul, 1) := by decide +kernel
theorem d_mSheet_init_28 : decode b_mSheet_init 28 = .ok (.newarray .long, 2) := by decide +kernel
theorem d_mSheet_init_30 : decode b_mSheet_init 30 = .ok (.putfield 13, 3) := by decide +kernel
theorem d_mSheet_init_33 : decode b_mSheet_init 33 = .ok (.return_, 1) := by decide +kernel
abbrev b_mSheet_blank : ByteArray := prog_19_method_2_code
abbrev y_mSheet_blank : MethodName := ⟨"SheetPrinterModel$Sheet", "blank", "()V"⟩
abbrev w_mSheet_blank : List Cond := .code y_mSheet_blank b_mSheet_blank 2 none :: gT
theorem gd_mSheet_blank : GoodIn gT w_mSheet_blank := gW wd_11_115
theorem d_mSheet_blank_0 : decode b_mSheet_blank 0 = .ok (.iconst 0, 1) := by decide +kernel
theorem d_mSheet_blank_1 : decode b_mSheet_blank 1 = .ok (.istore_n 1, 1) := by decide +kernel
theorem d_mSheet_blank_2 : decode b_mSheet_blank 2 = .ok (.iload_n 1, 1) := by decide +kernel
theorem d_mSheet_blank_3 : decode b_mSheet_blank 3 = .ok (.aload_n 0, 1) := by decide +kernel
theorem d_mSheet_blank_4 : decode b_mSheet_blank 4 = .ok (.getfield 7, 3) := by decide +kernel
theorem d_mSheet_blank_7 : decode b_mSheet_blank 7 = .ok (.aload_n 0, 1) := by decide +kernel
theorem d_mSheet_blank_8 : decode b_mSheet_blank 8 = .ok (.getfield 17, 3) := by decide +kernel
theorem d_mSheet_blank_11 : decode b_mSheet_blank 11 = .ok (.imul, 1) := by decide +kernel
theorem d_mSheet_blank_12 : decode b_mSheet_blank 12 = .ok (.if_icmp .ge 23, 3) := by decide +kernel
theorem d_mSheet_blank_15 : decode b_mSheet_blank 15 = .ok (.aload_n 0, 1) := by decide +kernel
theorem d_mSheet_blank_16 : decode b_mSheet_blank 16 = .ok (.getfield 20, 3) := by decide +kernel
theorem d_mSheet_blank_19 : decode b_mSheet_blank 19 = .ok (.ifCond .le 16, 3) := by decide +kernel
theorem d_mSheet_blank_22 : decode b_mSheet_blank 22 = .ok (.aload_n 0, 1) := by decide +kernel
theorem d_mSheet_blank_23 : decode b_mSheet_blank 23 = .ok (.getfield 13, 3) := by decide +kernel
theorem d_mSheet_blank_26 : decode b_mSheet_blank 26 = .ok (.iload_n 1, 1) := by decide +kernel
theorem d_mSheet_blank_27 : decode b_mSheet_blank 27 = .ok (.lconst 0, 1) := by decide +kernel
theorem d_mSheet_blank_28 : decode b_mSheet_blank 28 = .ok (.lastore, 1) := by decide +kernel
theorem d_mSheet_blank_29 : decode b_mSheet_blank 29 = .ok (.iinc 1 1, 3) := by decide +kernel
theorem d_mSheet_blank_32 : decode b_mSheet_blank 32 = .ok (.goto (-30), 3) := by decide +kernel
theorem d_mSheet_blank_35 : decode b_mSheet_blank 35 = .ok (.aload_n 0, 1) := by decide +kernel
theorem d_mSheet_blank_36 : decode b_mSheet_blank 36 = .ok (.iconst 0, 1) := by decide +kernel
theorem d_mSheet_blank_37 : decode b_mSheet_blank 37 = .ok (.putfield 20, 3) := by decide +kernel
theorem d_mSheet_blank_40 : decode b_mSheet_blank 40 = .ok (.aload_n 0, 1) := by decide +kernel
theorem d_mSheet_blank_41 : decode b_mSheet_blank 41 = .ok (.iconst 0, 1) := by decide +kernel
theorem d_mSheet_blank_42 : decode b_mSheet_blank 42 = .ok (.putfield 23, 3) := by decide +kernel
theorem d_mSheet_blank_45 : decode b_mSheet_blank 45 = .ok (.aload_n 0, 1) := by decide +kernel
theorem d_mSheet_blank_46 : decode b_mSheet_blank 46 = .ok (.iconst 0, 1) := by decide +kernel
theorem d_mSheet_blank_47 : decode b_mSheet_blank 47 = .ok (.putfield 26, 3) := by decide +kernel
theorem d_mSheet_blank_50 : decode b_mSheet_blank 50 = .ok (.return_, 1) := by decide +kernel
abbrev at_c_across_2 (dC : Nat → ClassId) (dI : Nat → Nat → Nat)  (A : Nat → Prop) (u : Unit) (t : State) : Prop := match u with
  | _ => va_P (dC, dI) vcl [] t.heap ∧ va_K (dC, dI) vcl [] t ∧ va_D A []
abbrev po_c_across_2  (r : Int32) (u : Unit) : Prop := match u with
  | _ => r = 61200
abbrev q_c_across_2 (dC : Nat → ClassId) (dI : Nat → Nat → Nat)  (A : Nat → Prop) : Array Value → State → Outcome → State → Prop := va_Qi (po_c_across_2 ) (at_c_across_2 dC dI  A) A
abbrev rm_c_across_2 : Room := { frames := 0, cells := 0, slots := 0, locals := 0 }
set_option maxHeartbeats 4000000 in
set_option maxRecDepth 100000 in
theorem c_across_2 (l : Launch) (dC : Nat → ClassId) (dI : Nat → Nat → Nat) (tt : Nat → Nat)  (sz : Nat)  : Met l y_mDesk_across w_mDesk_across rm_c_across_2 (va_Pc [.int 2] (fun U => U.heap.size = sz ∧ va_P (dC, dI) vcl [] U.heap ∧ va_K (dC, dI) vcl [] U ∧ va_D (fun _ => True) [] ∧ SF tt (va_A [] sz) U U.heap)) (q_c_across_2 dC dI  (va_A [] sz)) 0 0 (va_A [] sz) := by
  refine Met.ofW (cc := b_mDesk_across) (maxL := 1) (ret := (some .int)) (by decide) rfl ?_
  intro p e s m args below meth c s₁ B hml hv
  obtain ⟨rfl, hsz, hP, hK, hD0, hF⟩ := hv
  have hx := B.exec
  have hb := B.bytes
  have hr := B.returns
  have hwd : ∀ w ∈ gT, w.before _ s = true := fun w h => atoms_spec (ws := w_mDesk_across) B.pre w (List.mem_cons_of_mem _ h)
  have hown : s.vm.findClass R_mDesk = some m.cls := findClass_of_methodNamed B.named
  have hlocks := B.notSynchronized
  subst hsz
  have hD := hD0.self (sz := s.heap.size)
  generalize hAe : va_A [] s.heap.size = A at hD hF ⊢
  have hA : ∀ q : Nat, s.heap.size ≤ q → A q := fun q h => by rw [← hAe]; exact Or.inr h
  have hS : va_S A s.heap s.heap [] := va_S.rf
  have hP : va_P (dC, dI) vcl [] s.heap := hP
  have hl := lv_entry ([.int 2]) (n := 1) (Nat.le_of_ble_eq_true rfl)
  rw [lg_entry_eq]
  generalize (lg_sl ([.int 2]) ++ List.replicate (1 - (lg_sl ([.int 2])).length) Slot.unset).toArray = ls at hl ⊢
  have hl : lv_has ls 1 [(0, .int 2)] := hl
  refine lv_iload_n hx hb d_mDesk_across_0 rfl (lv_at hl 0 rfl) ?_
  refine lv_iconst (v := 1) hx hb d_mDesk_across_1 (by decide) ?_
  refine lv_icmp_ne (tgt := 10) hx hb d_mDesk_across_2 (by decide) (fun _ => ?_) (fun c2 => absurd c2 (by decide))
  refine lv_iload_n hx hb d_mDesk_across_10 rfl (lv_at hl 0 rfl) ?_
  refine lv_iconst (v := 2) hx hb d_mDesk_across_11 (by decide) ?_
  refine lv_icmp_eq (tgt := 20) hx hb d_mDesk_across_12 (by decide) (fun _ => ?_) (fun c12 => absurd (by decide) c12)
  refine lv_ldc hx hb hown (hwd _ wd_9_59) d_mDesk_across_20 ?_
  refine lv_goto (tgt := 48) hx hb d_mDesk_across_22 (by decide) ?_
  have hP9 := hP.sub (ws' := []) [] rfl
  have hD9 := hD.sub (ws' := []) [] (by decide) rfl
  have hK9 := hK.sub (tys' := []) [] rfl
  exact W.iret (v := 61200) hx hb hr (fun t ht hW => ⟨⟨61200, (), rfl, (show (61200 : Int32) = 61200 from (by first | exact trivial | rfl | simp [*])), by rw [ht]; exact hP9, va_K.moved hW.alike hK9, hD9⟩, hS.F ht⟩) hS.2.2 d_mDesk_across_48

abbrev at_c_down_2 (dC : Nat → ClassId) (dI : Nat → Nat → Nat)  (A : Nat → Prop) (u : Unit) (t : State) : Prop := match u with
  | _ => va_P (dC, dI) vcl [] t.heap ∧ va_K (dC, dI) vcl [] t ∧ va_D A []
abbrev po_c_down_2  (r : Int32) (u : Unit) : Prop := match u with
  | _ => r = 79200
abbrev q_c_down_2 (dC : Nat → ClassId) (dI : Nat → Nat → Nat)  (A : Nat → Prop) : Array Value → State → Outcome → State → Prop := va_Qi (po_c_down_2 ) (at_c_down_2 dC dI  A) A
abbrev rm_c_down_2 : Room := { frames := 0, cells := 0, slots := 0, locals := 0 }
set_option maxHeartbeats 4000000 in
set_option maxRecDepth 100000 in
theorem c_down_2 (l : Launch) (dC : Nat → ClassId) (dI : Nat → Nat → Nat) (tt : Nat → Nat)  (sz : Nat)  : Met l y_mDesk_down w_mDesk_down rm_c_down_2 (va_Pc [.int 2] (fun U => U.heap.size = sz ∧ va_P (dC, dI) vcl [] U.heap ∧ va_K (dC, dI) vcl [] U ∧ va_D (fun _ => True) [] ∧ SF tt (va_A [] sz) U U.heap)) (q_c_down_2 dC dI  (va_A [] sz)) 0 0 (va_A [] sz) := by
  refine Met.ofW (cc := b_mDesk_down) (maxL := 1) (ret := (some .int)) (by decide) rfl ?_
  intro p e s m args below meth c s₁ B hml hv
  obtain ⟨rfl, hsz, hP, hK, hD0, hF⟩ := hv
  have hx := B.exec
  have hb := B.bytes
  have hr := B.returns
  have hwd : ∀ w ∈ gT, w.before _ s = true := fun w h => atoms_spec (ws := w_mDesk_down) B.pre w (List.mem_cons_of_mem _ h)
  have hown : s.vm.findClass R_mDesk = some m.cls := findClass_of_methodNamed B.named
  have hlocks := B.notSynchronized
  subst hsz
  have hD := hD0.self (sz := s.heap.size)
  generalize hAe : va_A [] s.heap.size = A at hD hF ⊢
  have hA : ∀ q : Nat, s.heap.size ≤ q → A q := fun q h => by rw [← hAe]; exact Or.inr h
  have hS : va_S A s.heap s.heap [] := va_S.rf
  have hP : va_P (dC, dI) vcl [] s.heap := hP
  have hl := lv_entry ([.int 2]) (n := 1) (Nat.le_of_ble_eq_true rfl)
  rw [lg_entry_eq]
  generalize (lg_sl ([.int 2]) ++ List.replicate (1 - (lg_sl ([.int 2])).length) Slot.unset).toArray = ls at hl ⊢
  have hl : lv_has ls 1 [(0, .int 2)] := hl
  refine lv_iload_n hx hb d_mDesk_down_0 rfl (lv_at hl 0 rfl) ?_
  refine lv_iconst (v := 1) hx hb d_mDesk_down_1 (by decide) ?_
  refine lv_icmp_ne (tgt := 10) hx hb d_mDesk_down_2 (by decide) (fun _ => ?_) (fun c2 => absurd c2 (by decide))
  refine lv_iload_n hx hb d_mDesk_down_10 rfl (lv_at hl 0 rfl) ?_
  refine lv_iconst (v := 2) hx hb d_mDesk_down_11 (by decide) ?_
  refine lv_icmp_ne (tgt := 20) hx hb d_mDesk_down_12 (by decide) (fun c12 => absurd c12 (by decide)) (fun _ => ?_)
  refine lv_ldc hx hb hown (hwd _ wd_9_51) d_mDesk_down_15 ?_
  refine lv_goto (tgt := 43) hx hb d_mDesk_down_17 (by decide) ?_
  have hP9 := hP.sub (ws' := []) [] rfl
  have hD9 := hD.sub (ws' := []) [] (by decide) rfl
  have hK9 := hK.sub (tys' := []) [] rfl
  exact W.iret (v := 79200) hx hb hr (fun t ht hW => ⟨⟨79200, (), rfl, (show (79200 : Int32) = 79200 from (by first | exact trivial | rfl | simp [*])), by rw [ht]; exact hP9, va_K.moved hW.alike hK9, hD9⟩, hS.F ht⟩) hS.2.2 d_mDesk_down_43

abbrev at_c_Desk_measure_2 (dC : Nat → ClassId) (dI : Nat → Nat → Nat) (h0 : Nat) (k_thrown : Int32) (k_state : Nat) (k_kept : Nat) (k_isKept : Nat) (k_copies : Int32) (k_width : Int32) (k_height : Int32) (k_steps : Nat) (k_phase : Int32) (k_family : Int32) (k_group : Int32) (k_part : Int32) (k_signed : Int32) (k_negative : Int32) (k_whole : Int32) (k_behind : Int32) (k_places : Int32) (k_dataLeft : Int32) (k_last : Int32) (k_dataTo : Int32) (k_bytesCame : Int32) (k_came : Int32) (k_cameX : Int32) (k_cameY : Int32) (k_glyphs : Int32) (k_allGlyphs : Int32) (k_touched : Int32) (k_glyph : Nat) (k_pages : Int32) (k_page : Nat) (k_others : Int32) (k_other : Nat) (k_stored : Int32) (k_store : Nat) (A : Nat → Prop) (u : Unit) (t : State) : Prop := match u with
  | _ => va_P (dC, dI) vcl [(h0, .inr (13, [.int k_thrown, .ref k_state, .ref k_kept, .ref k_isKept, .int 2, .int 0, .int k_copies, .int 57600, .int 79200, .ref k_steps, .int k_phase, .int k_family, .int k_group, .int k_part, .int k_signed, .int k_negative, .int k_whole, .int k_behind, .int k_places, .int k_dataLeft, .int k_last, .int k_dataTo, .int k_bytesCame, .int k_came, .int k_cameX, .int k_cameY, .int k_glyphs, .int k_allGlyphs, .int k_touched, .ref k_glyph, .int k_pages, .ref k_page, .int k_others, .ref k_other, .int k_stored, .ref k_store]))] t.heap ∧ va_K (dC, dI) vcl [] t ∧ va_D A [(h0, .inr (13, [.int k_thrown, .ref k_state, .ref k_kept, .ref k_isKept, .int 2, .int 0, .int k_copies, .int 57600, .int 79200, .ref k_steps, .int k_phase, .int k_family, .int k_group, .int k_part, .int k_signed, .int k_negative, .int k_whole, .int k_behind, .int k_places, .int k_dataLeft, .int k_last, .int k_dataTo, .int k_bytesCame, .int k_came, .int k_cameX, .int k_cameY, .int k_glyphs, .int k_allGlyphs, .int k_touched, .ref k_glyph, .int k_pages, .ref k_page, .int k_others, .ref k_other, .int k_stored, .ref k_store]))]
abbrev po_c_Desk_measure_2 (h0 : Nat) (k_thrown : Int32) (k_state : Nat) (k_kept : Nat) (k_isKept : Nat) (k_copies : Int32) (k_width : Int32) (k_height : Int32) (k_steps : Nat) (k_phase : Int32) (k_family : Int32) (k_group : Int32) (k_part : Int32) (k_signed : Int32) (k_negative : Int32) (k_whole : Int32) (k_behind : Int32) (k_places : Int32) (k_dataLeft : Int32) (k_last : Int32) (k_dataTo : Int32) (k_bytesCame : Int32) (k_came : Int32) (k_cameX : Int32) (k_cameY : Int32) (k_glyphs : Int32) (k_allGlyphs : Int32) (k_touched : Int32) (k_glyph : Nat) (k_pages : Int32) (k_page : Nat) (k_others : Int32) (k_other : Nat) (k_stored : Int32) (k_store : Nat) (u : Unit) : Prop := match u with
  | _ => True
abbrev q_c_Desk_measure_2 (dC : Nat → ClassId) (dI : Nat → Nat → Nat) (h0 : Nat) (k_thrown : Int32) (k_state : Nat) (k_kept : Nat) (k_isKept : Nat) (k_copies : Int32) (k_width : Int32) (k_height : Int32) (k_steps : Nat) (k_phase : Int32) (k_family : Int32) (k_group : Int32) (k_part : Int32) (k_signed : Int32) (k_negative : Int32) (k_whole : Int32) (k_behind : Int32) (k_places : Int32) (k_dataLeft : Int32) (k_last : Int32) (k_dataTo : Int32) (k_bytesCame : Int32) (k_came : Int32) (k_cameX : Int32) (k_cameY : Int32) (k_glyphs : Int32) (k_allGlyphs : Int32) (k_touched : Int32) (k_glyph : Nat) (k_pages : Int32) (k_page : Nat) (k_others : Int32) (k_other : Nat) (k_stored : Int32) (k_store : Nat) (A : Nat → Prop) : Array Value → State → Outcome → State → Prop := va_Qv (po_c_Desk_measure_2 h0 k_thrown k_state k_kept k_isKept k_copies k_width k_height k_steps k_phase k_family k_group k_part k_signed k_negative k_whole k_behind k_places k_dataLeft k_last k_dataTo k_bytesCame k_came k_cameX k_cameY k_glyphs k_allGlyphs k_touched k_glyph k_pages k_page k_others k_other k_stored k_store) (at_c_Desk_measure_2 dC dI h0 k_thrown k_state k_kept k_isKept k_copies k_width k_height k_steps k_phase k_family k_group k_part k_signed k_negative k_whole k_behind k_places k_dataLeft k_last k_dataTo k_bytesCame k_came k_cameX k_cameY k_glyphs k_allGlyphs k_touched k_glyph k_pages k_page k_others k_other k_stored k_store A) A
abbrev rm_c_Desk_measure_2 : Room := { frames := 1, cells := 0, slots := 0, locals := 20 }
set_option maxHeartbeats 4000000 in
set_option maxRecDepth 100000 in
theorem c_Desk_measure_2 (l : Launch) (dC : Nat → ClassId) (dI : Nat → Nat → Nat) (tt : Nat → Nat) (h0 : Nat) (k_thrown : Int32) (k_state : Nat) (k_kept : Nat) (k_isKept : Nat) (k_copies : Int32) (k_width : Int32) (k_height : Int32) (k_steps : Nat) (k_phase : Int32) (k_family : Int32) (k_group : Int32) (k_part : Int32) (k_signed : Int32) (k_negative : Int32) (k_whole : Int32) (k_behind : Int32) (k_places : Int32) (k_dataLeft : Int32) (k_last : Int32) (k_dataTo : Int32) (k_bytesCame : Int32) (k_came : Int32) (k_cameX : Int32) (k_cameY : Int32) (k_glyphs : Int32) (k_allGlyphs : Int32) (k_touched : Int32) (k_glyph : Nat) (k_pages : Int32) (k_page : Nat) (k_others : Int32) (k_other : Nat) (k_stored : Int32) (k_store : Nat) (sz : Nat)  : Met l y_mDesk_measure w_mDesk_measure rm_c_Desk_measure_2 (va_Pc [.ref h0] (fun U => U.heap.size = sz ∧ va_P (dC, dI) vcl [(h0, .inr (13, [.int k_thrown, .ref k_state, .ref k_kept, .ref k_isKept, .int 2, .int 0, .int k_copies, .int k_width, .int k_height, .ref k_steps, .int k_phase, .int k_family, .int k_group, .int k_part, .int k_signed, .int k_negative, .int k_whole, .int k_behind, .int k_places, .int k_dataLeft, .int k_last, .int k_dataTo, .int k_bytesCame, .int k_came, .int k_cameX, .int k_cameY, .int k_glyphs, .int k_allGlyphs, .int k_touched, .ref k_glyph, .int k_pages, .ref k_page, .int k_others, .ref k_other, .int k_stored, .ref k_store]))] U.heap ∧ va_K (dC, dI) vcl [] U ∧ va_D (fun _ => True) [(h0, .inr (13, [.int k_thrown, .ref k_state, .ref k_kept, .ref k_isKept, .int 2, .int 0, .int k_copies, .int k_width, .int k_height, .ref k_steps, .int k_phase, .int k_family, .int k_group, .int k_part, .int k_signed, .int k_negative, .int k_whole, .int k_behind, .int k_places, .int k_dataLeft, .int k_last, .int k_dataTo, .int k_bytesCame, .int k_came, .int k_cameX, .int k_cameY, .int k_glyphs, .int k_allGlyphs, .int k_touched, .ref k_glyph, .int k_pages, .ref k_page, .int k_others, .ref k_other, .int k_stored, .ref k_store]))] ∧ SF tt (va_A [(h0, .inr (13, [.int k_thrown, .ref k_state, .ref k_kept, .ref k_isKept, .int 2, .int 0, .int k_copies, .int k_width, .int k_height, .ref k_steps, .int k_phase, .int k_family, .int k_group, .int k_part, .int k_signed, .int k_negative, .int k_whole, .int k_behind, .int k_places, .int k_dataLeft, .int k_last, .int k_dataTo, .int k_bytesCame, .int k_came, .int k_cameX, .int k_cameY, .int k_glyphs, .int k_allGlyphs, .int k_touched, .ref k_glyph, .int k_pages, .ref k_page, .int k_others, .ref k_other, .int k_stored, .ref k_store]))] sz) U U.heap)) (q_c_Desk_measure_2 dC dI h0 k_thrown k_state k_kept k_isKept k_copies k_width k_height k_steps k_phase k_family k_group k_part k_signed k_negative k_whole k_behind k_places k_dataLeft k_last k_dataTo k_bytesCame k_came k_cameX k_cameY k_glyphs k_allGlyphs k_touched k_glyph k_pages k_page k_others k_other k_stored k_store (va_A [(h0, .inr (13, [.int k_thrown, .ref k_state, .ref k_kept, .ref k_isKept, .int 2, .int 0, .int k_copies, .int k_width, .int k_height, .ref k_steps, .int k_phase, .int k_family, .int k_group, .int k_part, .int k_signed, .int k_negative, .int k_whole, .int k_behind, .int k_places, .int k_dataLeft, .int k_last, .int k_dataTo, .int k_bytesCame, .int k_came, .int k_cameX, .int k_cameY, .int k_glyphs, .int k_allGlyphs, .int k_touched, .ref k_glyph, .int k_pages, .ref k_page, .int k_others, .ref k_other, .int k_stored, .ref k_store]))] sz)) 0 0 (va_A [(h0, .inr (13, [.int k_thrown, .ref k_state, .ref k_kept, .ref k_isKept, .int 2, .int 0, .int k_copies, .int k_width, .int k_height, .ref k_steps, .int k_phase, .int k_family, .int k_group, .int k_part, .int k_signed, .int k_negative, .int k_whole, .int k_behind, .int k_places, .int k_dataLeft, .int k_last, .int k_dataTo, .int k_bytesCame, .int k_came, .int k_cameX, .int k_cameY, .int k_glyphs, .int k_allGlyphs, .int k_touched, .ref k_glyph, .int k_pages, .ref k_page, .int k_others, .ref k_other, .int k_stored, .ref k_store]))] sz) := by
  refine Met.ofW (cc := b_mDesk_measure) (maxL := 2) (ret := none) (by decide) rfl ?_
  intro p e s m args below meth c s₁ B hml hv
  obtain ⟨rfl, hsz, hP, hK, hD0, hF⟩ := hv
  have hx := B.exec
  have hb := B.bytes
  have hr := B.returns
  have hwd : ∀ w ∈ gT, w.before _ s = true := fun w h => atoms_spec (ws := w_mDesk_measure) B.pre w (List.mem_cons_of_mem _ h)
  have hown : s.vm.findClass R_mDesk = some m.cls := findClass_of_methodNamed B.named
  have hlocks := B.notSynchronized
  subst hsz
  have hD := hD0.self (sz := s.heap.size)
  generalize hAe : va_A [(h0, .inr (13, [.int k_thrown, .ref k_state, .ref k_kept, .ref k_isKept, .int 2, .int 0, .int k_copies, .int k_width, .int k_height, .ref k_steps, .int k_phase, .int k_family, .int k_group, .int k_part, .int k_signed, .int k_negative, .int k_whole, .int k_behind, .int k_places, .int k_dataLeft, .int k_last, .int k_dataTo, .int k_bytesCame, .int k_came, .int k_cameX, .int k_cameY, .int k_glyphs, .int k_allGlyphs, .int k_touched, .ref k_glyph, .int k_pages, .ref k_page, .int k_others, .ref k_other, .int k_stored, .ref k_store]))] s.heap.size = A at hD hF ⊢
  have hA : ∀ q : Nat, s.heap.size ≤ q → A q := fun q h => by rw [← hAe]; exact Or.inr h
  have hS : va_S A s.heap s.heap [] := va_S.rf
  have hP : va_P (dC, dI) vcl [(h0, .inr (13, [.int k_thrown, .ref k_state, .ref k_kept, .ref k_isKept, .int 2, .int 0, .int k_copies, .int k_width, .int k_height, .ref k_steps, .int k_phase, .int k_family, .int k_group, .int k_part, .int k_signed, .int k_negative, .int k_whole, .int k_behind, .int k_places, .int k_dataLeft, .int k_last, .int k_dataTo, .int k_bytesCame, .int k_came, .int k_cameX, .int k_cameY, .int k_glyphs, .int k_allGlyphs, .int k_touched, .ref k_glyph, .int k_pages, .ref k_page, .int k_others, .ref k_other, .int k_stored, .ref k_store]))] s.heap := hP
  have hl := lv_entry ([.ref h0]) (n := 2) (Nat.le_of_ble_eq_true rfl)
  rw [lg_entry_eq]
  generalize (lg_sl ([.ref h0]) ++ List.replicate (2 - (lg_sl ([.ref h0])).length) Slot.unset).toArray = ls at hl ⊢
  have hl : lv_has ls 2 [(0, .ref h0)] := hl
  refine lv_aload_n hx hb d_mDesk_measure_0 rfl (lv_at hl 0 rfl) ?_
  refine va_get (D := (dC, dI)) (ci := 13) (v := .int 0) (C := R_mDesk) (T := F_mDesk) (N := 36) hx hb hwd i_mDesk hown hK hP 0 rfl rfl 5 (by decide) (hwd _ wd_9_84) (fun _ h9 => h9) rfl d_mDesk_measure_1 ?_
  refine lv_iconst (v := 2) hx hb d_mDesk_measure_4 (by decide) ?_
  refine lv_irem hx hb d_mDesk_measure_5 (by decide) ?_
  refine lv_topi (fun y_1 ey_1 => ?_)
  obtain rfl : y_1 = (0 : Int32) := ey_1.trans (by decide)
  refine lv_iconst (v := 1) hx hb d_mDesk_measure_6 (by decide) ?_
  refine lv_icmp_ne (tgt := 14) hx hb d_mDesk_measure_7 (by decide) (fun _ => ?_) (fun c7 => absurd c7 (by decide))
  refine lv_iconst (v := 0) hx hb d_mDesk_measure_14 (by decide) ?_
  refine lv_istore_n (lv' := [(1, .int 0), (0, .ref h0)]) hx hb d_mDesk_measure_15 rfl hl (by decide) rfl ?_
  clear hl
  intro ls hl
  refine lv_aload_n hx hb d_mDesk_measure_16 rfl (lv_at hl 1 rfl) ?_
  refine lv_iload_n hx hb d_mDesk_measure_17 rfl (lv_at hl 0 rfl) ?_
  refine lv_if_eq (tgt := 35) hx hb d_mDesk_measure_18 (by decide) (fun _ => ?_) (fun c18 => absurd (by decide) c18)
  refine lv_aload_n hx hb d_mDesk_measure_35 rfl (lv_at hl 1 rfl) ?_
  refine va_get (D := (dC, dI)) (ci := 13) (v := .int 2) (C := R_mDesk) (T := F_mDesk) (N := 36) hx hb hwd i_mDesk hown hK hP 0 rfl rfl 4 (by decide) (hwd _ wd_9_82) (fun _ h9 => h9) rfl d_mDesk_measure_36 ?_
  have hPc := hP.sub (ws' := []) [] rfl
  have hDc := hD.sub (ws' := []) [] (by decide) rfl
  have hKc := hK.sub (tys' := []) [] rfl
  have hFc := va_free (wc := []) hD hS hA [] rfl
  refine va_calli (va_runS (As := [.int 2]) (rest := [.ref h0]) ⟨hx, hb, hml, hown, hwd⟩ (c_across_2 l dC dI tt  s.heap.size ) (va_cwS 1 hwd (gS gd_mDesk_across wd_9_55 wd_9_56 wd_1_17) rfl rfl rfl (by decide +kernel) ⟨Nat.le_of_ble_eq_true rfl, Nat.le_of_ble_eq_true rfl⟩) ⟨fun a U g mk q => by obtain ⟨q0, q1, qP, qK, qD, qF⟩ := q; exact ⟨q0, q1, qP, va_K.moved (u := U) (U := U.calling g mk a) (Vm.Alike.refl U.vm) qK, qD, SF.same (u := U) (U := U.calling g mk a) rfl qF⟩, fun U hU hW => ⟨rfl, by rw [hU], by rw [hU]; exact hPc, va_K.moved hW.alike hKc, hDc.weaken (fun _ _ _ _ => trivial), by rw [hU]; exact SF.narrow (SF.moved hW (SF.kept hF (fun a h1 h2 => hS.2.1 a h1 h2))) hFc⟩⟩ rfl rfl hl.1 rfl (lv_room (Nat.le_of_ble_eq_true rfl)) d_mDesk_measure_39 ⟨Nat.le_of_ble_eq_true rfl, Nat.le_of_ble_eq_true rfl⟩) hS (fun q _ h => hFc q h) hFc ?_
  clear hPc hDc hKc hS
  intro r_2 u_3 t H1 locs ht hvm hw hB hz1 hk1 hS
  obtain ⟨hP1, hK1, hD1⟩ := hB
  rw [ht] at hP1
  have hK1 := va_K.moved hvm.symm hK1
  try dsimp only at hw
  have hJ := va_join (wr := [(h0, .inr (13, [.int k_thrown, .ref k_state, .ref k_kept, .ref k_isKept, .int 2, .int 0, .int k_copies, .int k_width, .int k_height, .ref k_steps, .int k_phase, .int k_family, .int k_group, .int k_part, .int k_signed, .int k_negative, .int k_whole, .int k_behind, .int k_places, .int k_dataLeft, .int k_last, .int k_dataTo, .int k_bytesCame, .int k_came, .int k_cameX, .int k_cameY, .int k_glyphs, .int k_allGlyphs, .int k_touched, .ref k_glyph, .int k_pages, .ref k_page, .int k_others, .ref k_other, .int k_stored, .ref k_store]))]) (w1 := []) hP hD [] [0] rfl rfl (by decide) (by decide) hk1 hFc hP1 hD1
  clear hP hD hk1 hFc hP1 hD1 hz1
  obtain ⟨hP, hD⟩ := hJ
  clear hK1 ht hvm
  generalize H1 = H at hP hS ⊢
  replace hP : va_P (dC, dI) vcl [(h0, .inr (13, [.int k_thrown, .ref k_state, .ref k_kept, .ref k_isKept, .int 2, .int 0, .int k_copies, .int k_width, .int k_height, .ref k_steps, .int k_phase, .int k_family, .int k_group, .int k_part, .int k_signed, .int k_negative, .int k_whole, .int k_behind, .int k_places, .int k_dataLeft, .int k_last, .int k_dataTo, .int k_bytesCame, .int k_came, .int k_cameX, .int k_cameY, .int k_glyphs, .int k_allGlyphs, .int k_touched, .ref k_glyph, .int k_pages, .ref k_page, .int k_others, .ref k_other, .int k_stored, .ref k_store]))] H := hP
  replace hD : va_D A [(h0, .inr (13, [.int k_thrown, .ref k_state, .ref k_kept, .ref k_isKept, .int 2, .int 0, .int k_copies, .int k_width, .int k_height, .ref k_steps, .int k_phase, .int k_family, .int k_group, .int k_part, .int k_signed, .int k_negative, .int k_whole, .int k_behind, .int k_places, .int k_dataLeft, .int k_last, .int k_dataTo, .int k_bytesCame, .int k_came, .int k_cameX, .int k_cameY, .int k_glyphs, .int k_allGlyphs, .int k_touched, .ref k_glyph, .int k_pages, .ref k_page, .int k_others, .ref k_other, .int k_stored, .ref k_store]))] := hD
  obtain rfl := hw
  refine lv_sipush (v := 3600) hx hb d_mDesk_measure_42 (by decide) ?_
  refine lv_isub hx hb d_mDesk_measure_45 ?_
  refine lv_topi (fun y_4 ey_4 => ?_)
  obtain rfl : y_4 = (57600 : Int32) := ey_4.trans (by decide)
  refine va_put (D := (dC, dI)) (ci := 13) (v := .int 57600) (ty := .int) (C := R_mDesk) (T := F_mDesk) (N := 36) hx hb hwd i_mDesk t_mDesk to_mDesk no_mDesk hown hK hP hD hS 0 rfl rfl 7 (by decide) (hwd _ wd_9_86) (fun _ h9 => h9) rfl (by decide +kernel) rfl rfl (Nat.le_of_ble_eq_true rfl) d_mDesk_measure_46 ?_
  clear hP hD hS
  intro H locs hP hD hS
  replace hP : va_P (dC, dI) vcl [(h0, .inr (13, [.int k_thrown, .ref k_state, .ref k_kept, .ref k_isKept, .int 2, .int 0, .int k_copies, .int 57600, .int k_height, .ref k_steps, .int k_phase, .int k_family, .int k_group, .int k_part, .int k_signed, .int k_negative, .int k_whole, .int k_behind, .int k_places, .int k_dataLeft, .int k_last, .int k_dataTo, .int k_bytesCame, .int k_came, .int k_cameX, .int k_cameY, .int k_glyphs, .int k_allGlyphs, .int k_touched, .ref k_glyph, .int k_pages, .ref k_page, .int k_others, .ref k_other, .int k_stored, .ref k_store]))] H := hP
  replace hD : va_D A [(h0, .inr (13, [.int k_thrown, .ref k_state, .ref k_kept, .ref k_isKept, .int 2, .int 0, .int k_copies, .int 57600, .int k_height, .ref k_steps, .int k_phase, .int k_family, .int k_group, .int k_part, .int k_signed, .int k_negative, .int k_whole, .int k_behind, .int k_places, .int k_dataLeft, .int k_last, .int k_dataTo, .int k_bytesCame, .int k_came, .int k_cameX, .int k_cameY, .int k_glyphs, .int k_allGlyphs, .int k_touched, .ref k_glyph, .int k_pages, .ref k_page, .int k_others, .ref k_other, .int k_stored, .ref k_store]))] := hD
  refine lv_aload_n hx hb d_mDesk_measure_49 rfl (lv_at hl 1 rfl) ?_
  refine lv_iload_n hx hb d_mDesk_measure_50 rfl (lv_at hl 0 rfl) ?_
  refine lv_if_eq (tgt := 64) hx hb d_mDesk_measure_51 (by decide) (fun _ => ?_) (fun c51 => absurd (by decide) c51)
  refine lv_aload_n hx hb d_mDesk_measure_64 rfl (lv_at hl 1 rfl) ?_
  refine va_get (D := (dC, dI)) (ci := 13) (v := .int 2) (C := R_mDesk) (T := F_mDesk) (N := 36) hx hb hwd i_mDesk hown hK hP 0 rfl rfl 4 (by decide) (hwd _ wd_9_82) (fun _ h9 => h9) rfl d_mDesk_measure_65 ?_
  have hPc := hP.sub (ws' := []) [] rfl
  have hDc := hD.sub (ws' := []) [] (by decide) rfl
  have hKc := hK.sub (tys' := []) [] rfl
  have hFc := va_free (wc := []) hD hS hA [] rfl
  refine va_calli (va_runS (As := [.int 2]) (rest := [.ref h0]) ⟨hx, hb, hml, hown, hwd⟩ (c_down_2 l dC dI tt  H.size ) (va_cwS 1 hwd (gS gd_mDesk_down wd_9_47 wd_9_48 wd_1_17) rfl rfl rfl (by decide +kernel) ⟨Nat.le_of_ble_eq_true rfl, Nat.le_of_ble_eq_true rfl⟩) ⟨fun a U g mk q => by obtain ⟨q0, q1, qP, qK, qD, qF⟩ := q; exact ⟨q0, q1, qP, va_K.moved (u := U) (U := U.calling g mk a) (Vm.Alike.refl U.vm) qK, qD, SF.same (u := U) (U := U.calling g mk a) rfl qF⟩, fun U hU hW => ⟨rfl, by rw [hU], by rw [hU]; exact hPc, va_K.moved hW.alike hKc, hDc.weaken (fun _ _ _ _ => trivial), by rw [hU]; exact SF.narrow (SF.moved hW (SF.kept hF (fun a h1 h2 => hS.2.1 a h1 h2))) hFc⟩⟩ rfl rfl hl.1 rfl (lv_room (Nat.le_of_ble_eq_true rfl)) d_mDesk_measure_68 ⟨Nat.le_of_ble_eq_true rfl, Nat.le_of_ble_eq_true rfl⟩) hS (fun q _ h => hFc q h) hFc ?_
  clear hPc hDc hKc hS
  intro r_5 u_6 t H1 locs ht hvm hw hB hz1 hk1 hS
  obtain ⟨hP1, hK1, hD1⟩ := hB
  rw [ht] at hP1
  have hK1 := va_K.moved hvm.symm hK1
  try dsimp only at hw
  have hJ := va_join (wr := [(h0, .inr (13, [.int k_thrown, .ref k_state, .ref k_kept, .ref k_isKept, .int 2, .int 0, .int k_copies, .int 57600, .int k_height, .ref k_steps, .int k_phase, .int k_family, .int k_group, .int k_part, .int k_signed, .int k_negative, .int k_whole, .int k_behind, .int k_places, .int k_dataLeft, .int k_last, .int k_dataTo, .int k_bytesCame, .int k_came, .int k_cameX, .int k_cameY, .int k_glyphs, .int k_allGlyphs, .int k_touched, .ref k_glyph, .int k_pages, .ref k_page, .int k_others, .ref k_other, .int k_stored, .ref k_store]))]) (w1 := []) hP hD [] [0] rfl rfl (by decide) (by decide) hk1 hFc hP1 hD1
  clear hP hD hk1 hFc hP1 hD1 hz1
  obtain ⟨hP, hD⟩ := hJ
  clear hK1 ht hvm
  generalize H1 = H at hP hS ⊢
  replace hP : va_P (dC, dI) vcl [(h0, .inr (13, [.int k_thrown, .ref k_state, .ref k_kept, .ref k_isKept, .int 2, .int 0, .int k_copies, .int 57600, .int k_height, .ref k_steps, .int k_phase, .int k_family, .int k_group, .int k_part, .int k_signed, .int k_negative, .int k_whole, .int k_behind, .int k_places, .int k_dataLeft, .int k_last, .int k_dataTo, .int k_bytesCame, .int k_came, .int k_cameX, .int k_cameY, .int k_glyphs, .int k_allGlyphs, .int k_touched, .ref k_glyph, .int k_pages, .ref k_page, .int k_others, .ref k_other, .int k_stored, .ref k_store]))] H := hP
  replace hD : va_D A [(h0, .inr (13, [.int k_thrown, .ref k_state, .ref k_kept, .ref k_isKept, .int 2, .int 0, .int k_copies, .int 57600, .int k_height, .ref k_steps, .int k_phase, .int k_family, .int k_group, .int k_part, .int k_signed, .int k_negative, .int k_whole, .int k_behind, .int k_places, .int k_dataLeft, .int k_last, .int k_dataTo, .int k_bytesCame, .int k_came, .int k_cameX, .int k_cameY, .int k_glyphs, .int k_allGlyphs, .int k_touched, .ref k_glyph, .int k_pages, .ref k_page, .int k_others, .ref k_other, .int k_stored, .ref k_store]))] := hD
  obtain rfl := hw
  refine va_put (D := (dC, dI)) (ci := 13) (v := .int 79200) (ty := .int) (C := R_mDesk) (T := F_mDesk) (N := 36) hx hb hwd i_mDesk t_mDesk to_mDesk no_mDesk hown hK hP hD hS 0 rfl rfl 8 (by decide) (hwd _ wd_9_87) (fun _ h9 => h9) rfl (by decide +kernel) rfl rfl (Nat.le_of_ble_eq_true rfl) d_mDesk_measure_71 ?_
  clear hP hD hS
  intro H locs hP hD hS
  replace hP : va_P (dC, dI) vcl [(h0, .inr (13, [.int k_thrown, .ref k_state, .ref k_kept, .ref k_isKept, .int 2, .int 0, .int k_copies, .int 57600, .int 79200, .ref k_steps, .int k_phase, .int k_family, .int k_group, .int k_part, .int k_signed, .int k_negative, .int k_whole, .int k_behind, .int k_places, .int k_dataLeft, .int k_last, .int k_dataTo, .int k_bytesCame, .int k_came, .int k_cameX, .int k_cameY, .int k_glyphs, .int k_allGlyphs, .int k_touched, .ref k_glyph, .int k_pages, .ref k_page, .int k_others, .ref k_other, .int k_stored, .ref k_store]))] H := hP
  replace hD : va_D A [(h0, .inr (13, [.int k_thrown, .ref k_state, .ref k_kept, .ref k_isKept, .int 2, .int 0, .int k_copies, .int 57600, .int 79200, .ref k_steps, .int k_phase, .int k_family, .int k_group, .int k_part, .int k_signed, .int k_negative, .int k_whole, .int k_behind, .int k_places, .int k_dataLeft, .int k_last, .int k_dataTo, .int k_bytesCame, .int k_came, .int k_cameX, .int k_cameY, .int k_glyphs, .int k_allGlyphs, .int k_touched, .ref k_glyph, .int k_pages, .ref k_page, .int k_others, .ref k_other, .int k_stored, .ref k_store]))] := hD
  have hP9 := hP.sub (ws' := [(h0, .inr (13, [.int k_thrown, .ref k_state, .ref k_kept, .ref k_isKept, .int 2, .int 0, .int k_copies, .int 57600, .int 79200, .ref k_steps, .int k_phase, .int k_family, .int k_group, .int k_part, .int k_signed, .int k_negative, .int k_whole, .int k_behind, .int k_places, .int k_dataLeft, .int k_last, .int k_dataTo, .int k_bytesCame, .int k_came, .int k_cameX, .int k_cameY, .int k_glyphs, .int k_allGlyphs, .int k_touched, .ref k_glyph, .int k_pages, .ref k_page, .int k_others, .ref k_other, .int k_stored, .ref k_store]))]) [0] rfl
  have hD9 := hD.sub (ws' := [(h0, .inr (13, [.int k_thrown, .ref k_state, .ref k_kept, .ref k_isKept, .int 2, .int 0, .int k_copies, .int 57600, .int 79200, .ref k_steps, .int k_phase, .int k_family, .int k_group, .int k_part, .int k_signed, .int k_negative, .int k_whole, .int k_behind, .int k_places, .int k_dataLeft, .int k_last, .int k_dataTo, .int k_bytesCame, .int k_came, .int k_cameX, .int k_cameY, .int k_glyphs, .int k_allGlyphs, .int k_touched, .ref k_glyph, .int k_pages, .ref k_page, .int k_others, .ref k_other, .int k_stored, .ref k_store]))]) [0] (by decide) rfl
  have hK9 := hK.sub (tys' := []) [] rfl
  exact W.vret hx hb hr (fun t ht hW => ⟨⟨(), rfl, (trivial), by rw [ht]; exact hP9, va_K.moved hW.alike hK9, hD9⟩, hS.F ht⟩) hS.2.2 d_mDesk_measure_74

abbrev at_c_within_a (dC : Nat → ClassId) (dI : Nat → Nat → Nat)  (A : Nat → Prop) (u : Unit) (t : State) : Prop := match u with
  | _ => va_P (dC, dI) vcl [] t.heap ∧ va_K (dC, dI) vcl [] t ∧ va_D A []
abbrev po_c_within_a  (r : Int32) (u : Unit) : Prop := match u with
  | _ => r = 0
abbrev q_c_within_a (dC : Nat → ClassId) (dI : Nat → Nat → Nat)  (A : Nat → Prop) : Array Value → State → Outcome → State → Prop := va_Qi (po_c_within_a ) (at_c_within_a dC dI  A) A
abbrev rm_c_within_a : Room := { frames := 0, cells := 0, slots := 0, locals := 0 }
set_option maxHeartbeats 4000000 in
set_option maxRecDepth 100000 in
theorem c_within_a (l : Launch) (dC : Nat → ClassId) (dI : Nat → Nat → Nat) (tt : Nat → Nat)  (sz : Nat)  : Met l y_mDesk_within w_mDesk_within rm_c_within_a (va_Pc [.long 0, .int 57600] (fun U => U.heap.size = sz ∧ va_P (dC, dI) vcl [] U.heap ∧ va_K (dC, dI) vcl [] U ∧ va_D (fun _ => True) [] ∧ SF tt (va_A [] sz) U U.heap)) (q_c_within_a dC dI  (va_A [] sz)) 0 0 (va_A [] sz) := by
  refine Met.ofW (cc := b_mDesk_within) (maxL := 3) (ret := (some .int)) (by decide) rfl ?_
  intro p e s m args below meth c s₁ B hml hv
  obtain ⟨rfl, hsz, hP, hK, hD0, hF⟩ := hv
  have hx := B.exec
  have hb := B.bytes
  have hr := B.returns
  have hwd : ∀ w ∈ gT, w.before _ s = true := fun w h => atoms_spec (ws := w_mDesk_within) B.pre w (List.mem_cons_of_mem _ h)
  have hown : s.vm.findClass R_mDesk = some m.cls := findClass_of_methodNamed B.named
  have hlocks := B.notSynchronized
  subst hsz
  have hD := hD0.self (sz := s.heap.size)
  generalize hAe : va_A [] s.heap.size = A at hD hF ⊢
  have hA : ∀ q : Nat, s.heap.size ≤ q → A q := fun q h => by rw [← hAe]; exact Or.inr h
  have hS : va_S A s.heap s.heap [] := va_S.rf
  have hP : va_P (dC, dI) vcl [] s.heap := hP
  have hl := lv_entry ([.long 0, .int 57600]) (n := 3) (Nat.le_of_ble_eq_true rfl)
  rw [lg_entry_eq]
  generalize (lg_sl ([.long 0, .int 57600]) ++ List.replicate (3 - (lg_sl ([.long 0, .int 57600])).length) Slot.unset).toArray = ls at hl ⊢
  have hl : lv_has ls 3 [(0, .long 0), (2, .int 57600)] := hl
  refine lv_lload_n hx hb d_mDesk_within_0 rfl (lv_at hl 0 rfl) ?_
  refine lv_lconst (v := 0) hx hb d_mDesk_within_1 (by decide) ?_
  refine W.lcmp hx hb d_mDesk_within_2 ?_
  refine lv_topi (fun y_1 ey_1 => ?_)
  obtain rfl : y_1 = (0 : Int32) := ey_1.trans (by decide)
  refine lv_if_ge (tgt := 10) hx hb d_mDesk_within_3 (by decide) (fun _ => ?_) (fun c3 => absurd (by decide) c3)
  refine lv_lload_n hx hb d_mDesk_within_10 rfl (lv_at hl 0 rfl) ?_
  refine lv_iload_n hx hb d_mDesk_within_11 rfl (lv_at hl 1 rfl) ?_
  refine lv_i2l (v := 57600) hx hb d_mDesk_within_12 (by decide) ?_
  refine W.lcmp hx hb d_mDesk_within_13 ?_
  refine lv_topi (fun y_2 ey_2 => ?_)
  obtain rfl : y_2 = ((-1) : Int32) := ey_2.trans (by decide)
  refine lv_if_le (tgt := 21) hx hb d_mDesk_within_14 (by decide) (fun _ => ?_) (fun c14 => absurd (by decide) c14)
  refine lv_lload_n hx hb d_mDesk_within_21 rfl (lv_at hl 0 rfl) ?_
  refine lv_l2i (v := 0) hx hb d_mDesk_within_22 (by decide) ?_
  have hP9 := hP.sub (ws' := []) [] rfl
  have hD9 := hD.sub (ws' := []) [] (by decide) rfl
  have hK9 := hK.sub (tys' := []) [] rfl
  exact W.iret (v := 0) hx hb hr (fun t ht hW => ⟨⟨0, (), rfl, (show (0 : Int32) = 0 from (by first | exact trivial | rfl | simp [*])), by rw [ht]; exact hP9, va_K.moved hW.alike hK9, hD9⟩, hS.F ht⟩) hS.2.2 d_mDesk_within_23

abbrev at_c_within_b (dC : Nat → ClassId) (dI : Nat → Nat → Nat)  (A : Nat → Prop) (u : Unit) (t : State) : Prop := match u with
  | _ => va_P (dC, dI) vcl [] t.heap ∧ va_K (dC, dI) vcl [] t ∧ va_D A []
abbrev po_c_within_b  (r : Int32) (u : Unit) : Prop := match u with
  | _ => r = 4500
abbrev q_c_within_b (dC : Nat → ClassId) (dI : Nat → Nat → Nat)  (A : Nat → Prop) : Array Value → State → Outcome → State → Prop := va_Qi (po_c_within_b ) (at_c_within_b dC dI  A) A
abbrev rm_c_within_b : Room := { frames := 0, cells := 0, slots := 0, locals := 0 }
set_option maxHeartbeats 4000000 in
set_option maxRecDepth 100000 in
theorem c_within_b (l : Launch) (dC : Nat → ClassId) (dI : Nat → Nat → Nat) (tt : Nat → Nat)  (sz : Nat)  : Met l y_mDesk_within w_mDesk_within rm_c_within_b (va_Pc [.long 4500, .int 79200] (fun U => U.heap.size = sz ∧ va_P (dC, dI) vcl [] U.heap ∧ va_K (dC, dI) vcl [] U ∧ va_D (fun _ => True) [] ∧ SF tt (va_A [] sz) U U.heap)) (q_c_within_b dC dI  (va_A [] sz)) 0 0 (va_A [] sz) := by
  refine Met.ofW (cc := b_mDesk_within) (maxL := 3) (ret := (some .int)) (by decide) rfl ?_
  intro p e s m args below meth c s₁ B hml hv
  obtain ⟨rfl, hsz, hP, hK, hD0, hF⟩ := hv
  have hx := B.exec
  have hb := B.bytes
  have hr := B.returns
  have hwd : ∀ w ∈ gT, w.before _ s = true := fun w h => atoms_spec (ws := w_mDesk_within) B.pre w (List.mem_cons_of_mem _ h)
  have hown : s.vm.findClass R_mDesk = some m.cls := findClass_of_methodNamed B.named
  have hlocks := B.notSynchronized
  subst hsz
  have hD := hD0.self (sz := s.heap.size)
  generalize hAe : va_A [] s.heap.size = A at hD hF ⊢
  have hA : ∀ q : Nat, s.heap.size ≤ q → A q := fun q h => by rw [← hAe]; exact Or.inr h
  have hS : va_S A s.heap s.heap [] := va_S.rf
  have hP : va_P (dC, dI) vcl [] s.heap := hP
  have hl := lv_entry ([.long 4500, .int 79200]) (n := 3) (Nat.le_of_ble_eq_true rfl)
  rw [lg_entry_eq]
  generalize (lg_sl ([.long 4500, .int 79200]) ++ List.replicate (3 - (lg_sl ([.long 4500, .int 79200])).length) Slot.unset).toArray = ls at hl ⊢
  have hl : lv_has ls 3 [(0, .long 4500), (2, .int 79200)] := hl
  refine lv_lload_n hx hb d_mDesk_within_0 rfl (lv_at hl 0 rfl) ?_
  refine lv_lconst (v := 0) hx hb d_mDesk_within_1 (by decide) ?_
  refine W.lcmp hx hb d_mDesk_within_2 ?_
  refine lv_topi (fun y_1 ey_1 => ?_)
  obtain rfl : y_1 = (1 : Int32) := ey_1.trans (by decide)
  refine lv_if_ge (tgt := 10) hx hb d_mDesk_within_3 (by decide) (fun _ => ?_) (fun c3 => absurd (by decide) c3)
  refine lv_lload_n hx hb d_mDesk_within_10 rfl (lv_at hl 0 rfl) ?_
  refine lv_iload_n hx hb d_mDesk_within_11 rfl (lv_at hl 1 rfl) ?_
  refine lv_i2l (v := 79200) hx hb d_mDesk_within_12 (by decide) ?_
  refine W.lcmp hx hb d_mDesk_within_13 ?_
  refine lv_topi (fun y_2 ey_2 => ?_)
  obtain rfl : y_2 = ((-1) : Int32) := ey_2.trans (by decide)
  refine lv_if_le (tgt := 21) hx hb d_mDesk_within_14 (by decide) (fun _ => ?_) (fun c14 => absurd (by decide) c14)
  refine lv_lload_n hx hb d_mDesk_within_21 rfl (lv_at hl 0 rfl) ?_
  refine lv_l2i (v := 4500) hx hb d_mDesk_within_22 (by decide) ?_
  have hP9 := hP.sub (ws' := []) [] rfl
  have hD9 := hD.sub (ws' := []) [] (by decide) rfl
  have hK9 := hK.sub (tys' := []) [] rfl
  exact W.iret (v := 4500) hx hb hr (fun t ht hW => ⟨⟨4500, (), rfl, (show (4500 : Int32) = 4500 from (by first | exact trivial | rfl | simp [*])), by rw [ht]; exact hP9, va_K.moved hW.alike hK9, hD9⟩, hS.F ht⟩) hS.2.2 d_mDesk_within_23

abbrev at_c_Desk_setX_0 (dC : Nat → ClassId) (dI : Nat → Nat → Nat) (h0 : Nat) (k_thrown : Int32) (k_state : Nat) (k_kept : Nat) (k_isKept : Nat) (k_size : Int32) (k_orientation : Int32) (k_copies : Int32) (k_steps : Nat) (k_phase : Int32) (k_family : Int32) (k_group : Int32) (k_part : Int32) (k_signed : Int32) (k_negative : Int32) (k_whole : Int32) (k_behind : Int32) (k_places : Int32) (k_dataLeft : Int32) (k_last : Int32) (k_dataTo : Int32) (k_bytesCame : Int32) (k_came : Int32) (k_cameX : Int32) (k_cameY : Int32) (k_glyphs : Int32) (k_allGlyphs : Int32) (k_touched : Int32) (k_glyph : Nat) (k_pages : Int32) (k_page : Nat) (k_others : Int32) (k_other : Nat) (k_stored : Int32) (k_store : Nat) (c1 : ClassId) (sf : Nat → Int32) (A : Nat → Prop) (u : Unit) (t : State) : Prop := match u with
  | _ => va_P (dC, dI) vcl [(h0, .inr (13, [.int k_thrown, .ref k_state, .ref k_kept, .ref k_isKept, .int k_size, .int k_orientation, .int k_copies, .int 57600, .int 79200, .ref k_steps, .int k_phase, .int k_family, .int k_group, .int k_part, .int k_signed, .int k_negative, .int k_whole, .int k_behind, .int k_places, .int k_dataLeft, .int k_last, .int k_dataTo, .int k_bytesCame, .int k_came, .int k_cameX, .int k_cameY, .int k_glyphs, .int k_allGlyphs, .int k_touched, .ref k_glyph, .int k_pages, .ref k_page, .int k_others, .ref k_other, .int k_stored, .ref k_store])), (k_state, .inl (c1, 53, .inl (upd sf 0 0)))] t.heap ∧ va_K (dC, dI) vcl [(c1, .int)] t ∧ va_D A [(h0, .inr (13, [.int k_thrown, .ref k_state, .ref k_kept, .ref k_isKept, .int k_size, .int k_orientation, .int k_copies, .int 57600, .int 79200, .ref k_steps, .int k_phase, .int k_family, .int k_group, .int k_part, .int k_signed, .int k_negative, .int k_whole, .int k_behind, .int k_places, .int k_dataLeft, .int k_last, .int k_dataTo, .int k_bytesCame, .int k_came, .int k_cameX, .int k_cameY, .int k_glyphs, .int k_allGlyphs, .int k_touched, .ref k_glyph, .int k_pages, .ref k_page, .int k_others, .ref k_other, .int k_stored, .ref k_store])), (k_state, .inl (c1, 53, .inl (upd sf 0 0)))]
abbrev po_c_Desk_setX_0 (h0 : Nat) (k_thrown : Int32) (k_state : Nat) (k_kept : Nat) (k_isKept : Nat) (k_size : Int32) (k_orientation : Int32) (k_copies : Int32) (k_steps : Nat) (k_phase : Int32) (k_family : Int32) (k_group : Int32) (k_part : Int32) (k_signed : Int32) (k_negative : Int32) (k_whole : Int32) (k_behind : Int32) (k_places : Int32) (k_dataLeft : Int32) (k_last : Int32) (k_dataTo : Int32) (k_bytesCame : Int32) (k_came : Int32) (k_cameX : Int32) (k_cameY : Int32) (k_glyphs : Int32) (k_allGlyphs : Int32) (k_touched : Int32) (k_glyph : Nat) (k_pages : Int32) (k_page : Nat) (k_others : Int32) (k_other : Nat) (k_stored : Int32) (k_store : Nat) (c1 : ClassId) (sf : Nat → Int32) (u : Unit) : Prop := match u with
  | _ => True
abbrev q_c_Desk_setX_0 (dC : Nat → ClassId) (dI : Nat → Nat → Nat) (h0 : Nat) (k_thrown : Int32) (k_state : Nat) (k_kept : Nat) (k_isKept : Nat) (k_size : Int32) (k_orientation : Int32) (k_copies : Int32) (k_steps : Nat) (k_phase : Int32) (k_family : Int32) (k_group : Int32) (k_part : Int32) (k_signed : Int32) (k_negative : Int32) (k_whole : Int32) (k_behind : Int32) (k_places : Int32) (k_dataLeft : Int32) (k_last : Int32) (k_dataTo : Int32) (k_bytesCame : Int32) (k_came : Int32) (k_cameX : Int32) (k_cameY : Int32) (k_glyphs : Int32) (k_allGlyphs : Int32) (k_touched : Int32) (k_glyph : Nat) (k_pages : Int32) (k_page : Nat) (k_others : Int32) (k_other : Nat) (k_stored : Int32) (k_store : Nat) (c1 : ClassId) (sf : Nat → Int32) (A : Nat → Prop) : Array Value → State → Outcome → State → Prop := va_Qv (po_c_Desk_setX_0 h0 k_thrown k_state k_kept k_isKept k_size k_orientation k_copies k_steps k_phase k_family k_group k_part k_signed k_negative k_whole k_behind k_places k_dataLeft k_last k_dataTo k_bytesCame k_came k_cameX k_cameY k_glyphs k_allGlyphs k_touched k_glyph k_pages k_page k_others k_other k_stored k_store c1 sf) (at_c_Desk_setX_0 dC dI h0 k_thrown k_state k_kept k_isKept k_size k_orientation k_copies k_steps k_phase k_family k_group k_part k_signed k_negative k_whole k_behind k_places k_dataLeft k_last k_dataTo k_bytesCame k_came k_cameX k_cameY k_glyphs k_allGlyphs k_touched k_glyph k_pages k_page k_others k_other k_stored k_store c1 sf A) A
abbrev rm_c_Desk_setX_0 : Room := { frames := 1, cells := 0, slots := 0, locals := 22 }
set_option maxHeartbeats 4000000 in
set_option maxRecDepth 100000 in
theorem c_Desk_setX_0 (l : Launch) (dC : Nat → ClassId) (dI : Nat → Nat → Nat) (tt : Nat → Nat) (h0 : Nat) (k_thrown : Int32) (k_state : Nat) (k_kept : Nat) (k_isKept : Nat) (k_size : Int32) (k_orientation : Int32) (k_copies : Int32) (k_steps : Nat) (k_phase : Int32) (k_family : Int32) (k_group : Int32) (k_part : Int32) (k_signed : Int32) (k_negative : Int32) (k_whole : Int32) (k_behind : Int32) (k_places : Int32) (k_dataLeft : Int32) (k_last : Int32) (k_dataTo : Int32) (k_bytesCame : Int32) (k_came : Int32) (k_cameX : Int32) (k_cameY : Int32) (k_glyphs : Int32) (k_allGlyphs : Int32) (k_touched : Int32) (k_glyph : Nat) (k_pages : Int32) (k_page : Nat) (k_others : Int32) (k_other : Nat) (k_stored : Int32) (k_store : Nat) (c1 : ClassId) (sf : Nat → Int32) (sz : Nat)  : Met l y_mDesk_setX w_mDesk_setX rm_c_Desk_setX_0 (va_Pc [.ref h0, .long 0] (fun U => U.heap.size = sz ∧ va_P (dC, dI) vcl [(h0, .inr (13, [.int k_thrown, .ref k_state, .ref k_kept, .ref k_isKept, .int k_size, .int k_orientation, .int k_copies, .int 57600, .int 79200, .ref k_steps, .int k_phase, .int k_family, .int k_group, .int k_part, .int k_signed, .int k_negative, .int k_whole, .int k_behind, .int k_places, .int k_dataLeft, .int k_last, .int k_dataTo, .int k_bytesCame, .int k_came, .int k_cameX, .int k_cameY, .int k_glyphs, .int k_allGlyphs, .int k_touched, .ref k_glyph, .int k_pages, .ref k_page, .int k_others, .ref k_other, .int k_stored, .ref k_store])), (k_state, .inl (c1, 53, .inl sf))] U.heap ∧ va_K (dC, dI) vcl [(c1, .int)] U ∧ va_D (fun _ => True) [(h0, .inr (13, [.int k_thrown, .ref k_state, .ref k_kept, .ref k_isKept, .int k_size, .int k_orientation, .int k_copies, .int 57600, .int 79200, .ref k_steps, .int k_phase, .int k_family, .int k_group, .int k_part, .int k_signed, .int k_negative, .int k_whole, .int k_behind, .int k_places, .int k_dataLeft, .int k_last, .int k_dataTo, .int k_bytesCame, .int k_came, .int k_cameX, .int k_cameY, .int k_glyphs, .int k_allGlyphs, .int k_touched, .ref k_glyph, .int k_pages, .ref k_page, .int k_others, .ref k_other, .int k_stored, .ref k_store])), (k_state, .inl (c1, 53, .inl sf))] ∧ SF tt (va_A [(h0, .inr (13, [.int k_thrown, .ref k_state, .ref k_kept, .ref k_isKept, .int k_size, .int k_orientation, .int k_copies, .int 57600, .int 79200, .ref k_steps, .int k_phase, .int k_family, .int k_group, .int k_part, .int k_signed, .int k_negative, .int k_whole, .int k_behind, .int k_places, .int k_dataLeft, .int k_last, .int k_dataTo, .int k_bytesCame, .int k_came, .int k_cameX, .int k_cameY, .int k_glyphs, .int k_allGlyphs, .int k_touched, .ref k_glyph, .int k_pages, .ref k_page, .int k_others, .ref k_other, .int k_stored, .ref k_store])), (k_state, .inl (c1, 53, .inl sf))] sz) U U.heap)) (q_c_Desk_setX_0 dC dI h0 k_thrown k_state k_kept k_isKept k_size k_orientation k_copies k_steps k_phase k_family k_group k_part k_signed k_negative k_whole k_behind k_places k_dataLeft k_last k_dataTo k_bytesCame k_came k_cameX k_cameY k_glyphs k_allGlyphs k_touched k_glyph k_pages k_page k_others k_other k_stored k_store c1 sf (va_A [(h0, .inr (13, [.int k_thrown, .ref k_state, .ref k_kept, .ref k_isKept, .int k_size, .int k_orientation, .int k_copies, .int 57600, .int 79200, .ref k_steps, .int k_phase, .int k_family, .int k_group, .int k_part, .int k_signed, .int k_negative, .int k_whole, .int k_behind, .int k_places, .int k_dataLeft, .int k_last, .int k_dataTo, .int k_bytesCame, .int k_came, .int k_cameX, .int k_cameY, .int k_glyphs, .int k_allGlyphs, .int k_touched, .ref k_glyph, .int k_pages, .ref k_page, .int k_others, .ref k_other, .int k_stored, .ref k_store])), (k_state, .inl (c1, 53, .inl sf))] sz)) 0 0 (va_A [(h0, .inr (13, [.int k_thrown, .ref k_state, .ref k_kept, .ref k_isKept, .int k_size, .int k_orientation, .int k_copies, .int 57600, .int 79200, .ref k_steps, .int k_phase, .int k_family, .int k_group, .int k_part, .int k_signed, .int k_negative, .int k_whole, .int k_behind, .int k_places, .int k_dataLeft, .int k_last, .int k_dataTo, .int k_bytesCame, .int k_came, .int k_cameX, .int k_cameY, .int k_glyphs, .int k_allGlyphs, .int k_touched, .ref k_glyph, .int k_pages, .ref k_page, .int k_others, .ref k_other, .int k_stored, .ref k_store])), (k_state, .inl (c1, 53, .inl sf))] sz) := by
  refine Met.ofW (cc := b_mDesk_setX) (maxL := 3) (ret := none) (by decide) rfl ?_
  intro p e s m args below meth c s₁ B hml hv
  obtain ⟨rfl, hsz, hP, hK, hD0, hF⟩ := hv
  have hx := B.exec
  have hb := B.bytes
  have hr := B.returns
  have hwd : ∀ w ∈ gT, w.before _ s = true := fun w h => atoms_spec (ws := w_mDesk_setX) B.pre w (List.mem_cons_of_mem _ h)
  have hown : s.vm.findClass R_mDesk = some m.cls := findClass_of_methodNamed B.named
  have hlocks := B.notSynchronized
  subst hsz
  have hD := hD0.self (sz := s.heap.size)
  generalize hAe : va_A [(h0, .inr (13, [.int k_thrown, .ref k_state, .ref k_kept, .ref k_isKept, .int k_size, .int k_orientation, .int k_copies, .int 57600, .int 79200, .ref k_steps, .int k_phase, .int k_family, .int k_group, .int k_part, .int k_signed, .int k_negative, .int k_whole, .int k_behind, .int k_places, .int k_dataLeft, .int k_last, .int k_dataTo, .int k_bytesCame, .int k_came, .int k_cameX, .int k_cameY, .int k_glyphs, .int k_allGlyphs, .int k_touched, .ref k_glyph, .int k_pages, .ref k_page, .int k_others, .ref k_other, .int k_stored, .ref k_store])), (k_state, .inl (c1, 53, .inl sf))] s.heap.size = A at hD hF ⊢
  have hA : ∀ q : Nat, s.heap.size ≤ q → A q := fun q h => by rw [← hAe]; exact Or.inr h
  have hS : va_S A s.heap s.heap [] := va_S.rf
  have hP : va_P (dC, dI) vcl [(h0, .inr (13, [.int k_thrown, .ref k_state, .ref k_kept, .ref k_isKept, .int k_size, .int k_orientation, .int k_copies, .int 57600, .int 79200, .ref k_steps, .int k_phase, .int k_family, .int k_group, .int k_part, .int k_signed, .int k_negative, .int k_whole, .int k_behind, .int k_places, .int k_dataLeft, .int k_last, .int k_dataTo, .int k_bytesCame, .int k_came, .int k_cameX, .int k_cameY, .int k_glyphs, .int k_allGlyphs, .int k_touched, .ref k_glyph, .int k_pages, .ref k_page, .int k_others, .ref k_other, .int k_stored, .ref k_store])), (k_state, .inl (c1, 53, .inl sf))] s.heap := hP
  have hl := lv_entry ([.ref h0, .long 0]) (n := 3) (Nat.le_of_ble_eq_true rfl)
  rw [lg_entry_eq]
  generalize (lg_sl ([.ref h0, .long 0]) ++ List.replicate (3 - (lg_sl ([.ref h0, .long 0])).length) Slot.unset).toArray = ls at hl ⊢
  have hl : lv_has ls 3 [(0, .ref h0), (1, .long 0)] := hl
  refine lv_aload_n hx hb d_mDesk_setX_0 rfl (lv_at hl 0 rfl) ?_
  refine va_get (D := (dC, dI)) (ci := 13) (v := .ref k_state) (C := R_mDesk) (T := F_mDesk) (N := 36) hx hb hwd i_mDesk hown hK hP 0 rfl rfl 1 (by decide) (hwd _ wd_9_77) (fun _ h9 => h9) rfl d_mDesk_setX_1 ?_
  refine lv_iconst (v := 0) hx hb d_mDesk_setX_4 (by decide) ?_
  refine lv_lload_n hx hb d_mDesk_setX_5 rfl (lv_at hl 1 rfl) ?_
  refine lv_aload_n hx hb d_mDesk_setX_6 rfl (lv_at hl 0 rfl) ?_
  refine va_get (D := (dC, dI)) (ci := 13) (v := .int 57600) (C := R_mDesk) (T := F_mDesk) (N := 36) hx hb hwd i_mDesk hown hK hP 0 rfl rfl 7 (by decide) (hwd _ wd_9_86) (fun _ h9 => h9) rfl d_mDesk_setX_7 ?_
  have hPc := hP.sub (ws' := []) [] rfl
  have hDc := hD.sub (ws' := []) [] (by decide) rfl
  have hKc := hK.sub (tys' := []) [] rfl
  have hFc := va_free (wc := []) hD hS hA [] rfl
  refine va_calli (va_runS (As := [.long 0, .int 57600]) (rest := [.int 0, .ref k_state]) ⟨hx, hb, hml, hown, hwd⟩ (c_within_a l dC dI tt  s.heap.size ) (va_cwS 2 hwd (gS gd_mDesk_within wd_9_65 wd_9_66 wd_1_17) rfl rfl rfl (by decide +kernel) ⟨Nat.le_of_ble_eq_true rfl, Nat.le_of_ble_eq_true rfl⟩) ⟨fun a U g mk q => by obtain ⟨q0, q1, qP, qK, qD, qF⟩ := q; exact ⟨q0, q1, qP, va_K.moved (u := U) (U := U.calling g mk a) (Vm.Alike.refl U.vm) qK, qD, SF.same (u := U) (U := U.calling g mk a) rfl qF⟩, fun U hU hW => ⟨rfl, by rw [hU], by rw [hU]; exact hPc, va_K.moved hW.alike hKc, hDc.weaken (fun _ _ _ _ => trivial), by rw [hU]; exact SF.narrow (SF.moved hW (SF.kept hF (fun a h1 h2 => hS.2.1 a h1 h2))) hFc⟩⟩ rfl rfl hl.1 rfl (lv_room (Nat.le_of_ble_eq_true rfl)) d_mDesk_setX_10 ⟨Nat.le_of_ble_eq_true rfl, Nat.le_of_ble_eq_true rfl⟩) hS (fun q _ h => hFc q h) hFc ?_
  clear hPc hDc hKc hS
  intro r_1 u_2 t H1 locs ht hvm hw hB hz1 hk1 hS
  obtain ⟨hP1, hK1, hD1⟩ := hB
  rw [ht] at hP1
  have hK1 := va_K.moved hvm.symm hK1
  try dsimp only at hw
  have hJ := va_join (wr := [(h0, .inr (13, [.int k_thrown, .ref k_state, .ref k_kept, .ref k_isKept, .int k_size, .int k_orientation, .int k_copies, .int 57600, .int 79200, .ref k_steps, .int k_phase, .int k_family, .int k_group, .int k_part, .int k_signed, .int k_negative, .int k_whole, .int k_behind, .int k_places, .int k_dataLeft, .int k_last, .int k_dataTo, .int k_bytesCame, .int k_came, .int k_cameX, .int k_cameY, .int k_glyphs, .int k_allGlyphs, .int k_touched, .ref k_glyph, .int k_pages, .ref k_page, .int k_others, .ref k_other, .int k_stored, .ref k_store])), (k_state, .inl (c1, 53, .inl sf))]) (w1 := []) hP hD [] [0, 1] rfl rfl (by decide) (by decide) hk1 hFc hP1 hD1
  clear hP hD hk1 hFc hP1 hD1 hz1
  obtain ⟨hP, hD⟩ := hJ
  clear hK1 ht hvm
  generalize H1 = H at hP hS ⊢
  replace hP : va_P (dC, dI) vcl [(h0, .inr (13, [.int k_thrown, .ref k_state, .ref k_kept, .ref k_isKept, .int k_size, .int k_orientation, .int k_copies, .int 57600, .int 79200, .ref k_steps, .int k_phase, .int k_family, .int k_group, .int k_part, .int k_signed, .int k_negative, .int k_whole, .int k_behind, .int k_places, .int k_dataLeft, .int k_last, .int k_dataTo, .int k_bytesCame, .int k_came, .int k_cameX, .int k_cameY, .int k_glyphs, .int k_allGlyphs, .int k_touched, .ref k_glyph, .int k_pages, .ref k_page, .int k_others, .ref k_other, .int k_stored, .ref k_store])), (k_state, .inl (c1, 53, .inl sf))] H := hP
  replace hD : va_D A [(h0, .inr (13, [.int k_thrown, .ref k_state, .ref k_kept, .ref k_isKept, .int k_size, .int k_orientation, .int k_copies, .int 57600, .int 79200, .ref k_steps, .int k_phase, .int k_family, .int k_group, .int k_part, .int k_signed, .int k_negative, .int k_whole, .int k_behind, .int k_places, .int k_dataLeft, .int k_last, .int k_dataTo, .int k_bytesCame, .int k_came, .int k_cameX, .int k_cameY, .int k_glyphs, .int k_allGlyphs, .int k_touched, .ref k_glyph, .int k_pages, .ref k_page, .int k_others, .ref k_other, .int k_stored, .ref k_store])), (k_state, .inl (c1, 53, .inl sf))] := hD
  obtain rfl := hw
  refine va_iast hx hb hK hP hD hS 1 0 rfl rfl (show ¬ ((0 : Int32) < 0 ∨ 53 ≤ (0 : Int32).toNatClampNeg) by decide) d_mDesk_setX_13 ?_
  clear hP hD hS
  intro H locs hP hD hS
  rw [show (0 : Int32).toNatClampNeg = 0 by decide] at hP hD
  replace hP : va_P (dC, dI) vcl [(h0, .inr (13, [.int k_thrown, .ref k_state, .ref k_kept, .ref k_isKept, .int k_size, .int k_orientation, .int k_copies, .int 57600, .int 79200, .ref k_steps, .int k_phase, .int k_family, .int k_group, .int k_part, .int k_signed, .int k_negative, .int k_whole, .int k_behind, .int k_places, .int k_dataLeft, .int k_last, .int k_dataTo, .int k_bytesCame, .int k_came, .int k_cameX, .int k_cameY, .int k_glyphs, .int k_allGlyphs, .int k_touched, .ref k_glyph, .int k_pages, .ref k_page, .int k_others, .ref k_other, .int k_stored, .ref k_store])), (k_state, .inl (c1, 53, .inl (upd sf 0 0)))] H := hP
  replace hD : va_D A [(h0, .inr (13, [.int k_thrown, .ref k_state, .ref k_kept, .ref k_isKept, .int k_size, .int k_orientation, .int k_copies, .int 57600, .int 79200, .ref k_steps, .int k_phase, .int k_family, .int k_group, .int k_part, .int k_signed, .int k_negative, .int k_whole, .int k_behind, .int k_places, .int k_dataLeft, .int k_last, .int k_dataTo, .int k_bytesCame, .int k_came, .int k_cameX, .int k_cameY, .int k_glyphs, .int k_allGlyphs, .int k_touched, .ref k_glyph, .int k_pages, .ref k_page, .int k_others, .ref k_other, .int k_stored, .ref k_store])), (k_state, .inl (c1, 53, .inl (upd sf 0 0)))] := hD
  have hP9 := hP.sub (ws' := [(h0, .inr (13, [.int k_thrown, .ref k_state, .ref k_kept, .ref k_isKept, .int k_size, .int k_orientation, .int k_copies, .int 57600, .int 79200, .ref k_steps, .int k_phase, .int k_family, .int k_group, .int k_part, .int k_signed, .int k_negative, .int k_whole, .int k_behind, .int k_places, .int k_dataLeft, .int k_last, .int k_dataTo, .int k_bytesCame, .int k_came, .int k_cameX, .int k_cameY, .int k_glyphs, .int k_allGlyphs, .int k_touched, .ref k_glyph, .int k_pages, .ref k_page, .int k_others, .ref k_other, .int k_stored, .ref k_store])), (k_state, .inl (c1, 53, .inl (upd sf 0 0)))]) [0, 1] rfl
  have hD9 := hD.sub (ws' := [(h0, .inr (13, [.int k_thrown, .ref k_state, .ref k_kept, .ref k_isKept, .int k_size, .int k_orientation, .int k_copies, .int 57600, .int 79200, .ref k_steps, .int k_phase, .int k_family, .int k_group, .int k_part, .int k_signed, .int k_negative, .int k_whole, .int k_behind, .int k_places, .int k_dataLeft, .int k_last, .int k_dataTo, .int k_bytesCame, .int k_came, .int k_cameX, .int k_cameY, .int k_glyphs, .int k_allGlyphs, .int k_touched, .ref k_glyph, .int k_pages, .ref k_page, .int k_others, .ref k_other, .int k_stored, .ref k_store])), (k_state, .inl (c1, 53, .inl (upd sf 0 0)))]) [0, 1] (by decide) rfl
  have hK9 := hK.sub (tys' := [(c1, .int)]) [0] rfl
  exact W.vret hx hb hr (fun t ht hW => ⟨⟨(), rfl, (trivial), by rw [ht]; exact hP9, va_K.moved hW.alike hK9, hD9⟩, hS.F ht⟩) hS.2.2 d_mDesk_setX_14

abbrev at_c_Desk_setY_0 (dC : Nat → ClassId) (dI : Nat → Nat → Nat) (h0 : Nat) (k_thrown : Int32) (k_state : Nat) (k_kept : Nat) (k_isKept : Nat) (k_size : Int32) (k_orientation : Int32) (k_copies : Int32) (k_steps : Nat) (k_phase : Int32) (k_family : Int32) (k_group : Int32) (k_part : Int32) (k_signed : Int32) (k_negative : Int32) (k_whole : Int32) (k_behind : Int32) (k_places : Int32) (k_dataLeft : Int32) (k_last : Int32) (k_dataTo : Int32) (k_bytesCame : Int32) (k_came : Int32) (k_cameX : Int32) (k_cameY : Int32) (k_glyphs : Int32) (k_allGlyphs : Int32) (k_touched : Int32) (k_glyph : Nat) (k_pages : Int32) (k_page : Nat) (k_others : Int32) (k_other : Nat) (k_stored : Int32) (k_store : Nat) (c1 : ClassId) (sf : Nat → Int32) (A : Nat → Prop) (u : Unit) (t : State) : Prop := match u with
  | _ => va_P (dC, dI) vcl [(h0, .inr (13, [.int k_thrown, .ref k_state, .ref k_kept, .ref k_isKept, .int k_size, .int k_orientation, .int k_copies, .int 57600, .int 79200, .ref k_steps, .int k_phase, .int k_family, .int k_group, .int k_part, .int k_signed, .int k_negative, .int k_whole, .int k_behind, .int k_places, .int k_dataLeft, .int k_last, .int k_dataTo, .int k_bytesCame, .int k_came, .int k_cameX, .int k_cameY, .int k_glyphs, .int k_allGlyphs, .int k_touched, .ref k_glyph, .int k_pages, .ref k_page, .int k_others, .ref k_other, .int k_stored, .ref k_store])), (k_state, .inl (c1, 53, .inl (upd sf 1 4500)))] t.heap ∧ va_K (dC, dI) vcl [(c1, .int)] t ∧ va_D A [(h0, .inr (13, [.int k_thrown, .ref k_state, .ref k_kept, .ref k_isKept, .int k_size, .int k_orientation, .int k_copies, .int 57600, .int 79200, .ref k_steps, .int k_phase, .int k_family, .int k_group, .int k_part, .int k_signed, .int k_negative, .int k_whole, .int k_behind, .int k_places, .int k_dataLeft, .int k_last, .int k_dataTo, .int k_bytesCame, .int k_came, .int k_cameX, .int k_cameY, .int k_glyphs, .int k_allGlyphs, .int k_touched, .ref k_glyph, .int k_pages, .ref k_page, .int k_others, .ref k_other, .int k_stored, .ref k_store])), (k_state, .inl (c1, 53, .inl (upd sf 1 4500)))]
abbrev po_c_Desk_setY_0 (h0 : Nat) (k_thrown : Int32) (k_state : Nat) (k_kept : Nat) (k_isKept : Nat) (k_size : Int32) (k_orientation : Int32) (k_copies : Int32) (k_steps : Nat) (k_phase : Int32) (k_family : Int32) (k_group : Int32) (k_part : Int32) (k_signed : Int32) (k_negative : Int32) (k_whole : Int32) (k_behind : Int32) (k_places : Int32) (k_dataLeft : Int32) (k_last : Int32) (k_dataTo : Int32) (k_bytesCame : Int32) (k_came : Int32) (k_cameX : Int32) (k_cameY : Int32) (k_glyphs : Int32) (k_allGlyphs : Int32) (k_touched : Int32) (k_glyph : Nat) (k_pages : Int32) (k_page : Nat) (k_others : Int32) (k_other : Nat) (k_stored : Int32) (k_store : Nat) (c1 : ClassId) (sf : Nat → Int32) (u : Unit) : Prop := match u with
  | _ => True
abbrev q_c_Desk_setY_0 (dC : Nat → ClassId) (dI : Nat → Nat → Nat) (h0 : Nat) (k_thrown : Int32) (k_state : Nat) (k_kept : Nat) (k_isKept : Nat) (k_size : Int32) (k_orientation : Int32) (k_copies : Int32) (k_steps : Nat) (k_phase : Int32) (k_family : Int32) (k_group : Int32) (k_part : Int32) (k_signed : Int32) (k_negative : Int32) (k_whole : Int32) (k_behind : Int32) (k_places : Int32) (k_dataLeft : Int32) (k_last : Int32) (k_dataTo : Int32) (k_bytesCame : Int32) (k_came : Int32) (k_cameX : Int32) (k_cameY : Int32) (k_glyphs : Int32) (k_allGlyphs : Int32) (k_touched : Int32) (k_glyph : Nat) (k_pages : Int32) (k_page : Nat) (k_others : Int32) (k_other : Nat) (k_stored : Int32) (k_store : Nat) (c1 : ClassId) (sf : Nat → Int32) (A : Nat → Prop) : Array Value → State → Outcome → State → Prop := va_Qv (po_c_Desk_setY_0 h0 k_thrown k_state k_kept k_isKept k_size k_orientation k_copies k_steps k_phase k_family k_group k_part k_signed k_negative k_whole k_behind k_places k_dataLeft k_last k_dataTo k_bytesCame k_came k_cameX k_cameY k_glyphs k_allGlyphs k_touched k_glyph k_pages k_page k_others k_other k_stored k_store c1 sf) (at_c_Desk_setY_0 dC dI h0 k_thrown k_state k_kept k_isKept k_size k_orientation k_copies k_steps k_phase k_family k_group k_part k_signed k_negative k_whole k_behind k_places k_dataLeft k_last k_dataTo k_bytesCame k_came k_cameX k_cameY k_glyphs k_allGlyphs k_touched k_glyph k_pages k_page k_others k_other k_stored k_store c1 sf A) A
abbrev rm_c_Desk_setY_0 : Room := { frames := 1, cells := 0, slots := 0, locals := 22 }
set_option maxHeartbeats 4000000 in
set_option maxRecDepth 100000 in
theorem c_Desk_setY_0 (l : Launch) (dC : Nat → ClassId) (dI : Nat → Nat → Nat) (tt : Nat → Nat) (h0 : Nat) (k_thrown : Int32) (k_state : Nat) (k_kept : Nat) (k_isKept : Nat) (k_size : Int32) (k_orientation : Int32) (k_copies : Int32) (k_steps : Nat) (k_phase : Int32) (k_family : Int32) (k_group : Int32) (k_part : Int32) (k_signed : Int32) (k_negative : Int32) (k_whole : Int32) (k_behind : Int32) (k_places : Int32) (k_dataLeft : Int32) (k_last : Int32) (k_dataTo : Int32) (k_bytesCame : Int32) (k_came : Int32) (k_cameX : Int32) (k_cameY : Int32) (k_glyphs : Int32) (k_allGlyphs : Int32) (k_touched : Int32) (k_glyph : Nat) (k_pages : Int32) (k_page : Nat) (k_others : Int32) (k_other : Nat) (k_stored : Int32) (k_store : Nat) (c1 : ClassId) (sf : Nat → Int32) (sz : Nat)  : Met l y_mDesk_setY w_mDesk_setY rm_c_Desk_setY_0 (va_Pc [.ref h0, .long 4500] (fun U => U.heap.size = sz ∧ va_P (dC, dI) vcl [(h0, .inr (13, [.int k_thrown, .ref k_state, .ref k_kept, .ref k_isKept, .int k_size, .int k_orientation, .int k_copies, .int 57600, .int 79200, .ref k_steps, .int k_phase, .int k_family, .int k_group, .int k_part, .int k_signed, .int k_negative, .int k_whole, .int k_behind, .int k_places, .int k_dataLeft, .int k_last, .int k_dataTo, .int k_bytesCame, .int k_came, .int k_cameX, .int k_cameY, .int k_glyphs, .int k_allGlyphs, .int k_touched, .ref k_glyph, .int k_pages, .ref k_page, .int k_others, .ref k_other, .int k_stored, .ref k_store])), (k_state, .inl (c1, 53, .inl sf))] U.heap ∧ va_K (dC, dI) vcl [(c1, .int)] U ∧ va_D (fun _ => True) [(h0, .inr (13, [.int k_thrown, .ref k_state, .ref k_kept, .ref k_isKept, .int k_size, .int k_orientation, .int k_copies, .int 57600, .int 79200, .ref k_steps, .int k_phase, .int k_family, .int k_group, .int k_part, .int k_signed, .int k_negative, .int k_whole, .int k_behind, .int k_places, .int k_dataLeft, .int k_last, .int k_dataTo, .int k_bytesCame, .int k_came, .int k_cameX, .int k_cameY, .int k_glyphs, .int k_allGlyphs, .int k_touched, .ref k_glyph, .int k_pages, .ref k_page, .int k_others, .ref k_other, .int k_stored, .ref k_store])), (k_state, .inl (c1, 53, .inl sf))] ∧ SF tt (va_A [(h0, .inr (13, [.int k_thrown, .ref k_state, .ref k_kept, .ref k_isKept, .int k_size, .int k_orientation, .int k_copies, .int 57600, .int 79200, .ref k_steps, .int k_phase, .int k_family, .int k_group, .int k_part, .int k_signed, .int k_negative, .int k_whole, .int k_behind, .int k_places, .int k_dataLeft, .int k_last, .int k_dataTo, .int k_bytesCame, .int k_came, .int k_cameX, .int k_cameY, .int k_glyphs, .int k_allGlyphs, .int k_touched, .ref k_glyph, .int k_pages, .ref k_page, .int k_others, .ref k_other, .int k_stored, .ref k_store])), (k_state, .inl (c1, 53, .inl sf))] sz) U U.heap)) (q_c_Desk_setY_0 dC dI h0 k_thrown k_state k_kept k_isKept k_size k_orientation k_copies k_steps k_phase k_family k_group k_part k_signed k_negative k_whole k_behind k_places k_dataLeft k_last k_dataTo k_bytesCame k_came k_cameX k_cameY k_glyphs k_allGlyphs k_touched k_glyph k_pages k_page k_others k_other k_stored k_store c1 sf (va_A [(h0, .inr (13, [.int k_thrown, .ref k_state, .ref k_kept, .ref k_isKept, .int k_size, .int k_orientation, .int k_copies, .int 57600, .int 79200, .ref k_steps, .int k_phase, .int k_family, .int k_group, .int k_part, .int k_signed, .int k_negative, .int k_whole, .int k_behind, .int k_places, .int k_dataLeft, .int k_last, .int k_dataTo, .int k_bytesCame, .int k_came, .int k_cameX, .int k_cameY, .int k_glyphs, .int k_allGlyphs, .int k_touched, .ref k_glyph, .int k_pages, .ref k_page, .int k_others, .ref k_other, .int k_stored, .ref k_store])), (k_state, .inl (c1, 53, .inl sf))] sz)) 0 0 (va_A [(h0, .inr (13, [.int k_thrown, .ref k_state, .ref k_kept, .ref k_isKept, .int k_size, .int k_orientation, .int k_copies, .int 57600, .int 79200, .ref k_steps, .int k_phase, .int k_family, .int k_group, .int k_part, .int k_signed, .int k_negative, .int k_whole, .int k_behind, .int k_places, .int k_dataLeft, .int k_last, .int k_dataTo, .int k_bytesCame, .int k_came, .int k_cameX, .int k_cameY, .int k_glyphs, .int k_allGlyphs, .int k_touched, .ref k_glyph, .int k_pages, .ref k_page, .int k_others, .ref k_other, .int k_stored, .ref k_store])), (k_state, .inl (c1, 53, .inl sf))] sz) := by
  refine Met.ofW (cc := b_mDesk_setY) (maxL := 3) (ret := none) (by decide) rfl ?_
  intro p e s m args below meth c s₁ B hml hv
  obtain ⟨rfl, hsz, hP, hK, hD0, hF⟩ := hv
  have hx := B.exec
  have hb := B.bytes
  have hr := B.returns
  have hwd : ∀ w ∈ gT, w.before _ s = true := fun w h => atoms_spec (ws := w_mDesk_setY) B.pre w (List.mem_cons_of_mem _ h)
  have hown : s.vm.findClass R_mDesk = some m.cls := findClass_of_methodNamed B.named
  have hlocks := B.notSynchronized
  subst hsz
  have hD := hD0.self (sz := s.heap.size)
  generalize hAe : va_A [(h0, .inr (13, [.int k_thrown, .ref k_state, .ref k_kept, .ref k_isKept, .int k_size, .int k_orientation, .int k_copies, .int 57600, .int 79200, .ref k_steps, .int k_phase, .int k_family, .int k_group, .int k_part, .int k_signed, .int k_negative, .int k_whole, .int k_behind, .int k_places, .int k_dataLeft, .int k_last, .int k_dataTo, .int k_bytesCame, .int k_came, .int k_cameX, .int k_cameY, .int k_glyphs, .int k_allGlyphs, .int k_touched, .ref k_glyph, .int k_pages, .ref k_page, .int k_others, .ref k_other, .int k_stored, .ref k_store])), (k_state, .inl (c1, 53, .inl sf))] s.heap.size = A at hD hF ⊢
  have hA : ∀ q : Nat, s.heap.size ≤ q → A q := fun q h => by rw [← hAe]; exact Or.inr h
  have hS : va_S A s.heap s.heap [] := va_S.rf
  have hP : va_P (dC, dI) vcl [(h0, .inr (13, [.int k_thrown, .ref k_state, .ref k_kept, .ref k_isKept, .int k_size, .int k_orientation, .int k_copies, .int 57600, .int 79200, .ref k_steps, .int k_phase, .int k_family, .int k_group, .int k_part, .int k_signed, .int k_negative, .int k_whole, .int k_behind, .int k_places, .int k_dataLeft, .int k_last, .int k_dataTo, .int k_bytesCame, .int k_came, .int k_cameX, .int k_cameY, .int k_glyphs, .int k_allGlyphs, .int k_touched, .ref k_glyph, .int k_pages, .ref k_page, .int k_others, .ref k_other, .int k_stored, .ref k_store])), (k_state, .inl (c1, 53, .inl sf))] s.heap := hP
  have hl := lv_entry ([.ref h0, .long 4500]) (n := 3) (Nat.le_of_ble_eq_true rfl)
  rw [lg_entry_eq]
  generalize (lg_sl ([.ref h0, .long 4500]) ++ List.replicate (3 - (lg_sl ([.ref h0, .long 4500])).length) Slot.unset).toArray = ls at hl ⊢
  have hl : lv_has ls 3 [(0, .ref h0), (1, .long 4500)] := hl
  refine lv_aload_n hx hb d_mDesk_setY_0 rfl (lv_at hl 0 rfl) ?_
  refine va_get (D := (dC, dI)) (ci := 13) (v := .ref k_state) (C := R_mDesk) (T := F_mDesk) (N := 36) hx hb hwd i_mDesk hown hK hP 0 rfl rfl 1 (by decide) (hwd _ wd_9_77) (fun _ h9 => h9) rfl d_mDesk_setY_1 ?_
  refine lv_iconst (v := 1) hx hb d_mDesk_setY_4 (by decide) ?_
  refine lv_lload_n hx hb d_mDesk_setY_5 rfl (lv_at hl 1 rfl) ?_
  refine lv_aload_n hx hb d_mDesk_setY_6 rfl (lv_at hl 0 rfl) ?_
  refine va_get (D := (dC, dI)) (ci := 13) (v := .int 79200) (C := R_mDesk) (T := F_mDesk) (N := 36) hx hb hwd i_mDesk hown hK hP 0 rfl rfl 8 (by decide) (hwd _ wd_9_87) (fun _ h9 => h9) rfl d_mDesk_setY_7 ?_
  have hPc := hP.sub (ws' := []) [] rfl
  have hDc := hD.sub (ws' := []) [] (by decide) rfl
  have hKc := hK.sub (tys' := []) [] rfl
  have hFc := va_free (wc := []) hD hS hA [] rfl
  refine va_calli (va_runS (As := [.long 4500, .int 79200]) (rest := [.int 1, .ref k_state]) ⟨hx, hb, hml, hown, hwd⟩ (c_within_b l dC dI tt  s.heap.size ) (va_cwS 2 hwd (gS gd_mDesk_within wd_9_65 wd_9_66 wd_1_17) rfl rfl rfl (by decide +kernel) ⟨Nat.le_of_ble_eq_true rfl, Nat.le_of_ble_eq_true rfl⟩) ⟨fun a U g mk q => by obtain ⟨q0, q1, qP, qK, qD, qF⟩ := q; exact ⟨q0, q1, qP, va_K.moved (u := U) (U := U.calling g mk a) (Vm.Alike.refl U.vm) qK, qD, SF.same (u := U) (U := U.calling g mk a) rfl qF⟩, fun U hU hW => ⟨rfl, by rw [hU], by rw [hU]; exact hPc, va_K.moved hW.alike hKc, hDc.weaken (fun _ _ _ _ => trivial), by rw [hU]; exact SF.narrow (SF.moved hW (SF.kept hF (fun a h1 h2 => hS.2.1 a h1 h2))) hFc⟩⟩ rfl rfl hl.1 rfl (lv_room (Nat.le_of_ble_eq_true rfl)) d_mDesk_setY_10 ⟨Nat.le_of_ble_eq_true rfl, Nat.le_of_ble_eq_true rfl⟩) hS (fun q _ h => hFc q h) hFc ?_
  clear hPc hDc hKc hS
  intro r_1 u_2 t H1 locs ht hvm hw hB hz1 hk1 hS
  obtain ⟨hP1, hK1, hD1⟩ := hB
  rw [ht] at hP1
  have hK1 := va_K.moved hvm.symm hK1
  try dsimp only at hw
  have hJ := va_join (wr := [(h0, .inr (13, [.int k_thrown, .ref k_state, .ref k_kept, .ref k_isKept, .int k_size, .int k_orientation, .int k_copies, .int 57600, .int 79200, .ref k_steps, .int k_phase, .int k_family, .int k_group, .int k_part, .int k_signed, .int k_negative, .int k_whole, .int k_behind, .int k_places, .int k_dataLeft, .int k_last, .int k_dataTo, .int k_bytesCame, .int k_came, .int k_cameX, .int k_cameY, .int k_glyphs, .int k_allGlyphs, .int k_touched, .ref k_glyph, .int k_pages, .ref k_page, .int k_others, .ref k_other, .int k_stored, .ref k_store])), (k_state, .inl (c1, 53, .inl sf))]) (w1 := []) hP hD [] [0, 1] rfl rfl (by decide) (by decide) hk1 hFc hP1 hD1
  clear hP hD hk1 hFc hP1 hD1 hz1
  obtain ⟨hP, hD⟩ := hJ
  clear hK1 ht hvm
  generalize H1 = H at hP hS ⊢
  replace hP : va_P (dC, dI) vcl [(h0, .inr (13, [.int k_thrown, .ref k_state, .ref k_kept, .ref k_isKept, .int k_size, .int k_orientation, .int k_copies, .int 57600, .int 79200, .ref k_steps, .int k_phase, .int k_family, .int k_group, .int k_part, .int k_signed, .int k_negative, .int k_whole, .int k_behind, .int k_places, .int k_dataLeft, .int k_last, .int k_dataTo, .int k_bytesCame, .int k_came, .int k_cameX, .int k_cameY, .int k_glyphs, .int k_allGlyphs, .int k_touched, .ref k_glyph, .int k_pages, .ref k_page, .int k_others, .ref k_other, .int k_stored, .ref k_store])), (k_state, .inl (c1, 53, .inl sf))] H := hP
  replace hD : va_D A [(h0, .inr (13, [.int k_thrown, .ref k_state, .ref k_kept, .ref k_isKept, .int k_size, .int k_orientation, .int k_copies, .int 57600, .int 79200, .ref k_steps, .int k_phase, .int k_family, .int k_group, .int k_part, .int k_signed, .int k_negative, .int k_whole, .int k_behind, .int k_places, .int k_dataLeft, .int k_last, .int k_dataTo, .int k_bytesCame, .int k_came, .int k_cameX, .int k_cameY, .int k_glyphs, .int k_allGlyphs, .int k_touched, .ref k_glyph, .int k_pages, .ref k_page, .int k_others, .ref k_other, .int k_stored, .ref k_store])), (k_state, .inl (c1, 53, .inl sf))] := hD
  obtain rfl := hw
  refine va_iast hx hb hK hP hD hS 1 0 rfl rfl (show ¬ ((1 : Int32) < 0 ∨ 53 ≤ (1 : Int32).toNatClampNeg) by decide) d_mDesk_setY_13 ?_
  clear hP hD hS
  intro H locs hP hD hS
  rw [show (1 : Int32).toNatClampNeg = 1 by decide] at hP hD
  replace hP : va_P (dC, dI) vcl [(h0, .inr (13, [.int k_thrown, .ref k_state, .ref k_kept, .ref k_isKept, .int k_size, .int k_orientation, .int k_copies, .int 57600, .int 79200, .ref k_steps, .int k_phase, .int k_family, .int k_group, .int k_part, .int k_signed, .int k_negative, .int k_whole, .int k_behind, .int k_places, .int k_dataLeft, .int k_last, .int k_dataTo, .int k_bytesCame, .int k_came, .int k_cameX, .int k_cameY, .int k_glyphs, .int k_allGlyphs, .int k_touched, .ref k_glyph, .int k_pages, .ref k_page, .int k_others, .ref k_other, .int k_stored, .ref k_store])), (k_state, .inl (c1, 53, .inl (upd sf 1 4500)))] H := hP
  replace hD : va_D A [(h0, .inr (13, [.int k_thrown, .ref k_state, .ref k_kept, .ref k_isKept, .int k_size, .int k_orientation, .int k_copies, .int 57600, .int 79200, .ref k_steps, .int k_phase, .int k_family, .int k_group, .int k_part, .int k_signed, .int k_negative, .int k_whole, .int k_behind, .int k_places, .int k_dataLeft, .int k_last, .int k_dataTo, .int k_bytesCame, .int k_came, .int k_cameX, .int k_cameY, .int k_glyphs, .int k_allGlyphs, .int k_touched, .ref k_glyph, .int k_pages, .ref k_page, .int k_others, .ref k_other, .int k_stored, .ref k_store])), (k_state, .inl (c1, 53, .inl (upd sf 1 4500)))] := hD
  have hP9 := hP.sub (ws' := [(h0, .inr (13, [.int k_thrown, .ref k_state, .ref k_kept, .ref k_isKept, .int k_size, .int k_orientation, .int k_copies, .int 57600, .int 79200, .ref k_steps, .int k_phase, .int k_family, .int k_group, .int k_part, .int k_signed, .int k_negative, .int k_whole, .int k_behind, .int k_places, .int k_dataLeft, .int k_last, .int k_dataTo, .int k_bytesCame, .int k_came, .int k_cameX, .int k_cameY, .int k_glyphs, .int k_allGlyphs, .int k_touched, .ref k_glyph, .int k_pages, .ref k_page, .int k_others, .ref k_other, .int k_stored, .ref k_store])), (k_state, .inl (c1, 53, .inl (upd sf 1 4500)))]) [0, 1] rfl
  have hD9 := hD.sub (ws' := [(h0, .inr (13, [.int k_thrown, .ref k_state, .ref k_kept, .ref k_isKept, .int k_size, .int k_orientation, .int k_copies, .int 57600, .int 79200, .ref k_steps, .int k_phase, .int k_family, .int k_group, .int k_part, .int k_signed, .int k_negative, .int k_whole, .int k_behind, .int k_places, .int k_dataLeft, .int k_last, .int k_dataTo, .int k_bytesCame, .int k_came, .int k_cameX, .int k_cameY, .int k_glyphs, .int k_allGlyphs, .int k_touched, .ref k_glyph, .int k_pages, .ref k_page, .int k_others, .ref k_other, .int k_stored, .ref k_store])), (k_state, .inl (c1, 53, .inl (upd sf 1 4500)))]) [0, 1] (by decide) rfl
  have hK9 := hK.sub (tys' := [(c1, .int)]) [0] rfl
  exact W.vret hx hb hr (fun t ht hW => ⟨⟨(), rfl, (trivial), by rw [ht]; exact hP9, va_K.moved hW.alike hK9, hD9⟩, hS.F ht⟩) hS.2.2 d_mDesk_setY_14

abbrev at_c_Desk_home (dC : Nat → ClassId) (dI : Nat → Nat → Nat) (h0 : Nat) (k_thrown : Int32) (k_state : Nat) (k_kept : Nat) (k_isKept : Nat) (k_size : Int32) (k_orientation : Int32) (k_copies : Int32) (k_width : Int32) (k_height : Int32) (k_steps : Nat) (k_phase : Int32) (k_family : Int32) (k_group : Int32) (k_part : Int32) (k_signed : Int32) (k_negative : Int32) (k_whole : Int32) (k_behind : Int32) (k_places : Int32) (k_dataLeft : Int32) (k_last : Int32) (k_dataTo : Int32) (k_bytesCame : Int32) (k_came : Int32) (k_cameX : Int32) (k_cameY : Int32) (k_glyphs : Int32) (k_allGlyphs : Int32) (k_touched : Int32) (k_glyph : Nat) (k_pages : Int32) (k_page : Nat) (k_others : Int32) (k_other : Nat) (k_stored : Int32) (k_store : Nat) (c1 : ClassId) (sf : Nat → Int32) (A : Nat → Prop) (u : Unit) (t : State) : Prop := match u with
  | _ => va_P (dC, dI) vcl [(h0, .inr (13, [.int k_thrown, .ref k_state, .ref k_kept, .ref k_isKept, .int k_size, .int k_orientation, .int k_copies, .int k_width, .int k_height, .ref k_steps, .int k_phase, .int k_family, .int k_group, .int k_part, .int k_signed, .int k_negative, .int k_whole, .int k_behind, .int k_places, .int k_dataLeft, .int k_last, .int k_dataTo, .int k_bytesCame, .int k_came, .int k_cameX, .int k_cameY, .int k_glyphs, .int k_allGlyphs, .int k_touched, .ref k_glyph, .int k_pages, .ref k_page, .int k_others, .ref k_other, .int k_stored, .ref k_store])), (k_state, .inl (c1, 53, .inl sf))] t.heap ∧ va_K (dC, dI) vcl [(c1, .int)] t ∧ va_D A [(h0, .inr (13, [.int k_thrown, .ref k_state, .ref k_kept, .ref k_isKept, .int k_size, .int k_orientation, .int k_copies, .int k_width, .int k_height, .ref k_steps, .int k_phase, .int k_family, .int k_group, .int k_part, .int k_signed, .int k_negative, .int k_whole, .int k_behind, .int k_places, .int k_dataLeft, .int k_last, .int k_dataTo, .int k_bytesCame, .int k_came, .int k_cameX, .int k_cameY, .int k_glyphs, .int k_allGlyphs, .int k_touched, .ref k_glyph, .int k_pages, .ref k_page, .int k_others, .ref k_other, .int k_stored, .ref k_store])), (k_state, .inl (c1, 53, .inl sf))]
abbrev po_c_Desk_home (h0 : Nat) (k_thrown : Int32) (k_state : Nat) (k_kept : Nat) (k_isKept : Nat) (k_size : Int32) (k_orientation : Int32) (k_copies : Int32) (k_width : Int32) (k_height : Int32) (k_steps : Nat) (k_phase : Int32) (k_family : Int32) (k_group : Int32) (k_part : Int32) (k_signed : Int32) (k_negative : Int32) (k_whole : Int32) (k_behind : Int32) (k_places : Int32) (k_dataLeft : Int32) (k_last : Int32) (k_dataTo : Int32) (k_bytesCame : Int32) (k_came : Int32) (k_cameX : Int32) (k_cameY : Int32) (k_glyphs : Int32) (k_allGlyphs : Int32) (k_touched : Int32) (k_glyph : Nat) (k_pages : Int32) (k_page : Nat) (k_others : Int32) (k_other : Nat) (k_stored : Int32) (k_store : Nat) (c1 : ClassId) (sf : Nat → Int32) (r : Int32) (u : Unit) : Prop := match u with
  | _ => r = (sf 4) + (((sf 7) * 3) / 4)
abbrev q_c_Desk_home (dC : Nat → ClassId) (dI : Nat → Nat → Nat) (h0 : Nat) (k_thrown : Int32) (k_state : Nat) (k_kept : Nat) (k_isKept : Nat) (k_size : Int32) (k_orientation : Int32) (k_copies : Int32) (k_width : Int32) (k_height : Int32) (k_steps : Nat) (k_phase : Int32) (k_family : Int32) (k_group : Int32) (k_part : Int32) (k_signed : Int32) (k_negative : Int32) (k_whole : Int32) (k_behind : Int32) (k_places : Int32) (k_dataLeft : Int32) (k_last : Int32) (k_dataTo : Int32) (k_bytesCame : Int32) (k_came : Int32) (k_cameX : Int32) (k_cameY : Int32) (k_glyphs : Int32) (k_allGlyphs : Int32) (k_touched : Int32) (k_glyph : Nat) (k_pages : Int32) (k_page : Nat) (k_others : Int32) (k_other : Nat) (k_stored : Int32) (k_store : Nat) (c1 : ClassId) (sf : Nat → Int32) (A : Nat → Prop) : Array Value → State → Outcome → State → Prop := va_Qi (po_c_Desk_home h0 k_thrown k_state k_kept k_isKept k_size k_orientation k_copies k_width k_height k_steps k_phase k_family k_group k_part k_signed k_negative k_whole k_behind k_places k_dataLeft k_last k_dataTo k_bytesCame k_came k_cameX k_cameY k_glyphs k_allGlyphs k_touched k_glyph k_pages k_page k_others k_other k_stored k_store c1 sf) (at_c_Desk_home dC dI h0 k_thrown k_state k_kept k_isKept k_size k_orientation k_copies k_width k_height k_steps k_phase k_family k_group k_part k_signed k_negative k_whole k_behind k_places k_dataLeft k_last k_dataTo k_bytesCame k_came k_cameX k_cameY k_glyphs k_allGlyphs k_touched k_glyph k_pages k_page k_others k_other k_stored k_store c1 sf A) A
abbrev rm_c_Desk_home : Room := { frames := 0, cells := 0, slots := 0, locals := 0 }
set_option maxHeartbeats 4000000 in
set_option maxRecDepth 100000 in
theorem c_Desk_home (l : Launch) (dC : Nat → ClassId) (dI : Nat → Nat → Nat) (tt : Nat → Nat) (h0 : Nat) (k_thrown : Int32) (k_state : Nat) (k_kept : Nat) (k_isKept : Nat) (k_size : Int32) (k_orientation : Int32) (k_copies : Int32) (k_width : Int32) (k_height : Int32) (k_steps : Nat) (k_phase : Int32) (k_family : Int32) (k_group : Int32) (k_part : Int32) (k_signed : Int32) (k_negative : Int32) (k_whole : Int32) (k_behind : Int32) (k_places : Int32) (k_dataLeft : Int32) (k_last : Int32) (k_dataTo : Int32) (k_bytesCame : Int32) (k_came : Int32) (k_cameX : Int32) (k_cameY : Int32) (k_glyphs : Int32) (k_allGlyphs : Int32) (k_touched : Int32) (k_glyph : Nat) (k_pages : Int32) (k_page : Nat) (k_others : Int32) (k_other : Nat) (k_stored : Int32) (k_store : Nat) (c1 : ClassId) (sf : Nat → Int32) (sz : Nat)  : Met l y_mDesk_home w_mDesk_home rm_c_Desk_home (va_Pc [.ref h0] (fun U => U.heap.size = sz ∧ va_P (dC, dI) vcl [(h0, .inr (13, [.int k_thrown, .ref k_state, .ref k_kept, .ref k_isKept, .int k_size, .int k_orientation, .int k_copies, .int k_width, .int k_height, .ref k_steps, .int k_phase, .int k_family, .int k_group, .int k_part, .int k_signed, .int k_negative, .int k_whole, .int k_behind, .int k_places, .int k_dataLeft, .int k_last, .int k_dataTo, .int k_bytesCame, .int k_came, .int k_cameX, .int k_cameY, .int k_glyphs, .int k_allGlyphs, .int k_touched, .ref k_glyph, .int k_pages, .ref k_page, .int k_others, .ref k_other, .int k_stored, .ref k_store])), (k_state, .inl (c1, 53, .inl sf))] U.heap ∧ va_K (dC, dI) vcl [(c1, .int)] U ∧ va_D (fun _ => True) [(h0, .inr (13, [.int k_thrown, .ref k_state, .ref k_kept, .ref k_isKept, .int k_size, .int k_orientation, .int k_copies, .int k_width, .int k_height, .ref k_steps, .int k_phase, .int k_family, .int k_group, .int k_part, .int k_signed, .int k_negative, .int k_whole, .int k_behind, .int k_places, .int k_dataLeft, .int k_last, .int k_dataTo, .int k_bytesCame, .int k_came, .int k_cameX, .int k_cameY, .int k_glyphs, .int k_allGlyphs, .int k_touched, .ref k_glyph, .int k_pages, .ref k_page, .int k_others, .ref k_other, .int k_stored, .ref k_store])), (k_state, .inl (c1, 53, .inl sf))] ∧ SF tt (va_A [(h0, .inr (13, [.int k_thrown, .ref k_state, .ref k_kept, .ref k_isKept, .int k_size, .int k_orientation, .int k_copies, .int k_width, .int k_height, .ref k_steps, .int k_phase, .int k_family, .int k_group, .int k_part, .int k_signed, .int k_negative, .int k_whole, .int k_behind, .int k_places, .int k_dataLeft, .int k_last, .int k_dataTo, .int k_bytesCame, .int k_came, .int k_cameX, .int k_cameY, .int k_glyphs, .int k_allGlyphs, .int k_touched, .ref k_glyph, .int k_pages, .ref k_page, .int k_others, .ref k_other, .int k_stored, .ref k_store])), (k_state, .inl (c1, 53, .inl sf))] sz) U U.heap)) (q_c_Desk_home dC dI h0 k_thrown k_state k_kept k_isKept k_size k_orientation k_copies k_width k_height k_steps k_phase k_family k_group k_part k_signed k_negative k_whole k_behind k_places k_dataLeft k_last k_dataTo k_bytesCame k_came k_cameX k_cameY k_glyphs k_allGlyphs k_touched k_glyph k_pages k_page k_others k_other k_stored k_store c1 sf (va_A [(h0, .inr (13, [.int k_thrown, .ref k_state, .ref k_kept, .ref k_isKept, .int k_size, .int k_orientation, .int k_copies, .int k_width, .int k_height, .ref k_steps, .int k_phase, .int k_family, .int k_group, .int k_part, .int k_signed, .int k_negative, .int k_whole, .int k_behind, .int k_places, .int k_dataLeft, .int k_last, .int k_dataTo, .int k_bytesCame, .int k_came, .int k_cameX, .int k_cameY, .int k_glyphs, .int k_allGlyphs, .int k_touched, .ref k_glyph, .int k_pages, .ref k_page, .int k_others, .ref k_other, .int k_stored, .ref k_store])), (k_state, .inl (c1, 53, .inl sf))] sz)) 0 0 (va_A [(h0, .inr (13, [.int k_thrown, .ref k_state, .ref k_kept, .ref k_isKept, .int k_size, .int k_orientation, .int k_copies, .int k_width, .int k_height, .ref k_steps, .int k_phase, .int k_family, .int k_group, .int k_part, .int k_signed, .int k_negative, .int k_whole, .int k_behind, .int k_places, .int k_dataLeft, .int k_last, .int k_dataTo, .int k_bytesCame, .int k_came, .int k_cameX, .int k_cameY, .int k_glyphs, .int k_allGlyphs, .int k_touched, .ref k_glyph, .int k_pages, .ref k_page, .int k_others, .ref k_other, .int k_stored, .ref k_store])), (k_state, .inl (c1, 53, .inl sf))] sz) := by
  refine Met.ofW (cc := b_mDesk_home) (maxL := 1) (ret := (some .int)) (by decide) rfl ?_
  intro p e s m args below meth c s₁ B hml hv
  obtain ⟨rfl, hsz, hP, hK, hD0, hF⟩ := hv
  have hx := B.exec
  have hb := B.bytes
  have hr := B.returns
  have hwd : ∀ w ∈ gT, w.before _ s = true := fun w h => atoms_spec (ws := w_mDesk_home) B.pre w (List.mem_cons_of_mem _ h)
  have hown : s.vm.findClass R_mDesk = some m.cls := findClass_of_methodNamed B.named
  have hlocks := B.notSynchronized
  subst hsz
  have hD := hD0.self (sz := s.heap.size)
  generalize hAe : va_A [(h0, .inr (13, [.int k_thrown, .ref k_state, .ref k_kept, .ref k_isKept, .int k_size, .int k_orientation, .int k_copies, .int k_width, .int k_height, .ref k_steps, .int k_phase, .int k_family, .int k_group, .int k_part, .int k_signed, .int k_negative, .int k_whole, .int k_behind, .int k_places, .int k_dataLeft, .int k_last, .int k_dataTo, .int k_bytesCame, .int k_came, .int k_cameX, .int k_cameY, .int k_glyphs, .int k_allGlyphs, .int k_touched, .ref k_glyph, .int k_pages, .ref k_page, .int k_others, .ref k_other, .int k_stored, .ref k_store])), (k_state, .inl (c1, 53, .inl sf))] s.heap.size = A at hD hF ⊢
  have hA : ∀ q : Nat, s.heap.size ≤ q → A q := fun q h => by rw [← hAe]; exact Or.inr h
  have hS : va_S A s.heap s.heap [] := va_S.rf
  have hP : va_P (dC, dI) vcl [(h0, .inr (13, [.int k_thrown, .ref k_state, .ref k_kept, .ref k_isKept, .int k_size, .int k_orientation, .int k_copies, .int k_width, .int k_height, .ref k_steps, .int k_phase, .int k_family, .int k_group, .int k_part, .int k_signed, .int k_negative, .int k_whole, .int k_behind, .int k_places, .int k_dataLeft, .int k_last, .int k_dataTo, .int k_bytesCame, .int k_came, .int k_cameX, .int k_cameY, .int k_glyphs, .int k_allGlyphs, .int k_touched, .ref k_glyph, .int k_pages, .ref k_page, .int k_others, .ref k_other, .int k_stored, .ref k_store])), (k_state, .inl (c1, 53, .inl sf))] s.heap := hP
  have hl := lv_entry ([.ref h0]) (n := 1) (Nat.le_of_ble_eq_true rfl)
  rw [lg_entry_eq]
  generalize (lg_sl ([.ref h0]) ++ List.replicate (1 - (lg_sl ([.ref h0])).length) Slot.unset).toArray = ls at hl ⊢
  have hl : lv_has ls 1 [(0, .ref h0)] := hl
  refine lv_aload_n hx hb d_mDesk_home_0 rfl (lv_at hl 0 rfl) ?_
  refine va_get (D := (dC, dI)) (ci := 13) (v := .ref k_state) (C := R_mDesk) (T := F_mDesk) (N := 36) hx hb hwd i_mDesk hown hK hP 0 rfl rfl 1 (by decide) (hwd _ wd_9_77) (fun _ h9 => h9) rfl d_mDesk_home_1 ?_
  refine lv_iconst (v := 4) hx hb d_mDesk_home_4 (by decide) ?_
  refine va_iald hx hb hK hP 1 0 rfl rfl (show ¬ ((4 : Int32) < 0 ∨ 53 ≤ (4 : Int32).toNatClampNeg) by decide) d_mDesk_home_5 ?_
  refine lv_topi (fun y_1 ey_1 => ?_)
  obtain rfl : y_1 = sf 4 := ey_1.trans (by rw [show (4 : Int32).toNatClampNeg = 4 by decide])
  refine lv_aload_n hx hb d_mDesk_home_6 rfl (lv_at hl 0 rfl) ?_
  refine va_get (D := (dC, dI)) (ci := 13) (v := .ref k_state) (C := R_mDesk) (T := F_mDesk) (N := 36) hx hb hwd i_mDesk hown hK hP 0 rfl rfl 1 (by decide) (hwd _ wd_9_77) (fun _ h9 => h9) rfl d_mDesk_home_7 ?_
  refine lv_bipush (v := 7) hx hb d_mDesk_home_10 (by decide) ?_
  refine va_iald hx hb hK hP 1 0 rfl rfl (show ¬ ((7 : Int32) < 0 ∨ 53 ≤ (7 : Int32).toNatClampNeg) by decide) d_mDesk_home_12 ?_
  refine lv_topi (fun y_2 ey_2 => ?_)
  obtain rfl : y_2 = sf 7 := ey_2.trans (by rw [show (7 : Int32).toNatClampNeg = 7 by decide])
  refine lv_iconst (v := 3) hx hb d_mDesk_home_13 (by decide) ?_
  refine lv_imul hx hb d_mDesk_home_14 ?_
  refine lv_iconst (v := 4) hx hb d_mDesk_home_15 (by decide) ?_
  refine lv_idiv hx hb d_mDesk_home_16 (by decide) ?_
  refine lv_iadd hx hb d_mDesk_home_17 ?_
  have hP9 := hP.sub (ws' := [(h0, .inr (13, [.int k_thrown, .ref k_state, .ref k_kept, .ref k_isKept, .int k_size, .int k_orientation, .int k_copies, .int k_width, .int k_height, .ref k_steps, .int k_phase, .int k_family, .int k_group, .int k_part, .int k_signed, .int k_negative, .int k_whole, .int k_behind, .int k_places, .int k_dataLeft, .int k_last, .int k_dataTo, .int k_bytesCame, .int k_came, .int k_cameX, .int k_cameY, .int k_glyphs, .int k_allGlyphs, .int k_touched, .ref k_glyph, .int k_pages, .ref k_page, .int k_others, .ref k_other, .int k_stored, .ref k_store])), (k_state, .inl (c1, 53, .inl sf))]) [0, 1] rfl
  have hD9 := hD.sub (ws' := [(h0, .inr (13, [.int k_thrown, .ref k_state, .ref k_kept, .ref k_isKept, .int k_size, .int k_orientation, .int k_copies, .int k_width, .int k_height, .ref k_steps, .int k_phase, .int k_family, .int k_group, .int k_part, .int k_signed, .int k_negative, .int k_whole, .int k_behind, .int k_places, .int k_dataLeft, .int k_last, .int k_dataTo, .int k_bytesCame, .int k_came, .int k_cameX, .int k_cameY, .int k_glyphs, .int k_allGlyphs, .int k_touched, .ref k_glyph, .int k_pages, .ref k_page, .int k_others, .ref k_other, .int k_stored, .ref k_store])), (k_state, .inl (c1, 53, .inl sf))]) [0, 1] (by decide) rfl
  have hK9 := hK.sub (tys' := [(c1, .int)]) [0] rfl
  exact W.iret (v := (sf 4) + (((sf 7) * 3) / 4)) hx hb hr (fun t ht hW => ⟨⟨((sf 4) + (((sf 7) * 3) / 4)), (), rfl, (show ((sf 4) + (((sf 7) * 3) / 4) : Int32) = (sf 4) + (((sf 7) * 3) / 4) from (by first | exact trivial | rfl | simp [*])), by rw [ht]; exact hP9, va_K.moved hW.alike hK9, hD9⟩, hS.F ht⟩) hS.2.2 d_mDesk_home_18

abbrev at_c_Desk_defaults_0 (dC : Nat → ClassId) (dI : Nat → Nat → Nat) (h0 : Nat) (k_thrown : Int32) (k_state : Nat) (k_kept : Nat) (k_isKept : Nat) (k_copies : Int32) (k_width : Int32) (k_height : Int32) (k_steps : Nat) (k_phase : Int32) (k_family : Int32) (k_group : Int32) (k_part : Int32) (k_signed : Int32) (k_negative : Int32) (k_whole : Int32) (k_behind : Int32) (k_places : Int32) (k_dataLeft : Int32) (k_last : Int32) (k_dataTo : Int32) (k_bytesCame : Int32) (k_came : Int32) (k_cameX : Int32) (k_cameY : Int32) (k_glyphs : Int32) (k_allGlyphs : Int32) (k_touched : Int32) (k_glyph : Nat) (k_pages : Int32) (k_page : Nat) (k_others : Int32) (k_other : Nat) (k_stored : Int32) (k_store : Nat) (c1 : ClassId) (g : Nat → Int32) (A : Nat → Prop) (u : Unit) (t : State) : Prop := match u with
  | _ => va_P (dC, dI) vcl [(h0, .inr (13, [.int k_thrown, .ref k_state, .ref k_kept, .ref k_isKept, .int 2, .int 0, .int k_copies, .int 57600, .int 79200, .ref k_steps, .int k_phase, .int k_family, .int k_group, .int k_part, .int k_signed, .int k_negative, .int k_whole, .int k_behind, .int k_places, .int k_dataLeft, .int k_last, .int k_dataTo, .int k_bytesCame, .int k_came, .int k_cameX, .int k_cameY, .int k_glyphs, .int k_allGlyphs, .int k_touched, .ref k_glyph, .int k_pages, .ref k_page, .int k_others, .ref k_other, .int k_stored, .ref k_store])), (k_state, .inl (c1, 53, .inl (upd (upd (upd (upd (upd (upd (upd (upd g 6 720) 7 1200) 4 3600) 5 72000) 2 0) 3 57600) 0 0) 1 4500)))] t.heap ∧ va_K (dC, dI) vcl [(c1, .int)] t ∧ va_D A [(h0, .inr (13, [.int k_thrown, .ref k_state, .ref k_kept, .ref k_isKept, .int 2, .int 0, .int k_copies, .int 57600, .int 79200, .ref k_steps, .int k_phase, .int k_family, .int k_group, .int k_part, .int k_signed, .int k_negative, .int k_whole, .int k_behind, .int k_places, .int k_dataLeft, .int k_last, .int k_dataTo, .int k_bytesCame, .int k_came, .int k_cameX, .int k_cameY, .int k_glyphs, .int k_allGlyphs, .int k_touched, .ref k_glyph, .int k_pages, .ref k_page, .int k_others, .ref k_other, .int k_stored, .ref k_store])), (k_state, .inl (c1, 53, .inl (upd (upd (upd (upd (upd (upd (upd (upd g 6 720) 7 1200) 4 3600) 5 72000) 2 0) 3 57600) 0 0) 1 4500)))]
abbrev po_c_Desk_defaults_0 (h0 : Nat) (k_thrown : Int32) (k_state : Nat) (k_kept : Nat) (k_isKept : Nat) (k_copies : Int32) (k_width : Int32) (k_height : Int32) (k_steps : Nat) (k_phase : Int32) (k_family : Int32) (k_group : Int32) (k_part : Int32) (k_signed : Int32) (k_negative : Int32) (k_whole : Int32) (k_behind : Int32) (k_places : Int32) (k_dataLeft : Int32) (k_last : Int32) (k_dataTo : Int32) (k_bytesCame : Int32) (k_came : Int32) (k_cameX : Int32) (k_cameY : Int32) (k_glyphs : Int32) (k_allGlyphs : Int32) (k_touched : Int32) (k_glyph : Nat) (k_pages : Int32) (k_page : Nat) (k_others : Int32) (k_other : Nat) (k_stored : Int32) (k_store : Nat) (c1 : ClassId) (g : Nat → Int32) (u : Unit) : Prop := match u with
  | _ => True
abbrev q_c_Desk_defaults_0 (dC : Nat → ClassId) (dI : Nat → Nat → Nat) (h0 : Nat) (k_thrown : Int32) (k_state : Nat) (k_kept : Nat) (k_isKept : Nat) (k_copies : Int32) (k_width : Int32) (k_height : Int32) (k_steps : Nat) (k_phase : Int32) (k_family : Int32) (k_group : Int32) (k_part : Int32) (k_signed : Int32) (k_negative : Int32) (k_whole : Int32) (k_behind : Int32) (k_places : Int32) (k_dataLeft : Int32) (k_last : Int32) (k_dataTo : Int32) (k_bytesCame : Int32) (k_came : Int32) (k_cameX : Int32) (k_cameY : Int32) (k_glyphs : Int32) (k_allGlyphs : Int32) (k_touched : Int32) (k_glyph : Nat) (k_pages : Int32) (k_page : Nat) (k_others : Int32) (k_other : Nat) (k_stored : Int32) (k_store : Nat) (c1 : ClassId) (g : Nat → Int32) (A : Nat → Prop) : Array Value → State → Outcome → State → Prop := va_Qv (po_c_Desk_defaults_0 h0 k_thrown k_state k_kept k_isKept k_copies k_width k_height k_steps k_phase k_family k_group k_part k_signed k_negative k_whole k_behind k_places k_dataLeft k_last k_dataTo k_bytesCame k_came k_cameX k_cameY k_glyphs k_allGlyphs k_touched k_glyph k_pages k_page k_others k_other k_stored k_store c1 g) (at_c_Desk_defaults_0 dC dI h0 k_thrown k_state k_kept k_isKept k_copies k_width k_height k_steps k_phase k_family k_group k_part k_signed k_negative k_whole k_behind k_places k_dataLeft k_last k_dataTo k_bytesCame k_came k_cameX k_cameY k_glyphs k_allGlyphs k_touched k_glyph k_pages k_page k_others k_other k_stored k_store c1 g A) A
abbrev rm_c_Desk_defaults_0 : Room := { frames := 2, cells := 0, slots := 0, locals := 44 }
set_option maxHeartbeats 4000000 in
set_option maxRecDepth 100000 in
theorem c_Desk_defaults_0 (l : Launch) (dC : Nat → ClassId) (dI : Nat → Nat → Nat) (tt : Nat → Nat) (h0 : Nat) (k_thrown : Int32) (k_state : Nat) (k_kept : Nat) (k_isKept : Nat) (k_copies : Int32) (k_width : Int32) (k_height : Int32) (k_steps : Nat) (k_phase : Int32) (k_family : Int32) (k_group : Int32) (k_part : Int32) (k_signed : Int32) (k_negative : Int32) (k_whole : Int32) (k_behind : Int32) (k_places : Int32) (k_dataLeft : Int32) (k_last : Int32) (k_dataTo : Int32) (k_bytesCame : Int32) (k_came : Int32) (k_cameX : Int32) (k_cameY : Int32) (k_glyphs : Int32) (k_allGlyphs : Int32) (k_touched : Int32) (k_glyph : Nat) (k_pages : Int32) (k_page : Nat) (k_others : Int32) (k_other : Nat) (k_stored : Int32) (k_store : Nat) (c1 : ClassId) (g : Nat → Int32) (sz : Nat)  : Met l y_mDesk_defaults w_mDesk_defaults rm_c_Desk_defaults_0 (va_Pc [.ref h0] (fun U => U.heap.size = sz ∧ va_P (dC, dI) vcl [(h0, .inr (13, [.int k_thrown, .ref k_state, .ref k_kept, .ref k_isKept, .int 2, .int 0, .int k_copies, .int k_width, .int k_height, .ref k_steps, .int k_phase, .int k_family, .int k_group, .int k_part, .int k_signed, .int k_negative, .int k_whole, .int k_behind, .int k_places, .int k_dataLeft, .int k_last, .int k_dataTo, .int k_bytesCame, .int k_came, .int k_cameX, .int k_cameY, .int k_glyphs, .int k_allGlyphs, .int k_touched, .ref k_glyph, .int k_pages, .ref k_page, .int k_others, .ref k_other, .int k_stored, .ref k_store])), (k_state, .inl (c1, 53, .inl (upd (upd g 6 720) 7 1200)))] U.heap ∧ va_K (dC, dI) vcl [(c1, .int)] U ∧ va_D (fun _ => True) [(h0, .inr (13, [.int k_thrown, .ref k_state, .ref k_kept, .ref k_isKept, .int 2, .int 0, .int k_copies, .int k_width, .int k_height, .ref k_steps, .int k_phase, .int k_family, .int k_group, .int k_part, .int k_signed, .int k_negative, .int k_whole, .int k_behind, .int k_places, .int k_dataLeft, .int k_last, .int k_dataTo, .int k_bytesCame, .int k_came, .int k_cameX, .int k_cameY, .int k_glyphs, .int k_allGlyphs, .int k_touched, .ref k_glyph, .int k_pages, .ref k_page, .int k_others, .ref k_other, .int k_stored, .ref k_store])), (k_state, .inl (c1, 53, .inl (upd (upd g 6 720) 7 1200)))] ∧ SF tt (va_A [(h0, .inr (13, [.int k_thrown, .ref k_state, .ref k_kept, .ref k_isKept, .int 2, .int 0, .int k_copies, .int k_width, .int k_height, .ref k_steps, .int k_phase, .int k_family, .int k_group, .int k_part, .int k_signed, .int k_negative, .int k_whole, .int k_behind, .int k_places, .int k_dataLeft, .int k_last, .int k_dataTo, .int k_bytesCame, .int k_came, .int k_cameX, .int k_cameY, .int k_glyphs, .int k_allGlyphs, .int k_touched, .ref k_glyph, .int k_pages, .ref k_page, .int k_others, .ref k_other, .int k_stored, .ref k_store])), (k_state, .inl (c1, 53, .inl (upd (upd g 6 720) 7 1200)))] sz) U U.heap)) (q_c_Desk_defaults_0 dC dI h0 k_thrown k_state k_kept k_isKept k_copies k_width k_height k_steps k_phase k_family k_group k_part k_signed k_negative k_whole k_behind k_places k_dataLeft k_last k_dataTo k_bytesCame k_came k_cameX k_cameY k_glyphs k_allGlyphs k_touched k_glyph k_pages k_page k_others k_other k_stored k_store c1 g (va_A [(h0, .inr (13, [.int k_thrown, .ref k_state, .ref k_kept, .ref k_isKept, .int 2, .int 0, .int k_copies, .int k_width, .int k_height, .ref k_steps, .int k_phase, .int k_family, .int k_group, .int k_part, .int k_signed, .int k_negative, .int k_whole, .int k_behind, .int k_places, .int k_dataLeft, .int k_last, .int k_dataTo, .int k_bytesCame, .int k_came, .int k_cameX, .int k_cameY, .int k_glyphs, .int k_allGlyphs, .int k_touched, .ref k_glyph, .int k_pages, .ref k_page, .int k_others, .ref k_other, .int k_stored, .ref k_store])), (k_state, .inl (c1, 53, .inl (upd (upd g 6 720) 7 1200)))] sz)) 0 0 (va_A [(h0, .inr (13, [.int k_thrown, .ref k_state, .ref k_kept, .ref k_isKept, .int 2, .int 0, .int k_copies, .int k_width, .int k_height, .ref k_steps, .int k_phase, .int k_family, .int k_group, .int k_part, .int k_signed, .int k_negative, .int k_whole, .int k_behind, .int k_places, .int k_dataLeft, .int k_last, .int k_dataTo, .int k_bytesCame, .int k_came, .int k_cameX, .int k_cameY, .int k_glyphs, .int k_allGlyphs, .int k_touched, .ref k_glyph, .int k_pages, .ref k_page, .int k_others, .ref k_other, .int k_stored, .ref k_store])), (k_state, .inl (c1, 53, .inl (upd (upd g 6 720) 7 1200)))] sz) := by
  refine Met.ofW (cc := b_mDesk_defaults) (maxL := 1) (ret := none) (by decide) rfl ?_
  intro p e s m args below meth c s₁ B hml hv
  obtain ⟨rfl, hsz, hP, hK, hD0, hF⟩ := hv
  have hx := B.exec
  have hb := B.bytes
  have hr := B.returns
  have hwd : ∀ w ∈ gT, w.before _ s = true := fun w h => atoms_spec (ws := w_mDesk_defaults) B.pre w (List.mem_cons_of_mem _ h)
  have hown : s.vm.findClass R_mDesk = some m.cls := findClass_of_methodNamed B.named
  have hlocks := B.notSynchronized
  subst hsz
  have hD := hD0.self (sz := s.heap.size)
  generalize hAe : va_A [(h0, .inr (13, [.int k_thrown, .ref k_state, .ref k_kept, .ref k_isKept, .int 2, .int 0, .int k_copies, .int k_width, .int k_height, .ref k_steps, .int k_phase, .int k_family, .int k_group, .int k_part, .int k_signed, .int k_negative, .int k_whole, .int k_behind, .int k_places, .int k_dataLeft, .int k_last, .int k_dataTo, .int k_bytesCame, .int k_came, .int k_cameX, .int k_cameY, .int k_glyphs, .int k_allGlyphs, .int k_touched, .ref k_glyph, .int k_pages, .ref k_page, .int k_others, .ref k_other, .int k_stored, .ref k_store])), (k_state, .inl (c1, 53, .inl (upd (upd g 6 720) 7 1200)))] s.heap.size = A at hD hF ⊢
  have hA : ∀ q : Nat, s.heap.size ≤ q → A q := fun q h => by rw [← hAe]; exact Or.inr h
  have hS : va_S A s.heap s.heap [] := va_S.rf
  have hP : va_P (dC, dI) vcl [(h0, .inr (13, [.int k_thrown, .ref k_state, .ref k_kept, .ref k_isKept, .int 2, .int 0, .int k_copies, .int k_width, .int k_height, .ref k_steps, .int k_phase, .int k_family, .int k_group, .int k_part, .int k_signed, .int k_negative, .int k_whole, .int k_behind, .int k_places, .int k_dataLeft, .int k_last, .int k_dataTo, .int k_bytesCame, .int k_came, .int k_cameX, .int k_cameY, .int k_glyphs, .int k_allGlyphs, .int k_touched, .ref k_glyph, .int k_pages, .ref k_page, .int k_others, .ref k_other, .int k_stored, .ref k_store])), (k_state, .inl (c1, 53, .inl (upd (upd g 6 720) 7 1200)))] s.heap := hP
  have hl := lv_entry ([.ref h0]) (n := 1) (Nat.le_of_ble_eq_true rfl)
  rw [lg_entry_eq]
  generalize (lg_sl ([.ref h0]) ++ List.replicate (1 - (lg_sl ([.ref h0])).length) Slot.unset).toArray = ls at hl ⊢
  have hl : lv_has ls 1 [(0, .ref h0)] := hl
  refine lv_aload_n hx hb d_mDesk_defaults_0 rfl (lv_at hl 0 rfl) ?_
  have hPc := hP.sub (ws' := [(h0, .inr (13, [.int k_thrown, .ref k_state, .ref k_kept, .ref k_isKept, .int 2, .int 0, .int k_copies, .int k_width, .int k_height, .ref k_steps, .int k_phase, .int k_family, .int k_group, .int k_part, .int k_signed, .int k_negative, .int k_whole, .int k_behind, .int k_places, .int k_dataLeft, .int k_last, .int k_dataTo, .int k_bytesCame, .int k_came, .int k_cameX, .int k_cameY, .int k_glyphs, .int k_allGlyphs, .int k_touched, .ref k_glyph, .int k_pages, .ref k_page, .int k_others, .ref k_other, .int k_stored, .ref k_store]))]) [0] rfl
  have hDc := hD.sub (ws' := [(h0, .inr (13, [.int k_thrown, .ref k_state, .ref k_kept, .ref k_isKept, .int 2, .int 0, .int k_copies, .int k_width, .int k_height, .ref k_steps, .int k_phase, .int k_family, .int k_group, .int k_part, .int k_signed, .int k_negative, .int k_whole, .int k_behind, .int k_places, .int k_dataLeft, .int k_last, .int k_dataTo, .int k_bytesCame, .int k_came, .int k_cameX, .int k_cameY, .int k_glyphs, .int k_allGlyphs, .int k_touched, .ref k_glyph, .int k_pages, .ref k_page, .int k_others, .ref k_other, .int k_stored, .ref k_store]))]) [0] (by decide) rfl
  have hKc := hK.sub (tys' := []) [] rfl
  have hFc := va_free (wc := [(h0, .inr (13, [.int k_thrown, .ref k_state, .ref k_kept, .ref k_isKept, .int 2, .int 0, .int k_copies, .int k_width, .int k_height, .ref k_steps, .int k_phase, .int k_family, .int k_group, .int k_part, .int k_signed, .int k_negative, .int k_whole, .int k_behind, .int k_places, .int k_dataLeft, .int k_last, .int k_dataTo, .int k_bytesCame, .int k_came, .int k_cameX, .int k_cameY, .int k_glyphs, .int k_allGlyphs, .int k_touched, .ref k_glyph, .int k_pages, .ref k_page, .int k_others, .ref k_other, .int k_stored, .ref k_store]))]) hD hS hA [0] rfl
  refine va_callv (va_runV (As := []) (rest := []) ⟨hx, hb, hml, hown, hwd⟩ (c_Desk_measure_2 l dC dI tt h0 k_thrown k_state k_kept k_isKept k_copies k_width k_height k_steps k_phase k_family k_group k_part k_signed k_negative k_whole k_behind k_places k_dataLeft k_last k_dataTo k_bytesCame k_came k_cameX k_cameY k_glyphs k_allGlyphs k_touched k_glyph k_pages k_page k_others k_other k_stored k_store s.heap.size ) (cwV 0 hwd (gV gd_mDesk_measure wd_9_43 wd_9_45 ws_113 wd_1_17) rfl rfl rfl (by decide +kernel) ⟨Nat.le_of_ble_eq_true rfl, Nat.le_of_ble_eq_true rfl⟩) ⟨fun a U g mk q => by obtain ⟨q0, q1, qP, qK, qD, qF⟩ := q; exact ⟨q0, q1, qP, va_K.moved (u := U) (U := U.calling g mk a) (Vm.Alike.refl U.vm) qK, qD, SF.same (u := U) (U := U.calling g mk a) rfl qF⟩, va_recv hKc hPc (ci := 13) (q0 := 0) rfl rfl, fun U hU hW => ⟨rfl, by rw [hU], by rw [hU]; exact hPc, va_K.moved hW.alike hKc, hDc.weaken (fun _ _ _ _ => trivial), by rw [hU]; exact SF.narrow (SF.moved hW (SF.kept hF (fun a h1 h2 => hS.2.1 a h1 h2))) hFc⟩⟩ rfl rfl hl.1 rfl (lv_room (Nat.le_of_ble_eq_true rfl)) d_mDesk_defaults_1 ⟨Nat.le_of_ble_eq_true rfl, Nat.le_of_ble_eq_true rfl⟩) hS (fun q _ h => hFc q h) hFc ?_
  clear hPc hDc hKc hS
  intro u_2 t H1 locs ht hvm hw hB hz1 hk1 hS
  obtain ⟨hP1, hK1, hD1⟩ := hB
  rw [ht] at hP1
  have hK1 := va_K.moved hvm.symm hK1
  try dsimp only at hw
  have hJ := va_join (wr := [(k_state, .inl (c1, 53, .inl (upd (upd g 6 720) 7 1200)))]) (w1 := [(h0, .inr (13, [.int k_thrown, .ref k_state, .ref k_kept, .ref k_isKept, .int 2, .int 0, .int k_copies, .int 57600, .int 79200, .ref k_steps, .int k_phase, .int k_family, .int k_group, .int k_part, .int k_signed, .int k_negative, .int k_whole, .int k_behind, .int k_places, .int k_dataLeft, .int k_last, .int k_dataTo, .int k_bytesCame, .int k_came, .int k_cameX, .int k_cameY, .int k_glyphs, .int k_allGlyphs, .int k_touched, .ref k_glyph, .int k_pages, .ref k_page, .int k_others, .ref k_other, .int k_stored, .ref k_store]))]) hP hD [0] [1] rfl rfl (by decide) (by decide) hk1 hFc hP1 hD1
  clear hP hD hk1 hFc hP1 hD1 hz1
  obtain ⟨hP, hD⟩ := hJ
  clear hK1 ht hvm
  generalize H1 = H at hP hS ⊢
  replace hP : va_P (dC, dI) vcl [(k_state, .inl (c1, 53, .inl (upd (upd g 6 720) 7 1200))), (h0, .inr (13, [.int k_thrown, .ref k_state, .ref k_kept, .ref k_isKept, .int 2, .int 0, .int k_copies, .int 57600, .int 79200, .ref k_steps, .int k_phase, .int k_family, .int k_group, .int k_part, .int k_signed, .int k_negative, .int k_whole, .int k_behind, .int k_places, .int k_dataLeft, .int k_last, .int k_dataTo, .int k_bytesCame, .int k_came, .int k_cameX, .int k_cameY, .int k_glyphs, .int k_allGlyphs, .int k_touched, .ref k_glyph, .int k_pages, .ref k_page, .int k_others, .ref k_other, .int k_stored, .ref k_store]))] H := hP
  replace hD : va_D A [(k_state, .inl (c1, 53, .inl (upd (upd g 6 720) 7 1200))), (h0, .inr (13, [.int k_thrown, .ref k_state, .ref k_kept, .ref k_isKept, .int 2, .int 0, .int k_copies, .int 57600, .int 79200, .ref k_steps, .int k_phase, .int k_family, .int k_group, .int k_part, .int k_signed, .int k_negative, .int k_whole, .int k_behind, .int k_places, .int k_dataLeft, .int k_last, .int k_dataTo, .int k_bytesCame, .int k_came, .int k_cameX, .int k_cameY, .int k_glyphs, .int k_allGlyphs, .int k_touched, .ref k_glyph, .int k_pages, .ref k_page, .int k_others, .ref k_other, .int k_stored, .ref k_store]))] := hD
  refine lv_aload_n hx hb d_mDesk_defaults_4 rfl (lv_at hl 0 rfl) ?_
  refine va_get (D := (dC, dI)) (ci := 13) (v := .ref k_state) (C := R_mDesk) (T := F_mDesk) (N := 36) hx hb hwd i_mDesk hown hK hP 1 rfl rfl 1 (by decide) (hwd _ wd_9_77) (fun _ h9 => h9) rfl d_mDesk_defaults_5 ?_
  refine lv_iconst (v := 4) hx hb d_mDesk_defaults_8 (by decide) ?_
  refine lv_sipush (v := 3600) hx hb d_mDesk_defaults_9 (by decide) ?_
  refine va_iast hx hb hK hP hD hS 0 0 rfl rfl (show ¬ ((4 : Int32) < 0 ∨ 53 ≤ (4 : Int32).toNatClampNeg) by decide) d_mDesk_defaults_12 ?_
  clear hP hD hS
  intro H locs hP hD hS
  rw [show (4 : Int32).toNatClampNeg = 4 by decide] at hP hD
  replace hP : va_P (dC, dI) vcl [(k_state, .inl (c1, 53, .inl (upd (upd (upd g 6 720) 7 1200) 4 3600))), (h0, .inr (13, [.int k_thrown, .ref k_state, .ref k_kept, .ref k_isKept, .int 2, .int 0, .int k_copies, .int 57600, .int 79200, .ref k_steps, .int k_phase, .int k_family, .int k_group, .int k_part, .int k_signed, .int k_negative, .int k_whole, .int k_behind, .int k_places, .int k_dataLeft, .int k_last, .int k_dataTo, .int k_bytesCame, .int k_came, .int k_cameX, .int k_cameY, .int k_glyphs, .int k_allGlyphs, .int k_touched, .ref k_glyph, .int k_pages, .ref k_page, .int k_others, .ref k_other, .int k_stored, .ref k_store]))] H := hP
  replace hD : va_D A [(k_state, .inl (c1, 53, .inl (upd (upd (upd g 6 720) 7 1200) 4 3600))), (h0, .inr (13, [.int k_thrown, .ref k_state, .ref k_kept, .ref k_isKept, .int 2, .int 0, .int k_copies, .int 57600, .int 79200, .ref k_steps, .int k_phase, .int k_family, .int k_group, .int k_part, .int k_signed, .int k_negative, .int k_whole, .int k_behind, .int k_places, .int k_dataLeft, .int k_last, .int k_dataTo, .int k_bytesCame, .int k_came, .int k_cameX, .int k_cameY, .int k_glyphs, .int k_allGlyphs, .int k_touched, .ref k_glyph, .int k_pages, .ref k_page, .int k_others, .ref k_other, .int k_stored, .ref k_store]))] := hD
  refine lv_aload_n hx hb d_mDesk_defaults_13 rfl (lv_at hl 0 rfl) ?_
  refine va_get (D := (dC, dI)) (ci := 13) (v := .ref k_state) (C := R_mDesk) (T := F_mDesk) (N := 36) hx hb hwd i_mDesk hown hK hP 1 rfl rfl 1 (by decide) (hwd _ wd_9_77) (fun _ h9 => h9) rfl d_mDesk_defaults_14 ?_
  refine lv_iconst (v := 5) hx hb d_mDesk_defaults_17 (by decide) ?_
  refine lv_aload_n hx hb d_mDesk_defaults_18 rfl (lv_at hl 0 rfl) ?_
  refine va_get (D := (dC, dI)) (ci := 13) (v := .int 79200) (C := R_mDesk) (T := F_mDesk) (N := 36) hx hb hwd i_mDesk hown hK hP 1 rfl rfl 8 (by decide) (hwd _ wd_9_87) (fun _ h9 => h9) rfl d_mDesk_defaults_19 ?_
  refine lv_sipush (v := 7200) hx hb d_mDesk_defaults_22 (by decide) ?_
  refine lv_isub hx hb d_mDesk_defaults_25 ?_
  refine lv_topi (fun y_3 ey_3 => ?_)
  obtain rfl : y_3 = (72000 : Int32) := ey_3.trans (by decide)
  refine va_iast hx hb hK hP hD hS 0 0 rfl rfl (show ¬ ((5 : Int32) < 0 ∨ 53 ≤ (5 : Int32).toNatClampNeg) by decide) d_mDesk_defaults_26 ?_
  clear hP hD hS
  intro H locs hP hD hS
  rw [show (5 : Int32).toNatClampNeg = 5 by decide] at hP hD
  replace hP : va_P (dC, dI) vcl [(k_state, .inl (c1, 53, .inl (upd (upd (upd (upd g 6 720) 7 1200) 4 3600) 5 72000))), (h0, .inr (13, [.int k_thrown, .ref k_state, .ref k_kept, .ref k_isKept, .int 2, .int 0, .int k_copies, .int 57600, .int 79200, .ref k_steps, .int k_phase, .int k_family, .int k_group, .int k_part, .int k_signed, .int k_negative, .int k_whole, .int k_behind, .int k_places, .int k_dataLeft, .int k_last, .int k_dataTo, .int k_bytesCame, .int k_came, .int k_cameX, .int k_cameY, .int k_glyphs, .int k_allGlyphs, .int k_touched, .ref k_glyph, .int k_pages, .ref k_page, .int k_others, .ref k_other, .int k_stored, .ref k_store]))] H := hP
  replace hD : va_D A [(k_state, .inl (c1, 53, .inl (upd (upd (upd (upd g 6 720) 7 1200) 4 3600) 5 72000))), (h0, .inr (13, [.int k_thrown, .ref k_state, .ref k_kept, .ref k_isKept, .int 2, .int 0, .int k_copies, .int 57600, .int 79200, .ref k_steps, .int k_phase, .int k_family, .int k_group, .int k_part, .int k_signed, .int k_negative, .int k_whole, .int k_behind, .int k_places, .int k_dataLeft, .int k_last, .int k_dataTo, .int k_bytesCame, .int k_came, .int k_cameX, .int k_cameY, .int k_glyphs, .int k_allGlyphs, .int k_touched, .ref k_glyph, .int k_pages, .ref k_page, .int k_others, .ref k_other, .int k_stored, .ref k_store]))] := hD
  refine lv_aload_n hx hb d_mDesk_defaults_27 rfl (lv_at hl 0 rfl) ?_
  refine va_get (D := (dC, dI)) (ci := 13) (v := .ref k_state) (C := R_mDesk) (T := F_mDesk) (N := 36) hx hb hwd i_mDesk hown hK hP 1 rfl rfl 1 (by decide) (hwd _ wd_9_77) (fun _ h9 => h9) rfl d_mDesk_defaults_28 ?_
  refine lv_iconst (v := 2) hx hb d_mDesk_defaults_31 (by decide) ?_
  refine lv_iconst (v := 0) hx hb d_mDesk_defaults_32 (by decide) ?_
  refine va_iast hx hb hK hP hD hS 0 0 rfl rfl (show ¬ ((2 : Int32) < 0 ∨ 53 ≤ (2 : Int32).toNatClampNeg) by decide) d_mDesk_defaults_33 ?_
  clear hP hD hS
  intro H locs hP hD hS
  rw [show (2 : Int32).toNatClampNeg = 2 by decide] at hP hD
  replace hP : va_P (dC, dI) vcl [(k_state, .inl (c1, 53, .inl (upd (upd (upd (upd (upd g 6 720) 7 1200) 4 3600) 5 72000) 2 0))), (h0, .inr (13, [.int k_thrown, .ref k_state, .ref k_kept, .ref k_isKept, .int 2, .int 0, .int k_copies, .int 57600, .int 79200, .ref k_steps, .int k_phase, .int k_family, .int k_group, .int k_part, .int k_signed, .int k_negative, .int k_whole, .int k_behind, .int k_places, .int k_dataLeft, .int k_last, .int k_dataTo, .int k_bytesCame, .int k_came, .int k_cameX, .int k_cameY, .int k_glyphs, .int k_allGlyphs, .int k_touched, .ref k_glyph, .int k_pages, .ref k_page, .int k_others, .ref k_other, .int k_stored, .ref k_store]))] H := hP
  replace hD : va_D A [(k_state, .inl (c1, 53, .inl (upd (upd (upd (upd (upd g 6 720) 7 1200) 4 3600) 5 72000) 2 0))), (h0, .inr (13, [.int k_thrown, .ref k_state, .ref k_kept, .ref k_isKept, .int 2, .int 0, .int k_copies, .int 57600, .int 79200, .ref k_steps, .int k_phase, .int k_family, .int k_group, .int k_part, .int k_signed, .int k_negative, .int k_whole, .int k_behind, .int k_places, .int k_dataLeft, .int k_last, .int k_dataTo, .int k_bytesCame, .int k_came, .int k_cameX, .int k_cameY, .int k_glyphs, .int k_allGlyphs, .int k_touched, .ref k_glyph, .int k_pages, .ref k_page, .int k_others, .ref k_other, .int k_stored, .ref k_store]))] := hD
  refine lv_aload_n hx hb d_mDesk_defaults_34 rfl (lv_at hl 0 rfl) ?_
  refine va_get (D := (dC, dI)) (ci := 13) (v := .ref k_state) (C := R_mDesk) (T := F_mDesk) (N := 36) hx hb hwd i_mDesk hown hK hP 1 rfl rfl 1 (by decide) (hwd _ wd_9_77) (fun _ h9 => h9) rfl d_mDesk_defaults_35 ?_
  refine lv_iconst (v := 3) hx hb d_mDesk_defaults_38 (by decide) ?_
  refine lv_aload_n hx hb d_mDesk_defaults_39 rfl (lv_at hl 0 rfl) ?_
  refine va_get (D := (dC, dI)) (ci := 13) (v := .int 57600) (C := R_mDesk) (T := F_mDesk) (N := 36) hx hb hwd i_mDesk hown hK hP 1 rfl rfl 7 (by decide) (hwd _ wd_9_86) (fun _ h9 => h9) rfl d_mDesk_defaults_40 ?_
  refine va_iast hx hb hK hP hD hS 0 0 rfl rfl (show ¬ ((3 : Int32) < 0 ∨ 53 ≤ (3 : Int32).toNatClampNeg) by decide) d_mDesk_defaults_43 ?_
  clear hP hD hS
  intro H locs hP hD hS
  rw [show (3 : Int32).toNatClampNeg = 3 by decide] at hP hD
  replace hP : va_P (dC, dI) vcl [(k_state, .inl (c1, 53, .inl (upd (upd (upd (upd (upd (upd g 6 720) 7 1200) 4 3600) 5 72000) 2 0) 3 57600))), (h0, .inr (13, [.int k_thrown, .ref k_state, .ref k_kept, .ref k_isKept, .int 2, .int 0, .int k_copies, .int 57600, .int 79200, .ref k_steps, .int k_phase, .int k_family, .int k_group, .int k_part, .int k_signed, .int k_negative, .int k_whole, .int k_behind, .int k_places, .int k_dataLeft, .int k_last, .int k_dataTo, .int k_bytesCame, .int k_came, .int k_cameX, .int k_cameY, .int k_glyphs, .int k_allGlyphs, .int k_touched, .ref k_glyph, .int k_pages, .ref k_page, .int k_others, .ref k_other, .int k_stored, .ref k_store]))] H := hP
  replace hD : va_D A [(k_state, .inl (c1, 53, .inl (upd (upd (upd (upd (upd (upd g 6 720) 7 1200) 4 3600) 5 72000) 2 0) 3 57600))), (h0, .inr (13, [.int k_thrown, .ref k_state, .ref k_kept, .ref k_isKept, .int 2, .int 0, .int k_copies, .int 57600, .int 79200, .ref k_steps, .int k_phase, .int k_family, .int k_group, .int k_part, .int k_signed, .int k_negative, .int k_whole, .int k_behind, .int k_places, .int k_dataLeft, .int k_last, .int k_dataTo, .int k_bytesCame, .int k_came, .int k_cameX, .int k_cameY, .int k_glyphs, .int k_allGlyphs, .int k_touched, .ref k_glyph, .int k_pages, .ref k_page, .int k_others, .ref k_other, .int k_stored, .ref k_store]))] := hD
  refine lv_aload_n hx hb d_mDesk_defaults_44 rfl (lv_at hl 0 rfl) ?_
  refine lv_lconst (v := 0) hx hb d_mDesk_defaults_45 (by decide) ?_
  have hPc := hP.sub (ws' := [(h0, .inr (13, [.int k_thrown, .ref k_state, .ref k_kept, .ref k_isKept, .int 2, .int 0, .int k_copies, .int 57600, .int 79200, .ref k_steps, .int k_phase, .int k_family, .int k_group, .int k_part, .int k_signed, .int k_negative, .int k_whole, .int k_behind, .int k_places, .int k_dataLeft, .int k_last, .int k_dataTo, .int k_bytesCame, .int k_came, .int k_cameX, .int k_cameY, .int k_glyphs, .int k_allGlyphs, .int k_touched, .ref k_glyph, .int k_pages, .ref k_page, .int k_others, .ref k_other, .int k_stored, .ref k_store])), (k_state, .inl (c1, 53, .inl (upd (upd (upd (upd (upd (upd g 6 720) 7 1200) 4 3600) 5 72000) 2 0) 3 57600)))]) [1, 0] rfl
  have hDc := hD.sub (ws' := [(h0, .inr (13, [.int k_thrown, .ref k_state, .ref k_kept, .ref k_isKept, .int 2, .int 0, .int k_copies, .int 57600, .int 79200, .ref k_steps, .int k_phase, .int k_family, .int k_group, .int k_part, .int k_signed, .int k_negative, .int k_whole, .int k_behind, .int k_places, .int k_dataLeft, .int k_last, .int k_dataTo, .int k_bytesCame, .int k_came, .int k_cameX, .int k_cameY, .int k_glyphs, .int k_allGlyphs, .int k_touched, .ref k_glyph, .int k_pages, .ref k_page, .int k_others, .ref k_other, .int k_stored, .ref k_store])), (k_state, .inl (c1, 53, .inl (upd (upd (upd (upd (upd (upd g 6 720) 7 1200) 4 3600) 5 72000) 2 0) 3 57600)))]) [1, 0] (by decide) rfl
  have hKc := hK.sub (tys' := [(c1, .int)]) [0] rfl
  have hFc := va_free (wc := [(h0, .inr (13, [.int k_thrown, .ref k_state, .ref k_kept, .ref k_isKept, .int 2, .int 0, .int k_copies, .int 57600, .int 79200, .ref k_steps, .int k_phase, .int k_family, .int k_group, .int k_part, .int k_signed, .int k_negative, .int k_whole, .int k_behind, .int k_places, .int k_dataLeft, .int k_last, .int k_dataTo, .int k_bytesCame, .int k_came, .int k_cameX, .int k_cameY, .int k_glyphs, .int k_allGlyphs, .int k_touched, .ref k_glyph, .int k_pages, .ref k_page, .int k_others, .ref k_other, .int k_stored, .ref k_store])), (k_state, .inl (c1, 53, .inl (upd (upd (upd (upd (upd (upd g 6 720) 7 1200) 4 3600) 5 72000) 2 0) 3 57600)))]) hD hS hA [1, 0] rfl
  refine va_callv (va_runV (As := [.long 0]) (rest := []) ⟨hx, hb, hml, hown, hwd⟩ (c_Desk_setX_0 l dC dI tt h0 k_thrown k_state k_kept k_isKept 2 0 k_copies k_steps k_phase k_family k_group k_part k_signed k_negative k_whole k_behind k_places k_dataLeft k_last k_dataTo k_bytesCame k_came k_cameX k_cameY k_glyphs k_allGlyphs k_touched k_glyph k_pages k_page k_others k_other k_stored k_store c1 (upd (upd (upd (upd (upd (upd g 6 720) 7 1200) 4 3600) 5 72000) 2 0) 3 57600) H.size ) (cwV 1 hwd (gV gd_mDesk_setX wd_9_61 wd_9_63 ws_114 wd_1_17) rfl rfl rfl (by decide +kernel) ⟨Nat.le_of_ble_eq_true rfl, Nat.le_of_ble_eq_true rfl⟩) ⟨fun a U g mk q => by obtain ⟨q0, q1, qP, qK, qD, qF⟩ := q; exact ⟨q0, q1, qP, va_K.moved (u := U) (U := U.calling g mk a) (Vm.Alike.refl U.vm) qK, qD, SF.same (u := U) (U := U.calling g mk a) rfl qF⟩, va_recv hKc hPc (ci := 13) (q0 := 0) rfl rfl, fun U hU hW => ⟨rfl, by rw [hU], by rw [hU]; exact hPc, va_K.moved hW.alike hKc, hDc.weaken (fun _ _ _ _ => trivial), by rw [hU]; exact SF.narrow (SF.moved hW (SF.kept hF (fun a h1 h2 => hS.2.1 a h1 h2))) hFc⟩⟩ rfl rfl hl.1 rfl (lv_room (Nat.le_of_ble_eq_true rfl)) d_mDesk_defaults_46 ⟨Nat.le_of_ble_eq_true rfl, Nat.le_of_ble_eq_true rfl⟩) hS (fun q _ h => hFc q h) hFc ?_
  clear hPc hDc hKc hS
  intro u_5 t H1 locs ht hvm hw hB hz1 hk1 hS
  obtain ⟨hP1, hK1, hD1⟩ := hB
  rw [ht] at hP1
  have hK1 := va_K.moved hvm.symm hK1
  try dsimp only at hw
  have hJ := va_join (wr := []) (w1 := [(h0, .inr (13, [.int k_thrown, .ref k_state, .ref k_kept, .ref k_isKept, .int 2, .int 0, .int k_copies, .int 57600, .int 79200, .ref k_steps, .int k_phase, .int k_family, .int k_group, .int k_part, .int k_signed, .int k_negative, .int k_whole, .int k_behind, .int k_places, .int k_dataLeft, .int k_last, .int k_dataTo, .int k_bytesCame, .int k_came, .int k_cameX, .int k_cameY, .int k_glyphs, .int k_allGlyphs, .int k_touched, .ref k_glyph, .int k_pages, .ref k_page, .int k_others, .ref k_other, .int k_stored, .ref k_store])), (k_state, .inl (c1, 53, .inl (upd (upd (upd (upd (upd (upd (upd g 6 720) 7 1200) 4 3600) 5 72000) 2 0) 3 57600) 0 0)))]) hP hD [1, 0] [] rfl rfl (by decide) (by decide) hk1 hFc hP1 hD1
  clear hP hD hk1 hFc hP1 hD1 hz1
  obtain ⟨hP, hD⟩ := hJ
  clear hK1 ht hvm
  generalize H1 = H at hP hS ⊢
  replace hP : va_P (dC, dI) vcl [(h0, .inr (13, [.int k_thrown, .ref k_state, .ref k_kept, .ref k_isKept, .int 2, .int 0, .int k_copies, .int 57600, .int 79200, .ref k_steps, .int k_phase, .int k_family, .int k_group, .int k_part, .int k_signed, .int k_negative, .int k_whole, .int k_behind, .int k_places, .int k_dataLeft, .int k_last, .int k_dataTo, .int k_bytesCame, .int k_came, .int k_cameX, .int k_cameY, .int k_glyphs, .int k_allGlyphs, .int k_touched, .ref k_glyph, .int k_pages, .ref k_page, .int k_others, .ref k_other, .int k_stored, .ref k_store])), (k_state, .inl (c1, 53, .inl (upd (upd (upd (upd (upd (upd (upd g 6 720) 7 1200) 4 3600) 5 72000) 2 0) 3 57600) 0 0)))] H := hP
  replace hD : va_D A [(h0, .inr (13, [.int k_thrown, .ref k_state, .ref k_kept, .ref k_isKept, .int 2, .int 0, .int k_copies, .int 57600, .int 79200, .ref k_steps, .int k_phase, .int k_family, .int k_group, .int k_part, .int k_signed, .int k_negative, .int k_whole, .int k_behind, .int k_places, .int k_dataLeft, .int k_last, .int k_dataTo, .int k_bytesCame, .int k_came, .int k_cameX, .int k_cameY, .int k_glyphs, .int k_allGlyphs, .int k_touched, .ref k_glyph, .int k_pages, .ref k_page, .int k_others, .ref k_other, .int k_stored, .ref k_store])), (k_state, .inl (c1, 53, .inl (upd (upd (upd (upd (upd (upd (upd g 6 720) 7 1200) 4 3600) 5 72000) 2 0) 3 57600) 0 0)))] := hD
  refine lv_aload_n hx hb d_mDesk_defaults_49 rfl (lv_at hl 0 rfl) ?_
  refine lv_aload_n hx hb d_mDesk_defaults_50 rfl (lv_at hl 0 rfl) ?_
  have hPc := hP.sub (ws' := [(h0, .inr (13, [.int k_thrown, .ref k_state, .ref k_kept, .ref k_isKept, .int 2, .int 0, .int k_copies, .int 57600, .int 79200, .ref k_steps, .int k_phase, .int k_family, .int k_group, .int k_part, .int k_signed, .int k_negative, .int k_whole, .int k_behind, .int k_places, .int k_dataLeft, .int k_last, .int k_dataTo, .int k_bytesCame, .int k_came, .int k_cameX, .int k_cameY, .int k_glyphs, .int k_allGlyphs, .int k_touched, .ref k_glyph, .int k_pages, .ref k_page, .int k_others, .ref k_other, .int k_stored, .ref k_store])), (k_state, .inl (c1, 53, .inl (upd (upd (upd (upd (upd (upd (upd g 6 720) 7 1200) 4 3600) 5 72000) 2 0) 3 57600) 0 0)))]) [0, 1] rfl
  have hDc := hD.sub (ws' := [(h0, .inr (13, [.int k_thrown, .ref k_state, .ref k_kept, .ref k_isKept, .int 2, .int 0, .int k_copies, .int 57600, .int 79200, .ref k_steps, .int k_phase, .int k_family, .int k_group, .int k_part, .int k_signed, .int k_negative, .int k_whole, .int k_behind, .int k_places, .int k_dataLeft, .int k_last, .int k_dataTo, .int k_bytesCame, .int k_came, .int k_cameX, .int k_cameY, .int k_glyphs, .int k_allGlyphs, .int k_touched, .ref k_glyph, .int k_pages, .ref k_page, .int k_others, .ref k_other, .int k_stored, .ref k_store])), (k_state, .inl (c1, 53, .inl (upd (upd (upd (upd (upd (upd (upd g 6 720) 7 1200) 4 3600) 5 72000) 2 0) 3 57600) 0 0)))]) [0, 1] (by decide) rfl
  have hKc := hK.sub (tys' := [(c1, .int)]) [0] rfl
  have hFc := va_free (wc := [(h0, .inr (13, [.int k_thrown, .ref k_state, .ref k_kept, .ref k_isKept, .int 2, .int 0, .int k_copies, .int 57600, .int 79200, .ref k_steps, .int k_phase, .int k_family, .int k_group, .int k_part, .int k_signed, .int k_negative, .int k_whole, .int k_behind, .int k_places, .int k_dataLeft, .int k_last, .int k_dataTo, .int k_bytesCame, .int k_came, .int k_cameX, .int k_cameY, .int k_glyphs, .int k_allGlyphs, .int k_touched, .ref k_glyph, .int k_pages, .ref k_page, .int k_others, .ref k_other, .int k_stored, .ref k_store])), (k_state, .inl (c1, 53, .inl (upd (upd (upd (upd (upd (upd (upd g 6 720) 7 1200) 4 3600) 5 72000) 2 0) 3 57600) 0 0)))]) hD hS hA [0, 1] rfl
  refine va_calli (va_runV (As := []) (rest := [.ref h0]) ⟨hx, hb, hml, hown, hwd⟩ (c_Desk_home l dC dI tt h0 k_thrown k_state k_kept k_isKept 2 0 k_copies 57600 79200 k_steps k_phase k_family k_group k_part k_signed k_negative k_whole k_behind k_places k_dataLeft k_last k_dataTo k_bytesCame k_came k_cameX k_cameY k_glyphs k_allGlyphs k_touched k_glyph k_pages k_page k_others k_other k_stored k_store c1 (upd (upd (upd (upd (upd (upd (upd g 6 720) 7 1200) 4 3600) 5 72000) 2 0) 3 57600) 0 0) H.size ) (cwV 0 hwd (gV gd_mDesk_home wd_9_68 wd_9_70 ws_115 wd_1_17) rfl rfl rfl (by decide +kernel) ⟨Nat.le_of_ble_eq_true rfl, Nat.le_of_ble_eq_true rfl⟩) ⟨fun a U g mk q => by obtain ⟨q0, q1, qP, qK, qD, qF⟩ := q; exact ⟨q0, q1, qP, va_K.moved (u := U) (U := U.calling g mk a) (Vm.Alike.refl U.vm) qK, qD, SF.same (u := U) (U := U.calling g mk a) rfl qF⟩, va_recv hKc hPc (ci := 13) (q0 := 0) rfl rfl, fun U hU hW => ⟨rfl, by rw [hU], by rw [hU]; exact hPc, va_K.moved hW.alike hKc, hDc.weaken (fun _ _ _ _ => trivial), by rw [hU]; exact SF.narrow (SF.moved hW (SF.kept hF (fun a h1 h2 => hS.2.1 a h1 h2))) hFc⟩⟩ rfl rfl hl.1 rfl (lv_room (Nat.le_of_ble_eq_true rfl)) d_mDesk_defaults_51 ⟨Nat.le_of_ble_eq_true rfl, Nat.le_of_ble_eq_true rfl⟩) hS (fun q _ h => hFc q h) hFc ?_
  clear hPc hDc hKc hS
  intro r_6 u_7 t H1 locs ht hvm hw hB hz1 hk1 hS
  obtain ⟨hP1, hK1, hD1⟩ := hB
  rw [ht] at hP1
  have hK1 := va_K.moved hvm.symm hK1
  try dsimp only at hw
  have hJ := va_join (wr := []) (w1 := [(h0, .inr (13, [.int k_thrown, .ref k_state, .ref k_kept, .ref k_isKept, .int 2, .int 0, .int k_copies, .int 57600, .int 79200, .ref k_steps, .int k_phase, .int k_family, .int k_group, .int k_part, .int k_signed, .int k_negative, .int k_whole, .int k_behind, .int k_places, .int k_dataLeft, .int k_last, .int k_dataTo, .int k_bytesCame, .int k_came, .int k_cameX, .int k_cameY, .int k_glyphs, .int k_allGlyphs, .int k_touched, .ref k_glyph, .int k_pages, .ref k_page, .int k_others, .ref k_other, .int k_stored, .ref k_store])), (k_state, .inl (c1, 53, .inl (upd (upd (upd (upd (upd (upd (upd g 6 720) 7 1200) 4 3600) 5 72000) 2 0) 3 57600) 0 0)))]) hP hD [0, 1] [] rfl rfl (by decide) (by decide) hk1 hFc hP1 hD1
  clear hP hD hk1 hFc hP1 hD1 hz1
  obtain ⟨hP, hD⟩ := hJ
  clear hK1 ht hvm
  generalize H1 = H at hP hS ⊢
  replace hP : va_P (dC, dI) vcl [(h0, .inr (13, [.int k_thrown, .ref k_state, .ref k_kept, .ref k_isKept, .int 2, .int 0, .int k_copies, .int 57600, .int 79200, .ref k_steps, .int k_phase, .int k_family, .int k_group, .int k_part, .int k_signed, .int k_negative, .int k_whole, .int k_behind, .int k_places, .int k_dataLeft, .int k_last, .int k_dataTo, .int k_bytesCame, .int k_came, .int k_cameX, .int k_cameY, .int k_glyphs, .int k_allGlyphs, .int k_touched, .ref k_glyph, .int k_pages, .ref k_page, .int k_others, .ref k_other, .int k_stored, .ref k_store])), (k_state, .inl (c1, 53, .inl (upd (upd (upd (upd (upd (upd (upd g 6 720) 7 1200) 4 3600) 5 72000) 2 0) 3 57600) 0 0)))] H := hP
  replace hD : va_D A [(h0, .inr (13, [.int k_thrown, .ref k_state, .ref k_kept, .ref k_isKept, .int 2, .int 0, .int k_copies, .int 57600, .int 79200, .ref k_steps, .int k_phase, .int k_family, .int k_group, .int k_part, .int k_signed, .int k_negative, .int k_whole, .int k_behind, .int k_places, .int k_dataLeft, .int k_last, .int k_dataTo, .int k_bytesCame, .int k_came, .int k_cameX, .int k_cameY, .int k_glyphs, .int k_allGlyphs, .int k_touched, .ref k_glyph, .int k_pages, .ref k_page, .int k_others, .ref k_other, .int k_stored, .ref k_store])), (k_state, .inl (c1, 53, .inl (upd (upd (upd (upd (upd (upd (upd g 6 720) 7 1200) 4 3600) 5 72000) 2 0) 3 57600) 0 0)))] := hD
  obtain rfl : r_6 = 4500 := hw.trans (show (3600 : Int32) + 1200 * 3 / 4 = 4500 by decide)
  refine lv_i2l (v := 4500) hx hb d_mDesk_defaults_54 (by decide) ?_
  have hPc := hP.sub (ws' := [(h0, .inr (13, [.int k_thrown, .ref k_state, .ref k_kept, .ref k_isKept, .int 2, .int 0, .int k_copies, .int 57600, .int 79200, .ref k_steps, .int k_phase, .int k_family, .int k_group, .int k_part, .int k_signed, .int k_negative, .int k_whole, .int k_behind, .int k_places, .int k_dataLeft, .int k_last, .int k_dataTo, .int k_bytesCame, .int k_came, .int k_cameX, .int k_cameY, .int k_glyphs, .int k_allGlyphs, .int k_touched, .ref k_glyph, .int k_pages, .ref k_page, .int k_others, .ref k_other, .int k_stored, .ref k_store])), (k_state, .inl (c1, 53, .inl (upd (upd (upd (upd (upd (upd (upd g 6 720) 7 1200) 4 3600) 5 72000) 2 0) 3 57600) 0 0)))]) [0, 1] rfl
  have hDc := hD.sub (ws' := [(h0, .inr (13, [.int k_thrown, .ref k_state, .ref k_kept, .ref k_isKept, .int 2, .int 0, .int k_copies, .int 57600, .int 79200, .ref k_steps, .int k_phase, .int k_family, .int k_group, .int k_part, .int k_signed, .int k_negative, .int k_whole, .int k_behind, .int k_places, .int k_dataLeft, .int k_last, .int k_dataTo, .int k_bytesCame, .int k_came, .int k_cameX, .int k_cameY, .int k_glyphs, .int k_allGlyphs, .int k_touched, .ref k_glyph, .int k_pages, .ref k_page, .int k_others, .ref k_other, .int k_stored, .ref k_store])), (k_state, .inl (c1, 53, .inl (upd (upd (upd (upd (upd (upd (upd g 6 720) 7 1200) 4 3600) 5 72000) 2 0) 3 57600) 0 0)))]) [0, 1] (by decide) rfl
  have hKc := hK.sub (tys' := [(c1, .int)]) [0] rfl
  have hFc := va_free (wc := [(h0, .inr (13, [.int k_thrown, .ref k_state, .ref k_kept, .ref k_isKept, .int 2, .int 0, .int k_copies, .int 57600, .int 79200, .ref k_steps, .int k_phase, .int k_family, .int k_group, .int k_part, .int k_signed, .int k_negative, .int k_whole, .int k_behind, .int k_places, .int k_dataLeft, .int k_last, .int k_dataTo, .int k_bytesCame, .int k_came, .int k_cameX, .int k_cameY, .int k_glyphs, .int k_allGlyphs, .int k_touched, .ref k_glyph, .int k_pages, .ref k_page, .int k_others, .ref k_other, .int k_stored, .ref k_store])), (k_state, .inl (c1, 53, .inl (upd (upd (upd (upd (upd (upd (upd g 6 720) 7 1200) 4 3600) 5 72000) 2 0) 3 57600) 0 0)))]) hD hS hA [0, 1] rfl
  refine va_callv (va_runV (As := [.long 4500]) (rest := []) ⟨hx, hb, hml, hown, hwd⟩ (c_Desk_setY_0 l dC dI tt h0 k_thrown k_state k_kept k_isKept 2 0 k_copies k_steps k_phase k_family k_group k_part k_signed k_negative k_whole k_behind k_places k_dataLeft k_last k_dataTo k_bytesCame k_came k_cameX k_cameY k_glyphs k_allGlyphs k_touched k_glyph k_pages k_page k_others k_other k_stored k_store c1 (upd (upd (upd (upd (upd (upd (upd g 6 720) 7 1200) 4 3600) 5 72000) 2 0) 3 57600) 0 0) H.size ) (cwV 1 hwd (gV gd_mDesk_setY wd_9_72 wd_9_74 ws_116 wd_1_17) rfl rfl rfl (by decide +kernel) ⟨Nat.le_of_ble_eq_true rfl, Nat.le_of_ble_eq_true rfl⟩) ⟨fun a U g mk q => by obtain ⟨q0, q1, qP, qK, qD, qF⟩ := q; exact ⟨q0, q1, qP, va_K.moved (u := U) (U := U.calling g mk a) (Vm.Alike.refl U.vm) qK, qD, SF.same (u := U) (U := U.calling g mk a) rfl qF⟩, va_recv hKc hPc (ci := 13) (q0 := 0) rfl rfl, fun U hU hW => ⟨rfl, by rw [hU], by rw [hU]; exact hPc, va_K.moved hW.alike hKc, hDc.weaken (fun _ _ _ _ => trivial), by rw [hU]; exact SF.narrow (SF.moved hW (SF.kept hF (fun a h1 h2 => hS.2.1 a h1 h2))) hFc⟩⟩ rfl rfl hl.1 rfl (lv_room (Nat.le_of_ble_eq_true rfl)) d_mDesk_defaults_55 ⟨Nat.le_of_ble_eq_true rfl, Nat.le_of_ble_eq_true rfl⟩) hS (fun q _ h => hFc q h) hFc ?_
  clear hPc hDc hKc hS
  intro u_9 t H1 locs ht hvm hw hB hz1 hk1 hS
  obtain ⟨hP1, hK1, hD1⟩ := hB
  rw [ht] at hP1
  have hK1 := va_K.moved hvm.symm hK1
  try dsimp only at hw
  have hJ := va_join (wr := []) (w1 := [(h0, .inr (13, [.int k_thrown, .ref k_state, .ref k_kept, .ref k_isKept, .int 2, .int 0, .int k_copies, .int 57600, .int 79200, .ref k_steps, .int k_phase, .int k_family, .int k_group, .int k_part, .int k_signed, .int k_negative, .int k_whole, .int k_behind, .int k_places, .int k_dataLeft, .int k_last, .int k_dataTo, .int k_bytesCame, .int k_came, .int k_cameX, .int k_cameY, .int k_glyphs, .int k_allGlyphs, .int k_touched, .ref k_glyph, .int k_pages, .ref k_page, .int k_others, .ref k_other, .int k_stored, .ref k_store])), (k_state, .inl (c1, 53, .inl (upd (upd (upd (upd (upd (upd (upd (upd g 6 720) 7 1200) 4 3600) 5 72000) 2 0) 3 57600) 0 0) 1 4500)))]) hP hD [0, 1] [] rfl rfl (by decide) (by decide) hk1 hFc hP1 hD1
  clear hP hD hk1 hFc hP1 hD1 hz1
  obtain ⟨hP, hD⟩ := hJ
  clear hK1 ht hvm
  generalize H1 = H at hP hS ⊢
  replace hP : va_P (dC, dI) vcl [(h0, .inr (13, [.int k_thrown, .ref k_state, .ref k_kept, .ref k_isKept, .int 2, .int 0, .int k_copies, .int 57600, .int 79200, .ref k_steps, .int k_phase, .int k_family, .int k_group, .int k_part, .int k_signed, .int k_negative, .int k_whole, .int k_behind, .int k_places, .int k_dataLeft, .int k_last, .int k_dataTo, .int k_bytesCame, .int k_came, .int k_cameX, .int k_cameY, .int k_glyphs, .int k_allGlyphs, .int k_touched, .ref k_glyph, .int k_pages, .ref k_page, .int k_others, .ref k_other, .int k_stored, .ref k_store])), (k_state, .inl (c1, 53, .inl (upd (upd (upd (upd (upd (upd (upd (upd g 6 720) 7 1200) 4 3600) 5 72000) 2 0) 3 57600) 0 0) 1 4500)))] H := hP
  replace hD : va_D A [(h0, .inr (13, [.int k_thrown, .ref k_state, .ref k_kept, .ref k_isKept, .int 2, .int 0, .int k_copies, .int 57600, .int 79200, .ref k_steps, .int k_phase, .int k_family, .int k_group, .int k_part, .int k_signed, .int k_negative, .int k_whole, .int k_behind, .int k_places, .int k_dataLeft, .int k_last, .int k_dataTo, .int k_bytesCame, .int k_came, .int k_cameX, .int k_cameY, .int k_glyphs, .int k_allGlyphs, .int k_touched, .ref k_glyph, .int k_pages, .ref k_page, .int k_others, .ref k_other, .int k_stored, .ref k_store])), (k_state, .inl (c1, 53, .inl (upd (upd (upd (upd (upd (upd (upd (upd g 6 720) 7 1200) 4 3600) 5 72000) 2 0) 3 57600) 0 0) 1 4500)))] := hD
  have hP9 := hP.sub (ws' := [(h0, .inr (13, [.int k_thrown, .ref k_state, .ref k_kept, .ref k_isKept, .int 2, .int 0, .int k_copies, .int 57600, .int 79200, .ref k_steps, .int k_phase, .int k_family, .int k_group, .int k_part, .int k_signed, .int k_negative, .int k_whole, .int k_behind, .int k_places, .int k_dataLeft, .int k_last, .int k_dataTo, .int k_bytesCame, .int k_came, .int k_cameX, .int k_cameY, .int k_glyphs, .int k_allGlyphs, .int k_touched, .ref k_glyph, .int k_pages, .ref k_page, .int k_others, .ref k_other, .int k_stored, .ref k_store])), (k_state, .inl (c1, 53, .inl (upd (upd (upd (upd (upd (upd (upd (upd g 6 720) 7 1200) 4 3600) 5 72000) 2 0) 3 57600) 0 0) 1 4500)))]) [0, 1] rfl
  have hD9 := hD.sub (ws' := [(h0, .inr (13, [.int k_thrown, .ref k_state, .ref k_kept, .ref k_isKept, .int 2, .int 0, .int k_copies, .int 57600, .int 79200, .ref k_steps, .int k_phase, .int k_family, .int k_group, .int k_part, .int k_signed, .int k_negative, .int k_whole, .int k_behind, .int k_places, .int k_dataLeft, .int k_last, .int k_dataTo, .int k_bytesCame, .int k_came, .int k_cameX, .int k_cameY, .int k_glyphs, .int k_allGlyphs, .int k_touched, .ref k_glyph, .int k_pages, .ref k_page, .int k_others, .ref k_other, .int k_stored, .ref k_store])), (k_state, .inl (c1, 53, .inl (upd (upd (upd (upd (upd (upd (upd (upd g 6 720) 7 1200) 4 3600) 5 72000) 2 0) 3 57600) 0 0) 1 4500)))]) [0, 1] (by decide) rfl
  have hK9 := hK.sub (tys' := [(c1, .int)]) [0] rfl
  exact W.vret hx hb hr (fun t ht hW => ⟨⟨(), rfl, (trivial), by rw [ht]; exact hP9, va_K.moved hW.alike hK9, hD9⟩, hS.F ht⟩) hS.2.2 d_mDesk_defaults_58

abbrev at_c_Desk_reset (dC : Nat → ClassId) (dI : Nat → Nat → Nat) (h0 : Nat) (k_thrown : Int32) (k_state : Nat) (k_kept : Nat) (k_isKept : Nat) (k_size : Int32) (k_orientation : Int32) (k_copies : Int32) (k_width : Int32) (k_height : Int32) (k_steps : Nat) (k_phase : Int32) (k_family : Int32) (k_group : Int32) (k_part : Int32) (k_signed : Int32) (k_negative : Int32) (k_whole : Int32) (k_behind : Int32) (k_places : Int32) (k_dataLeft : Int32) (k_last : Int32) (k_dataTo : Int32) (k_bytesCame : Int32) (k_came : Int32) (k_cameX : Int32) (k_cameY : Int32) (k_glyphs : Int32) (k_allGlyphs : Int32) (k_touched : Int32) (k_glyph : Nat) (k_pages : Int32) (k_page : Nat) (k_others : Int32) (k_other : Nat) (k_stored : Int32) (k_store : Nat) (c1 : ClassId) (sf : Nat → Int32) (A : Nat → Prop) (u : (Nat → Int32)) (t : State) : Prop := match u with
  | g => va_P (dC, dI) vcl [(h0, .inr (13, [.int k_thrown, .ref k_state, .ref k_kept, .ref k_isKept, .int 2, .int 0, .int 1, .int 57600, .int 79200, .ref k_steps, .int k_phase, .int k_family, .int k_group, .int k_part, .int k_signed, .int k_negative, .int k_whole, .int k_behind, .int k_places, .int k_dataLeft, .int k_last, .int k_dataTo, .int k_bytesCame, .int k_came, .int k_cameX, .int k_cameY, .int k_glyphs, .int k_allGlyphs, .int k_touched, .ref k_glyph, .int k_pages, .ref k_page, .int k_others, .ref k_other, .int k_stored, .ref k_store])), (k_state, .inl (c1, 53, .inl (upd (upd (upd (upd (upd (upd (upd (upd g 6 720) 7 1200) 4 3600) 5 72000) 2 0) 3 57600) 0 0) 1 4500)))] t.heap ∧ va_K (dC, dI) vcl [(c1, .int)] t ∧ va_D A [(h0, .inr (13, [.int k_thrown, .ref k_state, .ref k_kept, .ref k_isKept, .int 2, .int 0, .int 1, .int 57600, .int 79200, .ref k_steps, .int k_phase, .int k_family, .int k_group, .int k_part, .int k_signed, .int k_negative, .int k_whole, .int k_behind, .int k_places, .int k_dataLeft, .int k_last, .int k_dataTo, .int k_bytesCame, .int k_came, .int k_cameX, .int k_cameY, .int k_glyphs, .int k_allGlyphs, .int k_touched, .ref k_glyph, .int k_pages, .ref k_page, .int k_others, .ref k_other, .int k_stored, .ref k_store])), (k_state, .inl (c1, 53, .inl (upd (upd (upd (upd (upd (upd (upd (upd g 6 720) 7 1200) 4 3600) 5 72000) 2 0) 3 57600) 0 0) 1 4500)))]
abbrev po_c_Desk_reset (h0 : Nat) (k_thrown : Int32) (k_state : Nat) (k_kept : Nat) (k_isKept : Nat) (k_size : Int32) (k_orientation : Int32) (k_copies : Int32) (k_width : Int32) (k_height : Int32) (k_steps : Nat) (k_phase : Int32) (k_family : Int32) (k_group : Int32) (k_part : Int32) (k_signed : Int32) (k_negative : Int32) (k_whole : Int32) (k_behind : Int32) (k_places : Int32) (k_dataLeft : Int32) (k_last : Int32) (k_dataTo : Int32) (k_bytesCame : Int32) (k_came : Int32) (k_cameX : Int32) (k_cameY : Int32) (k_glyphs : Int32) (k_allGlyphs : Int32) (k_touched : Int32) (k_glyph : Nat) (k_pages : Int32) (k_page : Nat) (k_others : Int32) (k_other : Nat) (k_stored : Int32) (k_store : Nat) (c1 : ClassId) (sf : Nat → Int32) (u : (Nat → Int32)) : Prop := match u with
  | g => ∀ j, j < 53 → g j = 0
abbrev q_c_Desk_reset (dC : Nat → ClassId) (dI : Nat → Nat → Nat) (h0 : Nat) (k_thrown : Int32) (k_state : Nat) (k_kept : Nat) (k_isKept : Nat) (k_size : Int32) (k_orientation : Int32) (k_copies : Int32) (k_width : Int32) (k_height : Int32) (k_steps : Nat) (k_phase : Int32) (k_family : Int32) (k_group : Int32) (k_part : Int32) (k_signed : Int32) (k_negative : Int32) (k_whole : Int32) (k_behind : Int32) (k_places : Int32) (k_dataLeft : Int32) (k_last : Int32) (k_dataTo : Int32) (k_bytesCame : Int32) (k_came : Int32) (k_cameX : Int32) (k_cameY : Int32) (k_glyphs : Int32) (k_allGlyphs : Int32) (k_touched : Int32) (k_glyph : Nat) (k_pages : Int32) (k_page : Nat) (k_others : Int32) (k_other : Nat) (k_stored : Int32) (k_store : Nat) (c1 : ClassId) (sf : Nat → Int32) (A : Nat → Prop) : Array Value → State → Outcome → State → Prop := va_Qv (po_c_Desk_reset h0 k_thrown k_state k_kept k_isKept k_size k_orientation k_copies k_width k_height k_steps k_phase k_family k_group k_part k_signed k_negative k_whole k_behind k_places k_dataLeft k_last k_dataTo k_bytesCame k_came k_cameX k_cameY k_glyphs k_allGlyphs k_touched k_glyph k_pages k_page k_others k_other k_stored k_store c1 sf) (at_c_Desk_reset dC dI h0 k_thrown k_state k_kept k_isKept k_size k_orientation k_copies k_width k_height k_steps k_phase k_family k_group k_part k_signed k_negative k_whole k_behind k_places k_dataLeft k_last k_dataTo k_bytesCame k_came k_cameX k_cameY k_glyphs k_allGlyphs k_touched k_glyph k_pages k_page k_others k_other k_stored k_store c1 sf A) A
abbrev rm_c_Desk_reset : Room := { frames := 3, cells := 0, slots := 0, locals := 64 }
set_option maxHeartbeats 4000000 in
set_option maxRecDepth 100000 in
theorem c_Desk_reset (l : Launch) (dC : Nat → ClassId) (dI : Nat → Nat → Nat) (tt : Nat → Nat) (h0 : Nat) (k_thrown : Int32) (k_state : Nat) (k_kept : Nat) (k_isKept : Nat) (k_size : Int32) (k_orientation : Int32) (k_copies : Int32) (k_width : Int32) (k_height : Int32) (k_steps : Nat) (k_phase : Int32) (k_family : Int32) (k_group : Int32) (k_part : Int32) (k_signed : Int32) (k_negative : Int32) (k_whole : Int32) (k_behind : Int32) (k_places : Int32) (k_dataLeft : Int32) (k_last : Int32) (k_dataTo : Int32) (k_bytesCame : Int32) (k_came : Int32) (k_cameX : Int32) (k_cameY : Int32) (k_glyphs : Int32) (k_allGlyphs : Int32) (k_touched : Int32) (k_glyph : Nat) (k_pages : Int32) (k_page : Nat) (k_others : Int32) (k_other : Nat) (k_stored : Int32) (k_store : Nat) (c1 : ClassId) (sf : Nat → Int32) (sz : Nat)  : Met l y_mDesk_reset w_mDesk_reset rm_c_Desk_reset (va_Pc [.ref h0] (fun U => U.heap.size = sz ∧ va_P (dC, dI) vcl [(h0, .inr (13, [.int k_thrown, .ref k_state, .ref k_kept, .ref k_isKept, .int k_size, .int k_orientation, .int k_copies, .int k_width, .int k_height, .ref k_steps, .int k_phase, .int k_family, .int k_group, .int k_part, .int k_signed, .int k_negative, .int k_whole, .int k_behind, .int k_places, .int k_dataLeft, .int k_last, .int k_dataTo, .int k_bytesCame, .int k_came, .int k_cameX, .int k_cameY, .int k_glyphs, .int k_allGlyphs, .int k_touched, .ref k_glyph, .int k_pages, .ref k_page, .int k_others, .ref k_other, .int k_stored, .ref k_store])), (k_state, .inl (c1, 53, .inl sf))] U.heap ∧ va_K (dC, dI) vcl [(c1, .int)] U ∧ va_D (fun _ => True) [(h0, .inr (13, [.int k_thrown, .ref k_state, .ref k_kept, .ref k_isKept, .int k_size, .int k_orientation, .int k_copies, .int k_width, .int k_height, .ref k_steps, .int k_phase, .int k_family, .int k_group, .int k_part, .int k_signed, .int k_negative, .int k_whole, .int k_behind, .int k_places, .int k_dataLeft, .int k_last, .int k_dataTo, .int k_bytesCame, .int k_came, .int k_cameX, .int k_cameY, .int k_glyphs, .int k_allGlyphs, .int k_touched, .ref k_glyph, .int k_pages, .ref k_page, .int k_others, .ref k_other, .int k_stored, .ref k_store])), (k_state, .inl (c1, 53, .inl sf))] ∧ SF tt (va_A [(h0, .inr (13, [.int k_thrown, .ref k_state, .ref k_kept, .ref k_isKept, .int k_size, .int k_orientation, .int k_copies, .int k_width, .int k_height, .ref k_steps, .int k_phase, .int k_family, .int k_group, .int k_part, .int k_signed, .int k_negative, .int k_whole, .int k_behind, .int k_places, .int k_dataLeft, .int k_last, .int k_dataTo, .int k_bytesCame, .int k_came, .int k_cameX, .int k_cameY, .int k_glyphs, .int k_allGlyphs, .int k_touched, .ref k_glyph, .int k_pages, .ref k_page, .int k_others, .ref k_other, .int k_stored, .ref k_store])), (k_state, .inl (c1, 53, .inl sf))] sz) U U.heap)) (q_c_Desk_reset dC dI h0 k_thrown k_state k_kept k_isKept k_size k_orientation k_copies k_width k_height k_steps k_phase k_family k_group k_part k_signed k_negative k_whole k_behind k_places k_dataLeft k_last k_dataTo k_bytesCame k_came k_cameX k_cameY k_glyphs k_allGlyphs k_touched k_glyph k_pages k_page k_others k_other k_stored k_store c1 sf (va_A [(h0, .inr (13, [.int k_thrown, .ref k_state, .ref k_kept, .ref k_isKept, .int k_size, .int k_orientation, .int k_copies, .int k_width, .int k_height, .ref k_steps, .int k_phase, .int k_family, .int k_group, .int k_part, .int k_signed, .int k_negative, .int k_whole, .int k_behind, .int k_places, .int k_dataLeft, .int k_last, .int k_dataTo, .int k_bytesCame, .int k_came, .int k_cameX, .int k_cameY, .int k_glyphs, .int k_allGlyphs, .int k_touched, .ref k_glyph, .int k_pages, .ref k_page, .int k_others, .ref k_other, .int k_stored, .ref k_store])), (k_state, .inl (c1, 53, .inl sf))] sz)) 0 0 (va_A [(h0, .inr (13, [.int k_thrown, .ref k_state, .ref k_kept, .ref k_isKept, .int k_size, .int k_orientation, .int k_copies, .int k_width, .int k_height, .ref k_steps, .int k_phase, .int k_family, .int k_group, .int k_part, .int k_signed, .int k_negative, .int k_whole, .int k_behind, .int k_places, .int k_dataLeft, .int k_last, .int k_dataTo, .int k_bytesCame, .int k_came, .int k_cameX, .int k_cameY, .int k_glyphs, .int k_allGlyphs, .int k_touched, .ref k_glyph, .int k_pages, .ref k_page, .int k_others, .ref k_other, .int k_stored, .ref k_store])), (k_state, .inl (c1, 53, .inl sf))] sz) := by
  refine Met.ofW (cc := b_mDesk_reset) (maxL := 2) (ret := none) (by decide) rfl ?_
  intro p e s m args below meth c s₁ B hml hv
  obtain ⟨rfl, hsz, hP, hK, hD0, hF⟩ := hv
  have hx := B.exec
  have hb := B.bytes
  have hr := B.returns
  have hwd : ∀ w ∈ gT, w.before _ s = true := fun w h => atoms_spec (ws := w_mDesk_reset) B.pre w (List.mem_cons_of_mem _ h)
  have hown : s.vm.findClass R_mDesk = some m.cls := findClass_of_methodNamed B.named
  have hlocks := B.notSynchronized
  subst hsz
  have hD := hD0.self (sz := s.heap.size)
  generalize hAe : va_A [(h0, .inr (13, [.int k_thrown, .ref k_state, .ref k_kept, .ref k_isKept, .int k_size, .int k_orientation, .int k_copies, .int k_width, .int k_height, .ref k_steps, .int k_phase, .int k_family, .int k_group, .int k_part, .int k_signed, .int k_negative, .int k_whole, .int k_behind, .int k_places, .int k_dataLeft, .int k_last, .int k_dataTo, .int k_bytesCame, .int k_came, .int k_cameX, .int k_cameY, .int k_glyphs, .int k_allGlyphs, .int k_touched, .ref k_glyph, .int k_pages, .ref k_page, .int k_others, .ref k_other, .int k_stored, .ref k_store])), (k_state, .inl (c1, 53, .inl sf))] s.heap.size = A at hD hF ⊢
  have hA : ∀ q : Nat, s.heap.size ≤ q → A q := fun q h => by rw [← hAe]; exact Or.inr h
  have hS : va_S A s.heap s.heap [] := va_S.rf
  have hP : va_P (dC, dI) vcl [(h0, .inr (13, [.int k_thrown, .ref k_state, .ref k_kept, .ref k_isKept, .int k_size, .int k_orientation, .int k_copies, .int k_width, .int k_height, .ref k_steps, .int k_phase, .int k_family, .int k_group, .int k_part, .int k_signed, .int k_negative, .int k_whole, .int k_behind, .int k_places, .int k_dataLeft, .int k_last, .int k_dataTo, .int k_bytesCame, .int k_came, .int k_cameX, .int k_cameY, .int k_glyphs, .int k_allGlyphs, .int k_touched, .ref k_glyph, .int k_pages, .ref k_page, .int k_others, .ref k_other, .int k_stored, .ref k_store])), (k_state, .inl (c1, 53, .inl sf))] s.heap := hP
  have hl := lv_entry ([.ref h0]) (n := 2) (Nat.le_of_ble_eq_true rfl)
  rw [lg_entry_eq]
  generalize (lg_sl ([.ref h0]) ++ List.replicate (2 - (lg_sl ([.ref h0])).length) Slot.unset).toArray = ls at hl ⊢
  have hl : lv_has ls 2 [(0, .ref h0)] := hl
  refine lv_iconst (v := 0) hx hb d_mDesk_reset_0 (by decide) ?_
  refine lv_istore_n (lv' := [(1, .int 0), (0, .ref h0)]) hx hb d_mDesk_reset_1 rfl hl (by decide) rfl ?_
  clear hl
  intro ls hl
  have cut2 : ∀ (n : Nat) (i : Nat) (x : Int32) (gz : Nat → Int32), (x = nI i) → (i ≤ 53) → (53 < i + n) → (∀ j, j < i → gz j = 0) → ∀ (H : Heap) (locs : List Loc) (ls : Array Slot), va_K (dC, dI) vcl [(c1, .int)] s → va_P (dC, dI) vcl [(h0, .inr (13, [.int k_thrown, .ref k_state, .ref k_kept, .ref k_isKept, .int k_size, .int k_orientation, .int k_copies, .int k_width, .int k_height, .ref k_steps, .int k_phase, .int k_family, .int k_group, .int k_part, .int k_signed, .int k_negative, .int k_whole, .int k_behind, .int k_places, .int k_dataLeft, .int k_last, .int k_dataTo, .int k_bytesCame, .int k_came, .int k_cameX, .int k_cameY, .int k_glyphs, .int k_allGlyphs, .int k_touched, .ref k_glyph, .int k_pages, .ref k_page, .int k_others, .ref k_other, .int k_stored, .ref k_store])), (k_state, .inl (c1, 53, .inl gz))] H → va_D A [(h0, .inr (13, [.int k_thrown, .ref k_state, .ref k_kept, .ref k_isKept, .int k_size, .int k_orientation, .int k_copies, .int k_width, .int k_height, .ref k_steps, .int k_phase, .int k_family, .int k_group, .int k_part, .int k_signed, .int k_negative, .int k_whole, .int k_behind, .int k_places, .int k_dataLeft, .int k_last, .int k_dataTo, .int k_bytesCame, .int k_came, .int k_cameX, .int k_cameY, .int k_glyphs, .int k_allGlyphs, .int k_touched, .ref k_glyph, .int k_pages, .ref k_page, .int k_others, .ref k_other, .int k_stored, .ref k_store])), (k_state, .inl (c1, 53, .inl gz))] → va_S A s.heap H locs → lv_has ls 2 [(0, .ref h0), (1, .int x)] → W p l e (headSpec w_mDesk_reset rm_c_Desk_reset).room s m (List.toArray [.ref h0]) below meth c H locs 0 0 (MQ below (q_c_Desk_reset dC dI h0 k_thrown k_state k_kept k_isKept k_size k_orientation k_copies k_width k_height k_steps k_phase k_family k_group k_part k_signed k_negative k_whole k_behind k_places k_dataLeft k_last k_dataTo k_bytesCame k_came k_cameX k_cameY k_glyphs k_allGlyphs k_touched k_glyph k_pages k_page k_others k_other k_stored k_store c1 sf A) (List.toArray [.ref h0]) s 0 0 A) (F0 m 2 ls []) := by
    intro n
    induction n with
    | zero =>
      intro i x gz ex hi hm hg
      exact absurd hm (by omega)
    | succ n ih =>
      intro i x gz ex hi hm hg H locs ls hK hP hD hS hl
      refine lv_iload_n hx hb d_mDesk_reset_2 rfl (lv_at hl 1 rfl) ?_
      refine lv_bipush (v := 53) hx hb d_mDesk_reset_3 (by decide) ?_
      refine lv_icmp_ge (tgt := 21) hx hb d_mDesk_reset_5 (by decide) (fun c5 => ?_) (fun c5 => ?_)
      · have hall : ∀ j, j < 53 → gz j = 0 := fun j hj => hg j (by have q9 := (nI_leI (a := 53) (b := i) (by omega) (by omega)).mp (by rw [← ex]; exact c5); omega)
        refine lv_aload_n hx hb d_mDesk_reset_21 rfl (lv_at hl 0 rfl) ?_
        refine lv_iconst (v := 2) hx hb d_mDesk_reset_22 (by decide) ?_
        refine va_put (D := (dC, dI)) (ci := 13) (v := .int 2) (ty := .int) (C := R_mDesk) (T := F_mDesk) (N := 36) hx hb hwd i_mDesk t_mDesk to_mDesk no_mDesk hown hK hP hD hS 0 rfl rfl 4 (by decide) (hwd _ wd_9_82) (fun _ h9 => h9) rfl (by decide +kernel) rfl rfl (Nat.le_of_ble_eq_true rfl) d_mDesk_reset_23 ?_
        clear hP hD hS
        intro H locs hP hD hS
        replace hP : va_P (dC, dI) vcl [(h0, .inr (13, [.int k_thrown, .ref k_state, .ref k_kept, .ref k_isKept, .int 2, .int k_orientation, .int k_copies, .int k_width, .int k_height, .ref k_steps, .int k_phase, .int k_family, .int k_group, .int k_part, .int k_signed, .int k_negative, .int k_whole, .int k_behind, .int k_places, .int k_dataLeft, .int k_last, .int k_dataTo, .int k_bytesCame, .int k_came, .int k_cameX, .int k_cameY, .int k_glyphs, .int k_allGlyphs, .int k_touched, .ref k_glyph, .int k_pages, .ref k_page, .int k_others, .ref k_other, .int k_stored, .ref k_store])), (k_state, .inl (c1, 53, .inl gz))] H := hP
        replace hD : va_D A [(h0, .inr (13, [.int k_thrown, .ref k_state, .ref k_kept, .ref k_isKept, .int 2, .int k_orientation, .int k_copies, .int k_width, .int k_height, .ref k_steps, .int k_phase, .int k_family, .int k_group, .int k_part, .int k_signed, .int k_negative, .int k_whole, .int k_behind, .int k_places, .int k_dataLeft, .int k_last, .int k_dataTo, .int k_bytesCame, .int k_came, .int k_cameX, .int k_cameY, .int k_glyphs, .int k_allGlyphs, .int k_touched, .ref k_glyph, .int k_pages, .ref k_page, .int k_others, .ref k_other, .int k_stored, .ref k_store])), (k_state, .inl (c1, 53, .inl gz))] := hD
        refine lv_aload_n hx hb d_mDesk_reset_26 rfl (lv_at hl 0 rfl) ?_
        refine lv_iconst (v := 0) hx hb d_mDesk_reset_27 (by decide) ?_
        refine va_put (D := (dC, dI)) (ci := 13) (v := .int 0) (ty := .int) (C := R_mDesk) (T := F_mDesk) (N := 36) hx hb hwd i_mDesk t_mDesk to_mDesk no_mDesk hown hK hP hD hS 0 rfl rfl 5 (by decide) (hwd _ wd_9_84) (fun _ h9 => h9) rfl (by decide +kernel) rfl rfl (Nat.le_of_ble_eq_true rfl) d_mDesk_reset_28 ?_
        clear hP hD hS
        intro H locs hP hD hS
        replace hP : va_P (dC, dI) vcl [(h0, .inr (13, [.int k_thrown, .ref k_state, .ref k_kept, .ref k_isKept, .int 2, .int 0, .int k_copies, .int k_width, .int k_height, .ref k_steps, .int k_phase, .int k_family, .int k_group, .int k_part, .int k_signed, .int k_negative, .int k_whole, .int k_behind, .int k_places, .int k_dataLeft, .int k_last, .int k_dataTo, .int k_bytesCame, .int k_came, .int k_cameX, .int k_cameY, .int k_glyphs, .int k_allGlyphs, .int k_touched, .ref k_glyph, .int k_pages, .ref k_page, .int k_others, .ref k_other, .int k_stored, .ref k_store])), (k_state, .inl (c1, 53, .inl gz))] H := hP
        replace hD : va_D A [(h0, .inr (13, [.int k_thrown, .ref k_state, .ref k_kept, .ref k_isKept, .int 2, .int 0, .int k_copies, .int k_width, .int k_height, .ref k_steps, .int k_phase, .int k_family, .int k_group, .int k_part, .int k_signed, .int k_negative, .int k_whole, .int k_behind, .int k_places, .int k_dataLeft, .int k_last, .int k_dataTo, .int k_bytesCame, .int k_came, .int k_cameX, .int k_cameY, .int k_glyphs, .int k_allGlyphs, .int k_touched, .ref k_glyph, .int k_pages, .ref k_page, .int k_others, .ref k_other, .int k_stored, .ref k_store])), (k_state, .inl (c1, 53, .inl gz))] := hD
        refine lv_aload_n hx hb d_mDesk_reset_31 rfl (lv_at hl 0 rfl) ?_
        refine lv_iconst (v := 1) hx hb d_mDesk_reset_32 (by decide) ?_
        refine va_put (D := (dC, dI)) (ci := 13) (v := .int 1) (ty := .int) (C := R_mDesk) (T := F_mDesk) (N := 36) hx hb hwd i_mDesk t_mDesk to_mDesk no_mDesk hown hK hP hD hS 0 rfl rfl 6 (by decide) (hwd _ wd_9_85) (fun _ h9 => h9) rfl (by decide +kernel) rfl rfl (Nat.le_of_ble_eq_true rfl) d_mDesk_reset_33 ?_
        clear hP hD hS
        intro H locs hP hD hS
        replace hP : va_P (dC, dI) vcl [(h0, .inr (13, [.int k_thrown, .ref k_state, .ref k_kept, .ref k_isKept, .int 2, .int 0, .int 1, .int k_width, .int k_height, .ref k_steps, .int k_phase, .int k_family, .int k_group, .int k_part, .int k_signed, .int k_negative, .int k_whole, .int k_behind, .int k_places, .int k_dataLeft, .int k_last, .int k_dataTo, .int k_bytesCame, .int k_came, .int k_cameX, .int k_cameY, .int k_glyphs, .int k_allGlyphs, .int k_touched, .ref k_glyph, .int k_pages, .ref k_page, .int k_others, .ref k_other, .int k_stored, .ref k_store])), (k_state, .inl (c1, 53, .inl gz))] H := hP
        replace hD : va_D A [(h0, .inr (13, [.int k_thrown, .ref k_state, .ref k_kept, .ref k_isKept, .int 2, .int 0, .int 1, .int k_width, .int k_height, .ref k_steps, .int k_phase, .int k_family, .int k_group, .int k_part, .int k_signed, .int k_negative, .int k_whole, .int k_behind, .int k_places, .int k_dataLeft, .int k_last, .int k_dataTo, .int k_bytesCame, .int k_came, .int k_cameX, .int k_cameY, .int k_glyphs, .int k_allGlyphs, .int k_touched, .ref k_glyph, .int k_pages, .ref k_page, .int k_others, .ref k_other, .int k_stored, .ref k_store])), (k_state, .inl (c1, 53, .inl gz))] := hD
        refine lv_aload_n hx hb d_mDesk_reset_36 rfl (lv_at hl 0 rfl) ?_
        refine va_get (D := (dC, dI)) (ci := 13) (v := .ref k_state) (C := R_mDesk) (T := F_mDesk) (N := 36) hx hb hwd i_mDesk hown hK hP 0 rfl rfl 1 (by decide) (hwd _ wd_9_77) (fun _ h9 => h9) rfl d_mDesk_reset_37 ?_
        refine lv_bipush (v := 6) hx hb d_mDesk_reset_40 (by decide) ?_
        refine lv_sipush (v := 720) hx hb d_mDesk_reset_42 (by decide) ?_
        refine va_iast hx hb hK hP hD hS 1 0 rfl rfl (show ¬ ((6 : Int32) < 0 ∨ 53 ≤ (6 : Int32).toNatClampNeg) by decide) d_mDesk_reset_45 ?_
        clear hP hD hS
        intro H locs hP hD hS
        rw [show (6 : Int32).toNatClampNeg = 6 by decide] at hP hD
        replace hP : va_P (dC, dI) vcl [(h0, .inr (13, [.int k_thrown, .ref k_state, .ref k_kept, .ref k_isKept, .int 2, .int 0, .int 1, .int k_width, .int k_height, .ref k_steps, .int k_phase, .int k_family, .int k_group, .int k_part, .int k_signed, .int k_negative, .int k_whole, .int k_behind, .int k_places, .int k_dataLeft, .int k_last, .int k_dataTo, .int k_bytesCame, .int k_came, .int k_cameX, .int k_cameY, .int k_glyphs, .int k_allGlyphs, .int k_touched, .ref k_glyph, .int k_pages, .ref k_page, .int k_others, .ref k_other, .int k_stored, .ref k_store])), (k_state, .inl (c1, 53, .inl (upd gz 6 720)))] H := hP
        replace hD : va_D A [(h0, .inr (13, [.int k_thrown, .ref k_state, .ref k_kept, .ref k_isKept, .int 2, .int 0, .int 1, .int k_width, .int k_height, .ref k_steps, .int k_phase, .int k_family, .int k_group, .int k_part, .int k_signed, .int k_negative, .int k_whole, .int k_behind, .int k_places, .int k_dataLeft, .int k_last, .int k_dataTo, .int k_bytesCame, .int k_came, .int k_cameX, .int k_cameY, .int k_glyphs, .int k_allGlyphs, .int k_touched, .ref k_glyph, .int k_pages, .ref k_page, .int k_others, .ref k_other, .int k_stored, .ref k_store])), (k_state, .inl (c1, 53, .inl (upd gz 6 720)))] := hD
        refine lv_aload_n hx hb d_mDesk_reset_46 rfl (lv_at hl 0 rfl) ?_
        refine va_get (D := (dC, dI)) (ci := 13) (v := .ref k_state) (C := R_mDesk) (T := F_mDesk) (N := 36) hx hb hwd i_mDesk hown hK hP 0 rfl rfl 1 (by decide) (hwd _ wd_9_77) (fun _ h9 => h9) rfl d_mDesk_reset_47 ?_
        refine lv_bipush (v := 7) hx hb d_mDesk_reset_50 (by decide) ?_
        refine lv_sipush (v := 1200) hx hb d_mDesk_reset_52 (by decide) ?_
        refine va_iast hx hb hK hP hD hS 1 0 rfl rfl (show ¬ ((7 : Int32) < 0 ∨ 53 ≤ (7 : Int32).toNatClampNeg) by decide) d_mDesk_reset_55 ?_
        clear hP hD hS
        intro H locs hP hD hS
        rw [show (7 : Int32).toNatClampNeg = 7 by decide] at hP hD
        replace hP : va_P (dC, dI) vcl [(h0, .inr (13, [.int k_thrown, .ref k_state, .ref k_kept, .ref k_isKept, .int 2, .int 0, .int 1, .int k_width, .int k_height, .ref k_steps, .int k_phase, .int k_family, .int k_group, .int k_part, .int k_signed, .int k_negative, .int k_whole, .int k_behind, .int k_places, .int k_dataLeft, .int k_last, .int k_dataTo, .int k_bytesCame, .int k_came, .int k_cameX, .int k_cameY, .int k_glyphs, .int k_allGlyphs, .int k_touched, .ref k_glyph, .int k_pages, .ref k_page, .int k_others, .ref k_other, .int k_stored, .ref k_store])), (k_state, .inl (c1, 53, .inl (upd (upd gz 6 720) 7 1200)))] H := hP
        replace hD : va_D A [(h0, .inr (13, [.int k_thrown, .ref k_state, .ref k_kept, .ref k_isKept, .int 2, .int 0, .int 1, .int k_width, .int k_height, .ref k_steps, .int k_phase, .int k_family, .int k_group, .int k_part, .int k_signed, .int k_negative, .int k_whole, .int k_behind, .int k_places, .int k_dataLeft, .int k_last, .int k_dataTo, .int k_bytesCame, .int k_came, .int k_cameX, .int k_cameY, .int k_glyphs, .int k_allGlyphs, .int k_touched, .ref k_glyph, .int k_pages, .ref k_page, .int k_others, .ref k_other, .int k_stored, .ref k_store])), (k_state, .inl (c1, 53, .inl (upd (upd gz 6 720) 7 1200)))] := hD
        refine lv_aload_n hx hb d_mDesk_reset_56 rfl (lv_at hl 0 rfl) ?_
        have hPc := hP.sub (ws' := [(h0, .inr (13, [.int k_thrown, .ref k_state, .ref k_kept, .ref k_isKept, .int 2, .int 0, .int 1, .int k_width, .int k_height, .ref k_steps, .int k_phase, .int k_family, .int k_group, .int k_part, .int k_signed, .int k_negative, .int k_whole, .int k_behind, .int k_places, .int k_dataLeft, .int k_last, .int k_dataTo, .int k_bytesCame, .int k_came, .int k_cameX, .int k_cameY, .int k_glyphs, .int k_allGlyphs, .int k_touched, .ref k_glyph, .int k_pages, .ref k_page, .int k_others, .ref k_other, .int k_stored, .ref k_store])), (k_state, .inl (c1, 53, .inl (upd (upd gz 6 720) 7 1200)))]) [0, 1] rfl
        have hDc := hD.sub (ws' := [(h0, .inr (13, [.int k_thrown, .ref k_state, .ref k_kept, .ref k_isKept, .int 2, .int 0, .int 1, .int k_width, .int k_height, .ref k_steps, .int k_phase, .int k_family, .int k_group, .int k_part, .int k_signed, .int k_negative, .int k_whole, .int k_behind, .int k_places, .int k_dataLeft, .int k_last, .int k_dataTo, .int k_bytesCame, .int k_came, .int k_cameX, .int k_cameY, .int k_glyphs, .int k_allGlyphs, .int k_touched, .ref k_glyph, .int k_pages, .ref k_page, .int k_others, .ref k_other, .int k_stored, .ref k_store])), (k_state, .inl (c1, 53, .inl (upd (upd gz 6 720) 7 1200)))]) [0, 1] (by decide) rfl
        have hKc := hK.sub (tys' := [(c1, .int)]) [0] rfl
        have hFc := va_free (wc := [(h0, .inr (13, [.int k_thrown, .ref k_state, .ref k_kept, .ref k_isKept, .int 2, .int 0, .int 1, .int k_width, .int k_height, .ref k_steps, .int k_phase, .int k_family, .int k_group, .int k_part, .int k_signed, .int k_negative, .int k_whole, .int k_behind, .int k_places, .int k_dataLeft, .int k_last, .int k_dataTo, .int k_bytesCame, .int k_came, .int k_cameX, .int k_cameY, .int k_glyphs, .int k_allGlyphs, .int k_touched, .ref k_glyph, .int k_pages, .ref k_page, .int k_others, .ref k_other, .int k_stored, .ref k_store])), (k_state, .inl (c1, 53, .inl (upd (upd gz 6 720) 7 1200)))]) hD hS hA [0, 1] rfl
        refine va_callv (va_runV (As := []) (rest := []) ⟨hx, hb, hml, hown, hwd⟩ (c_Desk_defaults_0 l dC dI tt h0 k_thrown k_state k_kept k_isKept 1 k_width k_height k_steps k_phase k_family k_group k_part k_signed k_negative k_whole k_behind k_places k_dataLeft k_last k_dataTo k_bytesCame k_came k_cameX k_cameY k_glyphs k_allGlyphs k_touched k_glyph k_pages k_page k_others k_other k_stored k_store c1 gz H.size ) (cwV 0 hwd (gV gd_mDesk_defaults wd_9_39 wd_9_41 ws_112 wd_1_17) rfl rfl rfl (by decide +kernel) ⟨Nat.le_of_ble_eq_true rfl, Nat.le_of_ble_eq_true rfl⟩) ⟨fun a U g mk q => by obtain ⟨q0, q1, qP, qK, qD, qF⟩ := q; exact ⟨q0, q1, qP, va_K.moved (u := U) (U := U.calling g mk a) (Vm.Alike.refl U.vm) qK, qD, SF.same (u := U) (U := U.calling g mk a) rfl qF⟩, va_recv hKc hPc (ci := 13) (q0 := 0) rfl rfl, fun U hU hW => ⟨rfl, by rw [hU], by rw [hU]; exact hPc, va_K.moved hW.alike hKc, hDc.weaken (fun _ _ _ _ => trivial), by rw [hU]; exact SF.narrow (SF.moved hW (SF.kept hF (fun a h1 h2 => hS.2.1 a h1 h2))) hFc⟩⟩ rfl rfl hl.1 rfl (lv_room (Nat.le_of_ble_eq_true rfl)) d_mDesk_reset_57 ⟨Nat.le_of_ble_eq_true rfl, Nat.le_of_ble_eq_true rfl⟩) hS (fun q _ h => hFc q h) hFc ?_
        clear hPc hDc hKc hS
        intro u_2 t H1 locs ht hvm hw hB hz1 hk1 hS
        obtain ⟨hP1, hK1, hD1⟩ := hB
        rw [ht] at hP1
        have hK1 := va_K.moved hvm.symm hK1
        try dsimp only at hw
        have hJ := va_join (wr := []) (w1 := [(h0, .inr (13, [.int k_thrown, .ref k_state, .ref k_kept, .ref k_isKept, .int 2, .int 0, .int 1, .int 57600, .int 79200, .ref k_steps, .int k_phase, .int k_family, .int k_group, .int k_part, .int k_signed, .int k_negative, .int k_whole, .int k_behind, .int k_places, .int k_dataLeft, .int k_last, .int k_dataTo, .int k_bytesCame, .int k_came, .int k_cameX, .int k_cameY, .int k_glyphs, .int k_allGlyphs, .int k_touched, .ref k_glyph, .int k_pages, .ref k_page, .int k_others, .ref k_other, .int k_stored, .ref k_store])), (k_state, .inl (c1, 53, .inl (upd (upd (upd (upd (upd (upd (upd (upd gz 6 720) 7 1200) 4 3600) 5 72000) 2 0) 3 57600) 0 0) 1 4500)))]) hP hD [0, 1] [] rfl rfl (by decide) (by decide) hk1 hFc hP1 hD1
        clear hP hD hk1 hFc hP1 hD1 hz1
        obtain ⟨hP, hD⟩ := hJ
        clear hK1 ht hvm
        generalize H1 = H at hP hS ⊢
        replace hP : va_P (dC, dI) vcl [(h0, .inr (13, [.int k_thrown, .ref k_state, .ref k_kept, .ref k_isKept, .int 2, .int 0, .int 1, .int 57600, .int 79200, .ref k_steps, .int k_phase, .int k_family, .int k_group, .int k_part, .int k_signed, .int k_negative, .int k_whole, .int k_behind, .int k_places, .int k_dataLeft, .int k_last, .int k_dataTo, .int k_bytesCame, .int k_came, .int k_cameX, .int k_cameY, .int k_glyphs, .int k_allGlyphs, .int k_touched, .ref k_glyph, .int k_pages, .ref k_page, .int k_others, .ref k_other, .int k_stored, .ref k_store])), (k_state, .inl (c1, 53, .inl (upd (upd (upd (upd (upd (upd (upd (upd gz 6 720) 7 1200) 4 3600) 5 72000) 2 0) 3 57600) 0 0) 1 4500)))] H := hP
        replace hD : va_D A [(h0, .inr (13, [.int k_thrown, .ref k_state, .ref k_kept, .ref k_isKept, .int 2, .int 0, .int 1, .int 57600, .int 79200, .ref k_steps, .int k_phase, .int k_family, .int k_group, .int k_part, .int k_signed, .int k_negative, .int k_whole, .int k_behind, .int k_places, .int k_dataLeft, .int k_last, .int k_dataTo, .int k_bytesCame, .int k_came, .int k_cameX, .int k_cameY, .int k_glyphs, .int k_allGlyphs, .int k_touched, .ref k_glyph, .int k_pages, .ref k_page, .int k_others, .ref k_other, .int k_stored, .ref k_store])), (k_state, .inl (c1, 53, .inl (upd (upd (upd (upd (upd (upd (upd (upd gz 6 720) 7 1200) 4 3600) 5 72000) 2 0) 3 57600) 0 0) 1 4500)))] := hD
        have hP9 := hP.sub (ws' := [(h0, .inr (13, [.int k_thrown, .ref k_state, .ref k_kept, .ref k_isKept, .int 2, .int 0, .int 1, .int 57600, .int 79200, .ref k_steps, .int k_phase, .int k_family, .int k_group, .int k_part, .int k_signed, .int k_negative, .int k_whole, .int k_behind, .int k_places, .int k_dataLeft, .int k_last, .int k_dataTo, .int k_bytesCame, .int k_came, .int k_cameX, .int k_cameY, .int k_glyphs, .int k_allGlyphs, .int k_touched, .ref k_glyph, .int k_pages, .ref k_page, .int k_others, .ref k_other, .int k_stored, .ref k_store])), (k_state, .inl (c1, 53, .inl (upd (upd (upd (upd (upd (upd (upd (upd gz 6 720) 7 1200) 4 3600) 5 72000) 2 0) 3 57600) 0 0) 1 4500)))]) [0, 1] rfl
        have hD9 := hD.sub (ws' := [(h0, .inr (13, [.int k_thrown, .ref k_state, .ref k_kept, .ref k_isKept, .int 2, .int 0, .int 1, .int 57600, .int 79200, .ref k_steps, .int k_phase, .int k_family, .int k_group, .int k_part, .int k_signed, .int k_negative, .int k_whole, .int k_behind, .int k_places, .int k_dataLeft, .int k_last, .int k_dataTo, .int k_bytesCame, .int k_came, .int k_cameX, .int k_cameY, .int k_glyphs, .int k_allGlyphs, .int k_touched, .ref k_glyph, .int k_pages, .ref k_page, .int k_others, .ref k_other, .int k_stored, .ref k_store])), (k_state, .inl (c1, 53, .inl (upd (upd (upd (upd (upd (upd (upd (upd gz 6 720) 7 1200) 4 3600) 5 72000) 2 0) 3 57600) 0 0) 1 4500)))]) [0, 1] (by decide) rfl
        have hK9 := hK.sub (tys' := [(c1, .int)]) [0] rfl
        exact W.vret hx hb hr (fun t ht hW => ⟨⟨(gz), rfl, (show ∀ j, j < 53 → (gz : Nat → Int32) j = 0 from (hall)), by rw [ht]; exact hP9, va_K.moved hW.alike hK9, hD9⟩, hS.F ht⟩) hS.2.2 d_mDesk_reset_60
      · have hlt : i < 53 := by
          rcases Nat.lt_or_ge i 53 with q9 | q9
          · exact q9
          · exact absurd (by rw [ex]; exact nI_le (a := 53) q9 (by omega)) c5
        refine lv_aload_n hx hb d_mDesk_reset_8 rfl (lv_at hl 0 rfl) ?_
        refine va_get (D := (dC, dI)) (ci := 13) (v := .ref k_state) (C := R_mDesk) (T := F_mDesk) (N := 36) hx hb hwd i_mDesk hown hK hP 0 rfl rfl 1 (by decide) (hwd _ wd_9_77) (fun _ h9 => h9) rfl d_mDesk_reset_9 ?_
        refine lv_iload_n hx hb d_mDesk_reset_12 rfl (lv_at hl 1 rfl) ?_
        refine lv_iconst (v := 0) hx hb d_mDesk_reset_13 (by decide) ?_
        refine va_iast hx hb hK hP hD hS 1 0 rfl rfl (by rw [ex]; exact vp_in_nI hlt (by omega)) d_mDesk_reset_14 ?_
        clear hP hD hS
        intro H locs hP hD hS
        rw [show x.toNatClampNeg = i from by rw [ex]; exact nI_clamp (by omega)] at hP hD
        replace hP : va_P (dC, dI) vcl [(h0, .inr (13, [.int k_thrown, .ref k_state, .ref k_kept, .ref k_isKept, .int k_size, .int k_orientation, .int k_copies, .int k_width, .int k_height, .ref k_steps, .int k_phase, .int k_family, .int k_group, .int k_part, .int k_signed, .int k_negative, .int k_whole, .int k_behind, .int k_places, .int k_dataLeft, .int k_last, .int k_dataTo, .int k_bytesCame, .int k_came, .int k_cameX, .int k_cameY, .int k_glyphs, .int k_allGlyphs, .int k_touched, .ref k_glyph, .int k_pages, .ref k_page, .int k_others, .ref k_other, .int k_stored, .ref k_store])), (k_state, .inl (c1, 53, .inl (upd gz i 0)))] H := hP
        replace hD : va_D A [(h0, .inr (13, [.int k_thrown, .ref k_state, .ref k_kept, .ref k_isKept, .int k_size, .int k_orientation, .int k_copies, .int k_width, .int k_height, .ref k_steps, .int k_phase, .int k_family, .int k_group, .int k_part, .int k_signed, .int k_negative, .int k_whole, .int k_behind, .int k_places, .int k_dataLeft, .int k_last, .int k_dataTo, .int k_bytesCame, .int k_came, .int k_cameX, .int k_cameY, .int k_glyphs, .int k_allGlyphs, .int k_touched, .ref k_glyph, .int k_pages, .ref k_page, .int k_others, .ref k_other, .int k_stored, .ref k_store])), (k_state, .inl (c1, 53, .inl (upd gz i 0)))] := hD
        refine lv_iinc (v := x + 1) (lv' := [(1, .int (x + 1)), (0, .ref h0)]) hx hb d_mDesk_reset_15 hl (k := 1) rfl rfl (by decide) rfl ?_
        clear hl
        intro ls hl
        refine lv_goto (tgt := 2) hx hb d_mDesk_reset_18 (by decide) ?_
        exact ih (i + 1) (x + 1) (upd gz i 0) (by rw [ex]; exact nI_1 i) (by omega) (by omega) (fun j h => if e : j = i then (by rw [e]; exact pk_us) else (by rw [pk_un e]; exact hg j (by omega))) _ _ _ hK hP hD hS (lv_sub hl [1, 0] rfl)
  exact cut2 (54) 0 0 sf (rfl) (Nat.zero_le _) (by omega) (fun j h => absurd h (Nat.not_lt_zero j)) _ _ _ hK hP hD hS (lv_sub hl [1, 0] rfl)

abbrev at_c_Desk_init (dC : Nat → ClassId) (dI : Nat → Nat → Nat) (h0 : Nat) (A : Nat → Prop) (u : (Nat → Int32) × (Nat → Int32)) (t : State) : Prop := match u with
  | (sv, g) => ∃ (q_3 : Nat) (q_5 : Nat) (q_7 : Nat) (q_9 : Nat) (q_11 : Nat) (q_13 : Nat) (q_15 : Nat) (q_1 : Nat) (cA_4 : ClassId) (cA_6 : ClassId) (cA_8 : ClassId) (cA_10 : ClassId) (cA_12 : ClassId) (cA_14 : ClassId) (cA_16 : ClassId) (cA_2 : ClassId), va_P (dC, dI) vcl [(h0, .inr (13, [.int 0, .ref q_1, .ref q_3, .ref q_5, .int 2, .int 0, .int 1, .int 57600, .int 79200, .ref q_7, .int 0, .int 0, .int 0, .int 0, .int 0, .int 0, .int 0, .int 0, .int 0, .int 0, .int 0, .int 0, .int 0, .int 0, .int 0, .int 0, .int 0, .int 0, .int 0, .ref q_9, .int 0, .ref q_11, .int 0, .ref q_13, .int 0, .ref q_15])), (q_3, .inl (cA_4, 159, .inl (fun _ => 0))), (q_5, .inl (cA_6, 3, .inl (fun _ => 0))), (q_7, .inl (cA_8, 512, .inl sv)), (q_9, .inl (cA_10, 24000, .inl (fun _ => 0))), (q_11, .inl (cA_12, 160, .inl (fun _ => 0))), (q_13, .inl (cA_14, 112, .inl (fun _ => 0))), (q_15, .inl (cA_16, 4096, .inl (fun _ => 0))), (q_1, .inl (cA_2, 53, .inl (upd (upd (upd (upd (upd (upd (upd (upd g 6 720) 7 1200) 4 3600) 5 72000) 2 0) 3 57600) 0 0) 1 4500)))] t.heap ∧ va_K (dC, dI) vcl [(cA_4, .int), (cA_6, .boolean), (cA_8, .int), (cA_10, .int), (cA_12, .int), (cA_14, .int), (cA_16, .byte), (cA_2, .int)] t ∧ va_D A [(h0, .inr (13, [.int 0, .ref q_1, .ref q_3, .ref q_5, .int 2, .int 0, .int 1, .int 57600, .int 79200, .ref q_7, .int 0, .int 0, .int 0, .int 0, .int 0, .int 0, .int 0, .int 0, .int 0, .int 0, .int 0, .int 0, .int 0, .int 0, .int 0, .int 0, .int 0, .int 0, .int 0, .ref q_9, .int 0, .ref q_11, .int 0, .ref q_13, .int 0, .ref q_15])), (q_3, .inl (cA_4, 159, .inl (fun _ => 0))), (q_5, .inl (cA_6, 3, .inl (fun _ => 0))), (q_7, .inl (cA_8, 512, .inl sv)), (q_9, .inl (cA_10, 24000, .inl (fun _ => 0))), (q_11, .inl (cA_12, 160, .inl (fun _ => 0))), (q_13, .inl (cA_14, 112, .inl (fun _ => 0))), (q_15, .inl (cA_16, 4096, .inl (fun _ => 0))), (q_1, .inl (cA_2, 53, .inl (upd (upd (upd (upd (upd (upd (upd (upd g 6 720) 7 1200) 4 3600) 5 72000) 2 0) 3 57600) 0 0) 1 4500)))]
abbrev po_c_Desk_init (h0 : Nat) (u : (Nat → Int32) × (Nat → Int32)) : Prop := match u with
  | (sv, g) => (∀ j, j < 512 → sv j = -1) ∧ ∀ j, j < 53 → g j = 0
abbrev q_c_Desk_init (dC : Nat → ClassId) (dI : Nat → Nat → Nat) (h0 : Nat) (A : Nat → Prop) : Array Value → State → Outcome → State → Prop := va_Qv (po_c_Desk_init h0) (at_c_Desk_init dC dI h0 A) A
abbrev rm_c_Desk_init : Room := { frames := 4, cells := 8, slots := 29095, locals := 85 }
set_option maxHeartbeats 4000000 in
set_option maxRecDepth 100000 in
theorem c_Desk_init (l : Launch) (dC : Nat → ClassId) (dI : Nat → Nat → Nat) (tt : Nat → Nat) (h0 : Nat) (sz : Nat)  : Met l y_mDesk_init w_mDesk_init rm_c_Desk_init (va_Pc [.ref h0] (fun U => U.heap.size = sz ∧ va_P (dC, dI) vcl [(h0, .inr (13, [.int 0, .null, .null, .null, .int 0, .int 0, .int 0, .int 0, .int 0, .null, .int 0, .int 0, .int 0, .int 0, .int 0, .int 0, .int 0, .int 0, .int 0, .int 0, .int 0, .int 0, .int 0, .int 0, .int 0, .int 0, .int 0, .int 0, .int 0, .null, .int 0, .null, .int 0, .null, .int 0, .null]))] U.heap ∧ va_K (dC, dI) vcl [] U ∧ va_D (fun _ => True) [(h0, .inr (13, [.int 0, .null, .null, .null, .int 0, .int 0, .int 0, .int 0, .int 0, .null, .int 0, .int 0, .int 0, .int 0, .int 0, .int 0, .int 0, .int 0, .int 0, .int 0, .int 0, .int 0, .int 0, .int 0, .int 0, .int 0, .int 0, .int 0, .int 0, .null, .int 0, .null, .int 0, .null, .int 0, .null]))] ∧ SF tt (va_A [(h0, .inr (13, [.int 0, .null, .null, .null, .int 0, .int 0, .int 0, .int 0, .int 0, .null, .int 0, .int 0, .int 0, .int 0, .int 0, .int 0, .int 0, .int 0, .int 0, .int 0, .int 0, .int 0, .int 0, .int 0, .int 0, .int 0, .int 0, .int 0, .int 0, .null, .int 0, .null, .int 0, .null, .int 0, .null]))] sz) U U.heap)) (q_c_Desk_init dC dI h0 (va_A [(h0, .inr (13, [.int 0, .null, .null, .null, .int 0, .int 0, .int 0, .int 0, .int 0, .null, .int 0, .int 0, .int 0, .int 0, .int 0, .int 0, .int 0, .int 0, .int 0, .int 0, .int 0, .int 0, .int 0, .int 0, .int 0, .int 0, .int 0, .int 0, .int 0, .null, .int 0, .null, .int 0, .null, .int 0, .null]))] sz)) 8 29095 (va_A [(h0, .inr (13, [.int 0, .null, .null, .null, .int 0, .int 0, .int 0, .int 0, .int 0, .null, .int 0, .int 0, .int 0, .int 0, .int 0, .int 0, .int 0, .int 0, .int 0, .int 0, .int 0, .int 0, .int 0, .int 0, .int 0, .int 0, .int 0, .int 0, .int 0, .null, .int 0, .null, .int 0, .null, .int 0, .null]))] sz) := by
  refine Met.ofW (cc := b_mDesk_init) (maxL := 2) (ret := none) (by decide) rfl ?_
  intro p e s m args below meth c s₁ B hml hv
  obtain ⟨rfl, hsz, hP, hK, hD0, hF⟩ := hv
  have hx := B.exec
  have hb := B.bytes
  have hr := B.returns
  have hwd : ∀ w ∈ gT, w.before _ s = true := fun w h => atoms_spec (ws := w_mDesk_init) B.pre w (List.mem_cons_of_mem _ h)
  have hown : s.vm.findClass R_mDesk = some m.cls := findClass_of_methodNamed B.named
  have hlocks := B.notSynchronized
  have hin : meth.name = "<init>" := (name_of_methodNamed B.named B.method).1
  subst hsz
  have hD := hD0.self (sz := s.heap.size)
  generalize hAe : va_A [(h0, .inr (13, [.int 0, .null, .null, .null, .int 0, .int 0, .int 0, .int 0, .int 0, .null, .int 0, .int 0, .int 0, .int 0, .int 0, .int 0, .int 0, .int 0, .int 0, .int 0, .int 0, .int 0, .int 0, .int 0, .int 0, .int 0, .int 0, .int 0, .int 0, .null, .int 0, .null, .int 0, .null, .int 0, .null]))] s.heap.size = A at hD hF ⊢
  have hA : ∀ q : Nat, s.heap.size ≤ q → A q := fun q h => by rw [← hAe]; exact Or.inr h
  have hS : va_S A s.heap s.heap [] := va_S.rf
  have hP : va_P (dC, dI) vcl [(h0, .inr (13, [.int 0, .null, .null, .null, .int 0, .int 0, .int 0, .int 0, .int 0, .null, .int 0, .int 0, .int 0, .int 0, .int 0, .int 0, .int 0, .int 0, .int 0, .int 0, .int 0, .int 0, .int 0, .int 0, .int 0, .int 0, .int 0, .int 0, .int 0, .null, .int 0, .null, .int 0, .null, .int 0, .null]))] s.heap := hP
  have hl := lv_entry ([.ref h0]) (n := 2) (Nat.le_of_ble_eq_true rfl)
  rw [lg_entry_eq]
  generalize (lg_sl ([.ref h0]) ++ List.replicate (2 - (lg_sl ([.ref h0])).length) Slot.unset).toArray = ls at hl ⊢
  have hl : lv_has ls 2 [(0, .ref h0)] := hl
  refine lv_aload_n hx hb d_mDesk_init_0 rfl (lv_at hl 0 rfl) ?_
  refine W.objInit hx hb hown (hwd _ wd_9_34) (hwd _ wd_1_35) (hwd _ wd_1_36) rfl (by rw [hml]; exact hl.1) rfl d_mDesk_init_1 (Nat.le_of_ble_eq_true rfl) (Nat.le_of_ble_eq_true rfl) ?_
  refine W.eq (g2 := F0 m 4 ls []) rfl ?_
  refine lv_aload_n hx hb d_mDesk_init_4 rfl (lv_at hl 0 rfl) ?_
  refine lv_bipush (v := 53) hx hb d_mDesk_init_5 (by decide) ?_
  refine va_newa (atype := .int) (N' := 53) (a0 := (53, .inl (fun _ => 0))) (ty := .int) (n := 53) hx hb (hwd _ wd_1_167) rfl hK hP hD hS hA (fun _ => rfl) (by decide) (by decide) (by decide) (Nat.le_of_ble_eq_true rfl) (Nat.le_of_ble_eq_true rfl) d_mDesk_init_7 ?_
  clear hP hD hS hK
  intro q_1 cA_2 H hK hP hD hS
  replace hP : va_P (dC, dI) vcl [(h0, .inr (13, [.int 0, .null, .null, .null, .int 0, .int 0, .int 0, .int 0, .int 0, .null, .int 0, .int 0, .int 0, .int 0, .int 0, .int 0, .int 0, .int 0, .int 0, .int 0, .int 0, .int 0, .int 0, .int 0, .int 0, .int 0, .int 0, .int 0, .int 0, .null, .int 0, .null, .int 0, .null, .int 0, .null])), (q_1, .inl (cA_2, 53, .inl (fun _ => 0)))] H := hP
  replace hD : va_D A [(h0, .inr (13, [.int 0, .null, .null, .null, .int 0, .int 0, .int 0, .int 0, .int 0, .null, .int 0, .int 0, .int 0, .int 0, .int 0, .int 0, .int 0, .int 0, .int 0, .int 0, .int 0, .int 0, .int 0, .int 0, .int 0, .int 0, .int 0, .int 0, .int 0, .null, .int 0, .null, .int 0, .null, .int 0, .null])), (q_1, .inl (cA_2, 53, .inl (fun _ => 0)))] := hD
  replace hK : va_K (dC, dI) vcl [(cA_2, .int)] s := hK
  refine W.widen (k := 1) (n := 53) (by decide) (by decide) ?_
  refine va_putF (D := (dC, dI)) (ci := 13) (v := .ref q_1) (ty := (.array .int)) (C := R_mDesk) (T := F_mDesk) (N := 36) hx hb hwd i_mDesk t_mDesk to_mDesk no_mDesk hown hK hP hD hS 0 rfl rfl 1 (by decide) (hwd _ wd_9_77) (fun _ h9 => h9) rfl hin rfl (by decide +kernel) rfl rfl (Nat.le_of_ble_eq_true rfl) d_mDesk_init_9 ?_
  clear hP hD hS
  intro H locs hP hD hS
  replace hP : va_P (dC, dI) vcl [(h0, .inr (13, [.int 0, .ref q_1, .null, .null, .int 0, .int 0, .int 0, .int 0, .int 0, .null, .int 0, .int 0, .int 0, .int 0, .int 0, .int 0, .int 0, .int 0, .int 0, .int 0, .int 0, .int 0, .int 0, .int 0, .int 0, .int 0, .int 0, .int 0, .int 0, .null, .int 0, .null, .int 0, .null, .int 0, .null])), (q_1, .inl (cA_2, 53, .inl (fun _ => 0)))] H := hP
  replace hD : va_D A [(h0, .inr (13, [.int 0, .ref q_1, .null, .null, .int 0, .int 0, .int 0, .int 0, .int 0, .null, .int 0, .int 0, .int 0, .int 0, .int 0, .int 0, .int 0, .int 0, .int 0, .int 0, .int 0, .int 0, .int 0, .int 0, .int 0, .int 0, .int 0, .int 0, .int 0, .null, .int 0, .null, .int 0, .null, .int 0, .null])), (q_1, .inl (cA_2, 53, .inl (fun _ => 0)))] := hD
  refine lv_aload_n hx hb d_mDesk_init_12 rfl (lv_at hl 0 rfl) ?_
  refine lv_sipush (v := 159) hx hb d_mDesk_init_13 (by decide) ?_
  refine va_newa (atype := .int) (N' := 159) (a0 := (159, .inl (fun _ => 0))) (ty := .int) (n := 159) hx hb (hwd _ wd_1_167) rfl hK hP hD hS hA (fun _ => rfl) (by decide) (by decide) (by decide) (Nat.le_of_ble_eq_true rfl) (Nat.le_of_ble_eq_true rfl) d_mDesk_init_16 ?_
  clear hP hD hS hK
  intro q_3 cA_4 H hK hP hD hS
  replace hP : va_P (dC, dI) vcl [(h0, .inr (13, [.int 0, .ref q_1, .null, .null, .int 0, .int 0, .int 0, .int 0, .int 0, .null, .int 0, .int 0, .int 0, .int 0, .int 0, .int 0, .int 0, .int 0, .int 0, .int 0, .int 0, .int 0, .int 0, .int 0, .int 0, .int 0, .int 0, .int 0, .int 0, .null, .int 0, .null, .int 0, .null, .int 0, .null])), (q_1, .inl (cA_2, 53, .inl (fun _ => 0))), (q_3, .inl (cA_4, 159, .inl (fun _ => 0)))] H := hP
  replace hD : va_D A [(h0, .inr (13, [.int 0, .ref q_1, .null, .null, .int 0, .int 0, .int 0, .int 0, .int 0, .null, .int 0, .int 0, .int 0, .int 0, .int 0, .int 0, .int 0, .int 0, .int 0, .int 0, .int 0, .int 0, .int 0, .int 0, .int 0, .int 0, .int 0, .int 0, .int 0, .null, .int 0, .null, .int 0, .null, .int 0, .null])), (q_1, .inl (cA_2, 53, .inl (fun _ => 0))), (q_3, .inl (cA_4, 159, .inl (fun _ => 0)))] := hD
  replace hK : va_K (dC, dI) vcl [(cA_2, .int), (cA_4, .int)] s := hK
  refine W.widen (k := 2) (n := 212) (by decide) (by decide) ?_
  refine va_putF (D := (dC, dI)) (ci := 13) (v := .ref q_3) (ty := (.array .int)) (C := R_mDesk) (T := F_mDesk) (N := 36) hx hb hwd i_mDesk t_mDesk to_mDesk no_mDesk hown hK hP hD hS 0 rfl rfl 2 (by decide) (hwd _ wd_9_79) (fun _ h9 => h9) rfl hin rfl (by decide +kernel) rfl rfl (Nat.le_of_ble_eq_true rfl) d_mDesk_init_18 ?_
  clear hP hD hS
  intro H locs hP hD hS
  replace hP : va_P (dC, dI) vcl [(h0, .inr (13, [.int 0, .ref q_1, .ref q_3, .null, .int 0, .int 0, .int 0, .int 0, .int 0, .null, .int 0, .int 0, .int 0, .int 0, .int 0, .int 0, .int 0, .int 0, .int 0, .int 0, .int 0, .int 0, .int 0, .int 0, .int 0, .int 0, .int 0, .int 0, .int 0, .null, .int 0, .null, .int 0, .null, .int 0, .null])), (q_1, .inl (cA_2, 53, .inl (fun _ => 0))), (q_3, .inl (cA_4, 159, .inl (fun _ => 0)))] H := hP
  replace hD : va_D A [(h0, .inr (13, [.int 0, .ref q_1, .ref q_3, .null, .int 0, .int 0, .int 0, .int 0, .int 0, .null, .int 0, .int 0, .int 0, .int 0, .int 0, .int 0, .int 0, .int 0, .int 0, .int 0, .int 0, .int 0, .int 0, .int 0, .int 0, .int 0, .int 0, .int 0, .int 0, .null, .int 0, .null, .int 0, .null, .int 0, .null])), (q_1, .inl (cA_2, 53, .inl (fun _ => 0))), (q_3, .inl (cA_4, 159, .inl (fun _ => 0)))] := hD
  refine lv_aload_n hx hb d_mDesk_init_21 rfl (lv_at hl 0 rfl) ?_
  refine lv_iconst (v := 3) hx hb d_mDesk_init_22 (by decide) ?_
  refine va_newa (atype := .boolean) (N' := 3) (a0 := (3, .inl (fun _ => 0))) (ty := .boolean) (n := 3) hx hb (hwd _ wd_2_150) rfl hK hP hD hS hA (fun _ => rfl) (by decide) (by decide) (by decide) (Nat.le_of_ble_eq_true rfl) (Nat.le_of_ble_eq_true rfl) d_mDesk_init_23 ?_
  clear hP hD hS hK
  intro q_5 cA_6 H hK hP hD hS
  replace hP : va_P (dC, dI) vcl [(h0, .inr (13, [.int 0, .ref q_1, .ref q_3, .null, .int 0, .int 0, .int 0, .int 0, .int 0, .null, .int 0, .int 0, .int 0, .int 0, .int 0, .int 0, .int 0, .int 0, .int 0, .int 0, .int 0, .int 0, .int 0, .int 0, .int 0, .int 0, .int 0, .int 0, .int 0, .null, .int 0, .null, .int 0, .null, .int 0, .null])), (q_1, .inl (cA_2, 53, .inl (fun _ => 0))), (q_3, .inl (cA_4, 159, .inl (fun _ => 0))), (q_5, .inl (cA_6, 3, .inl (fun _ => 0)))] H := hP
  replace hD : va_D A [(h0, .inr (13, [.int 0, .ref q_1, .ref q_3, .null, .int 0, .int 0, .int 0, .int 0, .int 0, .null, .int 0, .int 0, .int 0, .int 0, .int 0, .int 0, .int 0, .int 0, .int 0, .int 0, .int 0, .int 0, .int 0, .int 0, .int 0, .int 0, .int 0, .int 0, .int 0, .null, .int 0, .null, .int 0, .null, .int 0, .null])), (q_1, .inl (cA_2, 53, .inl (fun _ => 0))), (q_3, .inl (cA_4, 159, .inl (fun _ => 0))), (q_5, .inl (cA_6, 3, .inl (fun _ => 0)))] := hD
  replace hK : va_K (dC, dI) vcl [(cA_2, .int), (cA_4, .int), (cA_6, .boolean)] s := hK
  refine W.widen (k := 3) (n := 215) (by decide) (by decide) ?_
  refine va_putF (D := (dC, dI)) (ci := 13) (v := .ref q_5) (ty := (.array .boolean)) (C := R_mDesk) (T := F_mDesk) (N := 36) hx hb hwd i_mDesk t_mDesk to_mDesk no_mDesk hown hK hP hD hS 0 rfl rfl 3 (by decide) (hwd _ wd_9_80) (fun _ h9 => h9) rfl hin rfl (by decide +kernel) rfl rfl (Nat.le_of_ble_eq_true rfl) d_mDesk_init_25 ?_
  clear hP hD hS
  intro H locs hP hD hS
  replace hP : va_P (dC, dI) vcl [(h0, .inr (13, [.int 0, .ref q_1, .ref q_3, .ref q_5, .int 0, .int 0, .int 0, .int 0, .int 0, .null, .int 0, .int 0, .int 0, .int 0, .int 0, .int 0, .int 0, .int 0, .int 0, .int 0, .int 0, .int 0, .int 0, .int 0, .int 0, .int 0, .int 0, .int 0, .int 0, .null, .int 0, .null, .int 0, .null, .int 0, .null])), (q_1, .inl (cA_2, 53, .inl (fun _ => 0))), (q_3, .inl (cA_4, 159, .inl (fun _ => 0))), (q_5, .inl (cA_6, 3, .inl (fun _ => 0)))] H := hP
  replace hD : va_D A [(h0, .inr (13, [.int 0, .ref q_1, .ref q_3, .ref q_5, .int 0, .int 0, .int 0, .int 0, .int 0, .null, .int 0, .int 0, .int 0, .int 0, .int 0, .int 0, .int 0, .int 0, .int 0, .int 0, .int 0, .int 0, .int 0, .int 0, .int 0, .int 0, .int 0, .int 0, .int 0, .null, .int 0, .null, .int 0, .null, .int 0, .null])), (q_1, .inl (cA_2, 53, .inl (fun _ => 0))), (q_3, .inl (cA_4, 159, .inl (fun _ => 0))), (q_5, .inl (cA_6, 3, .inl (fun _ => 0)))] := hD
  refine lv_aload_n hx hb d_mDesk_init_28 rfl (lv_at hl 0 rfl) ?_
  refine lv_sipush (v := 512) hx hb d_mDesk_init_29 (by decide) ?_
  refine va_newa (atype := .int) (N' := 512) (a0 := (512, .inl (fun _ => 0))) (ty := .int) (n := 512) hx hb (hwd _ wd_1_167) rfl hK hP hD hS hA (fun _ => rfl) (by decide) (by decide) (by decide) (Nat.le_of_ble_eq_true rfl) (Nat.le_of_ble_eq_true rfl) d_mDesk_init_32 ?_
  clear hP hD hS hK
  intro q_7 cA_8 H hK hP hD hS
  replace hP : va_P (dC, dI) vcl [(h0, .inr (13, [.int 0, .ref q_1, .ref q_3, .ref q_5, .int 0, .int 0, .int 0, .int 0, .int 0, .null, .int 0, .int 0, .int 0, .int 0, .int 0, .int 0, .int 0, .int 0, .int 0, .int 0, .int 0, .int 0, .int 0, .int 0, .int 0, .int 0, .int 0, .int 0, .int 0, .null, .int 0, .null, .int 0, .null, .int 0, .null])), (q_1, .inl (cA_2, 53, .inl (fun _ => 0))), (q_3, .inl (cA_4, 159, .inl (fun _ => 0))), (q_5, .inl (cA_6, 3, .inl (fun _ => 0))), (q_7, .inl (cA_8, 512, .inl (fun _ => 0)))] H := hP
  replace hD : va_D A [(h0, .inr (13, [.int 0, .ref q_1, .ref q_3, .ref q_5, .int 0, .int 0, .int 0, .int 0, .int 0, .null, .int 0, .int 0, .int 0, .int 0, .int 0, .int 0, .int 0, .int 0, .int 0, .int 0, .int 0, .int 0, .int 0, .int 0, .int 0, .int 0, .int 0, .int 0, .int 0, .null, .int 0, .null, .int 0, .null, .int 0, .null])), (q_1, .inl (cA_2, 53, .inl (fun _ => 0))), (q_3, .inl (cA_4, 159, .inl (fun _ => 0))), (q_5, .inl (cA_6, 3, .inl (fun _ => 0))), (q_7, .inl (cA_8, 512, .inl (fun _ => 0)))] := hD
  replace hK : va_K (dC, dI) vcl [(cA_2, .int), (cA_4, .int), (cA_6, .boolean), (cA_8, .int)] s := hK
  refine W.widen (k := 4) (n := 727) (by decide) (by decide) ?_
  refine va_putF (D := (dC, dI)) (ci := 13) (v := .ref q_7) (ty := (.array .int)) (C := R_mDesk) (T := F_mDesk) (N := 36) hx hb hwd i_mDesk t_mDesk to_mDesk no_mDesk hown hK hP hD hS 0 rfl rfl 9 (by decide) (hwd _ wd_9_88) (fun _ h9 => h9) rfl hin rfl (by decide +kernel) rfl rfl (Nat.le_of_ble_eq_true rfl) d_mDesk_init_34 ?_
  clear hP hD hS
  intro H locs hP hD hS
  replace hP : va_P (dC, dI) vcl [(h0, .inr (13, [.int 0, .ref q_1, .ref q_3, .ref q_5, .int 0, .int 0, .int 0, .int 0, .int 0, .ref q_7, .int 0, .int 0, .int 0, .int 0, .int 0, .int 0, .int 0, .int 0, .int 0, .int 0, .int 0, .int 0, .int 0, .int 0, .int 0, .int 0, .int 0, .int 0, .int 0, .null, .int 0, .null, .int 0, .null, .int 0, .null])), (q_1, .inl (cA_2, 53, .inl (fun _ => 0))), (q_3, .inl (cA_4, 159, .inl (fun _ => 0))), (q_5, .inl (cA_6, 3, .inl (fun _ => 0))), (q_7, .inl (cA_8, 512, .inl (fun _ => 0)))] H := hP
  replace hD : va_D A [(h0, .inr (13, [.int 0, .ref q_1, .ref q_3, .ref q_5, .int 0, .int 0, .int 0, .int 0, .int 0, .ref q_7, .int 0, .int 0, .int 0, .int 0, .int 0, .int 0, .int 0, .int 0, .int 0, .int 0, .int 0, .int 0, .int 0, .int 0, .int 0, .int 0, .int 0, .int 0, .int 0, .null, .int 0, .null, .int 0, .null, .int 0, .null])), (q_1, .inl (cA_2, 53, .inl (fun _ => 0))), (q_3, .inl (cA_4, 159, .inl (fun _ => 0))), (q_5, .inl (cA_6, 3, .inl (fun _ => 0))), (q_7, .inl (cA_8, 512, .inl (fun _ => 0)))] := hD
  refine lv_aload_n hx hb d_mDesk_init_37 rfl (lv_at hl 0 rfl) ?_
  refine lv_sipush (v := 24000) hx hb d_mDesk_init_38 (by decide) ?_
  refine va_newa (atype := .int) (N' := 24000) (a0 := (24000, .inl (fun _ => 0))) (ty := .int) (n := 24000) hx hb (hwd _ wd_1_167) rfl hK hP hD hS hA (fun _ => rfl) (by decide) (by decide) (by decide) (Nat.le_of_ble_eq_true rfl) (Nat.le_of_ble_eq_true rfl) d_mDesk_init_41 ?_
  clear hP hD hS hK
  intro q_9 cA_10 H hK hP hD hS
  replace hP : va_P (dC, dI) vcl [(h0, .inr (13, [.int 0, .ref q_1, .ref q_3, .ref q_5, .int 0, .int 0, .int 0, .int 0, .int 0, .ref q_7, .int 0, .int 0, .int 0, .int 0, .int 0, .int 0, .int 0, .int 0, .int 0, .int 0, .int 0, .int 0, .int 0, .int 0, .int 0, .int 0, .int 0, .int 0, .int 0, .null, .int 0, .null, .int 0, .null, .int 0, .null])), (q_1, .inl (cA_2, 53, .inl (fun _ => 0))), (q_3, .inl (cA_4, 159, .inl (fun _ => 0))), (q_5, .inl (cA_6, 3, .inl (fun _ => 0))), (q_7, .inl (cA_8, 512, .inl (fun _ => 0))), (q_9, .inl (cA_10, 24000, .inl (fun _ => 0)))] H := hP
  replace hD : va_D A [(h0, .inr (13, [.int 0, .ref q_1, .ref q_3, .ref q_5, .int 0, .int 0, .int 0, .int 0, .int 0, .ref q_7, .int 0, .int 0, .int 0, .int 0, .int 0, .int 0, .int 0, .int 0, .int 0, .int 0, .int 0, .int 0, .int 0, .int 0, .int 0, .int 0, .int 0, .int 0, .int 0, .null, .int 0, .null, .int 0, .null, .int 0, .null])), (q_1, .inl (cA_2, 53, .inl (fun _ => 0))), (q_3, .inl (cA_4, 159, .inl (fun _ => 0))), (q_5, .inl (cA_6, 3, .inl (fun _ => 0))), (q_7, .inl (cA_8, 512, .inl (fun _ => 0))), (q_9, .inl (cA_10, 24000, .inl (fun _ => 0)))] := hD
  replace hK : va_K (dC, dI) vcl [(cA_2, .int), (cA_4, .int), (cA_6, .boolean), (cA_8, .int), (cA_10, .int)] s := hK
  refine W.widen (k := 5) (n := 24727) (by decide) (by decide) ?_
  refine va_putF (D := (dC, dI)) (ci := 13) (v := .ref q_9) (ty := (.array .int)) (C := R_mDesk) (T := F_mDesk) (N := 36) hx hb hwd i_mDesk t_mDesk to_mDesk no_mDesk hown hK hP hD hS 0 rfl rfl 29 (by decide) (hwd _ wd_9_112) (fun _ h9 => h9) rfl hin rfl (by decide +kernel) rfl rfl (Nat.le_of_ble_eq_true rfl) d_mDesk_init_43 ?_
  clear hP hD hS
  intro H locs hP hD hS
  replace hP : va_P (dC, dI) vcl [(h0, .inr (13, [.int 0, .ref q_1, .ref q_3, .ref q_5, .int 0, .int 0, .int 0, .int 0, .int 0, .ref q_7, .int 0, .int 0, .int 0, .int 0, .int 0, .int 0, .int 0, .int 0, .int 0, .int 0, .int 0, .int 0, .int 0, .int 0, .int 0, .int 0, .int 0, .int 0, .int 0, .ref q_9, .int 0, .null, .int 0, .null, .int 0, .null])), (q_1, .inl (cA_2, 53, .inl (fun _ => 0))), (q_3, .inl (cA_4, 159, .inl (fun _ => 0))), (q_5, .inl (cA_6, 3, .inl (fun _ => 0))), (q_7, .inl (cA_8, 512, .inl (fun _ => 0))), (q_9, .inl (cA_10, 24000, .inl (fun _ => 0)))] H := hP
  replace hD : va_D A [(h0, .inr (13, [.int 0, .ref q_1, .ref q_3, .ref q_5, .int 0, .int 0, .int 0, .int 0, .int 0, .ref q_7, .int 0, .int 0, .int 0, .int 0, .int 0, .int 0, .int 0, .int 0, .int 0, .int 0, .int 0, .int 0, .int 0, .int 0, .int 0, .int 0, .int 0, .int 0, .int 0, .ref q_9, .int 0, .null, .int 0, .null, .int 0, .null])), (q_1, .inl (cA_2, 53, .inl (fun _ => 0))), (q_3, .inl (cA_4, 159, .inl (fun _ => 0))), (q_5, .inl (cA_6, 3, .inl (fun _ => 0))), (q_7, .inl (cA_8, 512, .inl (fun _ => 0))), (q_9, .inl (cA_10, 24000, .inl (fun _ => 0)))] := hD
  refine lv_aload_n hx hb d_mDesk_init_46 rfl (lv_at hl 0 rfl) ?_
  refine lv_sipush (v := 160) hx hb d_mDesk_init_47 (by decide) ?_
  refine va_newa (atype := .int) (N' := 160) (a0 := (160, .inl (fun _ => 0))) (ty := .int) (n := 160) hx hb (hwd _ wd_1_167) rfl hK hP hD hS hA (fun _ => rfl) (by decide) (by decide) (by decide) (Nat.le_of_ble_eq_true rfl) (Nat.le_of_ble_eq_true rfl) d_mDesk_init_50 ?_
  clear hP hD hS hK
  intro q_11 cA_12 H hK hP hD hS
  replace hP : va_P (dC, dI) vcl [(h0, .inr (13, [.int 0, .ref q_1, .ref q_3, .ref q_5, .int 0, .int 0, .int 0, .int 0, .int 0, .ref q_7, .int 0, .int 0, .int 0, .int 0, .int 0, .int 0, .int 0, .int 0, .int 0, .int 0, .int 0, .int 0, .int 0, .int 0, .int 0, .int 0, .int 0, .int 0, .int 0, .ref q_9, .int 0, .null, .int 0, .null, .int 0, .null])), (q_1, .inl (cA_2, 53, .inl (fun _ => 0))), (q_3, .inl (cA_4, 159, .inl (fun _ => 0))), (q_5, .inl (cA_6, 3, .inl (fun _ => 0))), (q_7, .inl (cA_8, 512, .inl (fun _ => 0))), (q_9, .inl (cA_10, 24000, .inl (fun _ => 0))), (q_11, .inl (cA_12, 160, .inl (fun _ => 0)))] H := hP
  replace hD : va_D A [(h0, .inr (13, [.int 0, .ref q_1, .ref q_3, .ref q_5, .int 0, .int 0, .int 0, .int 0, .int 0, .ref q_7, .int 0, .int 0, .int 0, .int 0, .int 0, .int 0, .int 0, .int 0, .int 0, .int 0, .int 0, .int 0, .int 0, .int 0, .int 0, .int 0, .int 0, .int 0, .int 0, .ref q_9, .int 0, .null, .int 0, .null, .int 0, .null])), (q_1, .inl (cA_2, 53, .inl (fun _ => 0))), (q_3, .inl (cA_4, 159, .inl (fun _ => 0))), (q_5, .inl (cA_6, 3, .inl (fun _ => 0))), (q_7, .inl (cA_8, 512, .inl (fun _ => 0))), (q_9, .inl (cA_10, 24000, .inl (fun _ => 0))), (q_11, .inl (cA_12, 160, .inl (fun _ => 0)))] := hD
  replace hK : va_K (dC, dI) vcl [(cA_2, .int), (cA_4, .int), (cA_6, .boolean), (cA_8, .int), (cA_10, .int), (cA_12, .int)] s := hK
  refine W.widen (k := 6) (n := 24887) (by decide) (by decide) ?_
  refine va_putF (D := (dC, dI)) (ci := 13) (v := .ref q_11) (ty := (.array .int)) (C := R_mDesk) (T := F_mDesk) (N := 36) hx hb hwd i_mDesk t_mDesk to_mDesk no_mDesk hown hK hP hD hS 0 rfl rfl 31 (by decide) (hwd _ wd_9_115) (fun _ h9 => h9) rfl hin rfl (by decide +kernel) rfl rfl (Nat.le_of_ble_eq_true rfl) d_mDesk_init_52 ?_
  clear hP hD hS
  intro H locs hP hD hS
  replace hP : va_P (dC, dI) vcl [(h0, .inr (13, [.int 0, .ref q_1, .ref q_3, .ref q_5, .int 0, .int 0, .int 0, .int 0, .int 0, .ref q_7, .int 0, .int 0, .int 0, .int 0, .int 0, .int 0, .int 0, .int 0, .int 0, .int 0, .int 0, .int 0, .int 0, .int 0, .int 0, .int 0, .int 0, .int 0, .int 0, .ref q_9, .int 0, .ref q_11, .int 0, .null, .int 0, .null])), (q_1, .inl (cA_2, 53, .inl (fun _ => 0))), (q_3, .inl (cA_4, 159, .inl (fun _ => 0))), (q_5, .inl (cA_6, 3, .inl (fun _ => 0))), (q_7, .inl (cA_8, 512, .inl (fun _ => 0))), (q_9, .inl (cA_10, 24000, .inl (fun _ => 0))), (q_11, .inl (cA_12, 160, .inl (fun _ => 0)))] H := hP
  replace hD : va_D A [(h0, .inr (13, [.int 0, .ref q_1, .ref q_3, .ref q_5, .int 0, .int 0, .int 0, .int 0, .int 0, .ref q_7, .int 0, .int 0, .int 0, .int 0, .int 0, .int 0, .int 0, .int 0, .int 0, .int 0, .int 0, .int 0, .int 0, .int 0, .int 0, .int 0, .int 0, .int 0, .int 0, .ref q_9, .int 0, .ref q_11, .int 0, .null, .int 0, .null])), (q_1, .inl (cA_2, 53, .inl (fun _ => 0))), (q_3, .inl (cA_4, 159, .inl (fun _ => 0))), (q_5, .inl (cA_6, 3, .inl (fun _ => 0))), (q_7, .inl (cA_8, 512, .inl (fun _ => 0))), (q_9, .inl (cA_10, 24000, .inl (fun _ => 0))), (q_11, .inl (cA_12, 160, .inl (fun _ => 0)))] := hD
  refine lv_aload_n hx hb d_mDesk_init_55 rfl (lv_at hl 0 rfl) ?_
  refine lv_bipush (v := 112) hx hb d_mDesk_init_56 (by decide) ?_
  refine va_newa (atype := .int) (N' := 112) (a0 := (112, .inl (fun _ => 0))) (ty := .int) (n := 112) hx hb (hwd _ wd_1_167) rfl hK hP hD hS hA (fun _ => rfl) (by decide) (by decide) (by decide) (Nat.le_of_ble_eq_true rfl) (Nat.le_of_ble_eq_true rfl) d_mDesk_init_58 ?_
  clear hP hD hS hK
  intro q_13 cA_14 H hK hP hD hS
  replace hP : va_P (dC, dI) vcl [(h0, .inr (13, [.int 0, .ref q_1, .ref q_3, .ref q_5, .int 0, .int 0, .int 0, .int 0, .int 0, .ref q_7, .int 0, .int 0, .int 0, .int 0, .int 0, .int 0, .int 0, .int 0, .int 0, .int 0, .int 0, .int 0, .int 0, .int 0, .int 0, .int 0, .int 0, .int 0, .int 0, .ref q_9, .int 0, .ref q_11, .int 0, .null, .int 0, .null])), (q_1, .inl (cA_2, 53, .inl (fun _ => 0))), (q_3, .inl (cA_4, 159, .inl (fun _ => 0))), (q_5, .inl (cA_6, 3, .inl (fun _ => 0))), (q_7, .inl (cA_8, 512, .inl (fun _ => 0))), (q_9, .inl (cA_10, 24000, .inl (fun _ => 0))), (q_11, .inl (cA_12, 160, .inl (fun _ => 0))), (q_13, .inl (cA_14, 112, .inl (fun _ => 0)))] H := hP
  replace hD : va_D A [(h0, .inr (13, [.int 0, .ref q_1, .ref q_3, .ref q_5, .int 0, .int 0, .int 0, .int 0, .int 0, .ref q_7, .int 0, .int 0, .int 0, .int 0, .int 0, .int 0, .int 0, .int 0, .int 0, .int 0, .int 0, .int 0, .int 0, .int 0, .int 0, .int 0, .int 0, .int 0, .int 0, .ref q_9, .int 0, .ref q_11, .int 0, .null, .int 0, .null])), (q_1, .inl (cA_2, 53, .inl (fun _ => 0))), (q_3, .inl (cA_4, 159, .inl (fun _ => 0))), (q_5, .inl (cA_6, 3, .inl (fun _ => 0))), (q_7, .inl (cA_8, 512, .inl (fun _ => 0))), (q_9, .inl (cA_10, 24000, .inl (fun _ => 0))), (q_11, .inl (cA_12, 160, .inl (fun _ => 0))), (q_13, .inl (cA_14, 112, .inl (fun _ => 0)))] := hD
  replace hK : va_K (dC, dI) vcl [(cA_2, .int), (cA_4, .int), (cA_6, .boolean), (cA_8, .int), (cA_10, .int), (cA_12, .int), (cA_14, .int)] s := hK
  refine W.widen (k := 7) (n := 24999) (by decide) (by decide) ?_
  refine va_putF (D := (dC, dI)) (ci := 13) (v := .ref q_13) (ty := (.array .int)) (C := R_mDesk) (T := F_mDesk) (N := 36) hx hb hwd i_mDesk t_mDesk to_mDesk no_mDesk hown hK hP hD hS 0 rfl rfl 33 (by decide) (hwd _ wd_9_119) (fun _ h9 => h9) rfl hin rfl (by decide +kernel) rfl rfl (Nat.le_of_ble_eq_true rfl) d_mDesk_init_60 ?_
  clear hP hD hS
  intro H locs hP hD hS
  replace hP : va_P (dC, dI) vcl [(h0, .inr (13, [.int 0, .ref q_1, .ref q_3, .ref q_5, .int 0, .int 0, .int 0, .int 0, .int 0, .ref q_7, .int 0, .int 0, .int 0, .int 0, .int 0, .int 0, .int 0, .int 0, .int 0, .int 0, .int 0, .int 0, .int 0, .int 0, .int 0, .int 0, .int 0, .int 0, .int 0, .ref q_9, .int 0, .ref q_11, .int 0, .ref q_13, .int 0, .null])), (q_1, .inl (cA_2, 53, .inl (fun _ => 0))), (q_3, .inl (cA_4, 159, .inl (fun _ => 0))), (q_5, .inl (cA_6, 3, .inl (fun _ => 0))), (q_7, .inl (cA_8, 512, .inl (fun _ => 0))), (q_9, .inl (cA_10, 24000, .inl (fun _ => 0))), (q_11, .inl (cA_12, 160, .inl (fun _ => 0))), (q_13, .inl (cA_14, 112, .inl (fun _ => 0)))] H := hP
  replace hD : va_D A [(h0, .inr (13, [.int 0, .ref q_1, .ref q_3, .ref q_5, .int 0, .int 0, .int 0, .int 0, .int 0, .ref q_7, .int 0, .int 0, .int 0, .int 0, .int 0, .int 0, .int 0, .int 0, .int 0, .int 0, .int 0, .int 0, .int 0, .int 0, .int 0, .int 0, .int 0, .int 0, .int 0, .ref q_9, .int 0, .ref q_11, .int 0, .ref q_13, .int 0, .null])), (q_1, .inl (cA_2, 53, .inl (fun _ => 0))), (q_3, .inl (cA_4, 159, .inl (fun _ => 0))), (q_5, .inl (cA_6, 3, .inl (fun _ => 0))), (q_7, .inl (cA_8, 512, .inl (fun _ => 0))), (q_9, .inl (cA_10, 24000, .inl (fun _ => 0))), (q_11, .inl (cA_12, 160, .inl (fun _ => 0))), (q_13, .inl (cA_14, 112, .inl (fun _ => 0)))] := hD
  refine lv_aload_n hx hb d_mDesk_init_63 rfl (lv_at hl 0 rfl) ?_
  refine lv_sipush (v := 4096) hx hb d_mDesk_init_64 (by decide) ?_
  refine va_newa (atype := .byte) (N' := 4096) (a0 := (4096, .inl (fun _ => 0))) (ty := .byte) (n := 4096) hx hb (hwd _ wd_1_166) rfl hK hP hD hS hA (fun _ => rfl) (by decide) (by decide) (by decide) (Nat.le_of_ble_eq_true rfl) (Nat.le_of_ble_eq_true rfl) d_mDesk_init_67 ?_
  clear hP hD hS hK
  intro q_15 cA_16 H hK hP hD hS
  replace hP : va_P (dC, dI) vcl [(h0, .inr (13, [.int 0, .ref q_1, .ref q_3, .ref q_5, .int 0, .int 0, .int 0, .int 0, .int 0, .ref q_7, .int 0, .int 0, .int 0, .int 0, .int 0, .int 0, .int 0, .int 0, .int 0, .int 0, .int 0, .int 0, .int 0, .int 0, .int 0, .int 0, .int 0, .int 0, .int 0, .ref q_9, .int 0, .ref q_11, .int 0, .ref q_13, .int 0, .null])), (q_1, .inl (cA_2, 53, .inl (fun _ => 0))), (q_3, .inl (cA_4, 159, .inl (fun _ => 0))), (q_5, .inl (cA_6, 3, .inl (fun _ => 0))), (q_7, .inl (cA_8, 512, .inl (fun _ => 0))), (q_9, .inl (cA_10, 24000, .inl (fun _ => 0))), (q_11, .inl (cA_12, 160, .inl (fun _ => 0))), (q_13, .inl (cA_14, 112, .inl (fun _ => 0))), (q_15, .inl (cA_16, 4096, .inl (fun _ => 0)))] H := hP
  replace hD : va_D A [(h0, .inr (13, [.int 0, .ref q_1, .ref q_3, .ref q_5, .int 0, .int 0, .int 0, .int 0, .int 0, .ref q_7, .int 0, .int 0, .int 0, .int 0, .int 0, .int 0, .int 0, .int 0, .int 0, .int 0, .int 0, .int 0, .int 0, .int 0, .int 0, .int 0, .int 0, .int 0, .int 0, .ref q_9, .int 0, .ref q_11, .int 0, .ref q_13, .int 0, .null])), (q_1, .inl (cA_2, 53, .inl (fun _ => 0))), (q_3, .inl (cA_4, 159, .inl (fun _ => 0))), (q_5, .inl (cA_6, 3, .inl (fun _ => 0))), (q_7, .inl (cA_8, 512, .inl (fun _ => 0))), (q_9, .inl (cA_10, 24000, .inl (fun _ => 0))), (q_11, .inl (cA_12, 160, .inl (fun _ => 0))), (q_13, .inl (cA_14, 112, .inl (fun _ => 0))), (q_15, .inl (cA_16, 4096, .inl (fun _ => 0)))] := hD
  replace hK : va_K (dC, dI) vcl [(cA_2, .int), (cA_4, .int), (cA_6, .boolean), (cA_8, .int), (cA_10, .int), (cA_12, .int), (cA_14, .int), (cA_16, .byte)] s := hK
  refine W.widen (k := 8) (n := 29095) (by decide) (by decide) ?_
  refine va_putF (D := (dC, dI)) (ci := 13) (v := .ref q_15) (ty := (.array .byte)) (C := R_mDesk) (T := F_mDesk) (N := 36) hx hb hwd i_mDesk t_mDesk to_mDesk no_mDesk hown hK hP hD hS 0 rfl rfl 35 (by decide) (hwd _ wd_9_122) (fun _ h9 => h9) rfl hin rfl (by decide +kernel) rfl rfl (Nat.le_of_ble_eq_true rfl) d_mDesk_init_69 ?_
  clear hP hD hS
  intro H locs hP hD hS
  replace hP : va_P (dC, dI) vcl [(h0, .inr (13, [.int 0, .ref q_1, .ref q_3, .ref q_5, .int 0, .int 0, .int 0, .int 0, .int 0, .ref q_7, .int 0, .int 0, .int 0, .int 0, .int 0, .int 0, .int 0, .int 0, .int 0, .int 0, .int 0, .int 0, .int 0, .int 0, .int 0, .int 0, .int 0, .int 0, .int 0, .ref q_9, .int 0, .ref q_11, .int 0, .ref q_13, .int 0, .ref q_15])), (q_1, .inl (cA_2, 53, .inl (fun _ => 0))), (q_3, .inl (cA_4, 159, .inl (fun _ => 0))), (q_5, .inl (cA_6, 3, .inl (fun _ => 0))), (q_7, .inl (cA_8, 512, .inl (fun _ => 0))), (q_9, .inl (cA_10, 24000, .inl (fun _ => 0))), (q_11, .inl (cA_12, 160, .inl (fun _ => 0))), (q_13, .inl (cA_14, 112, .inl (fun _ => 0))), (q_15, .inl (cA_16, 4096, .inl (fun _ => 0)))] H := hP
  replace hD : va_D A [(h0, .inr (13, [.int 0, .ref q_1, .ref q_3, .ref q_5, .int 0, .int 0, .int 0, .int 0, .int 0, .ref q_7, .int 0, .int 0, .int 0, .int 0, .int 0, .int 0, .int 0, .int 0, .int 0, .int 0, .int 0, .int 0, .int 0, .int 0, .int 0, .int 0, .int 0, .int 0, .int 0, .ref q_9, .int 0, .ref q_11, .int 0, .ref q_13, .int 0, .ref q_15])), (q_1, .inl (cA_2, 53, .inl (fun _ => 0))), (q_3, .inl (cA_4, 159, .inl (fun _ => 0))), (q_5, .inl (cA_6, 3, .inl (fun _ => 0))), (q_7, .inl (cA_8, 512, .inl (fun _ => 0))), (q_9, .inl (cA_10, 24000, .inl (fun _ => 0))), (q_11, .inl (cA_12, 160, .inl (fun _ => 0))), (q_13, .inl (cA_14, 112, .inl (fun _ => 0))), (q_15, .inl (cA_16, 4096, .inl (fun _ => 0)))] := hD
  refine lv_iconst (v := 0) hx hb d_mDesk_init_72 (by decide) ?_
  refine lv_istore_n (lv' := [(1, .int 0), (0, .ref h0)]) hx hb d_mDesk_init_73 rfl hl (by decide) rfl ?_
  clear hl
  intro ls hl
  have cut74 : ∀ (n : Nat) (i : Nat) (x : Int32) (sz : Nat → Int32), (x = nI i) → (i ≤ 512) → (512 < i + n) → (∀ j, j < i → sz j = -1) → ∀ (H : Heap) (locs : List Loc) (ls : Array Slot), va_K (dC, dI) vcl [(cA_2, .int), (cA_4, .int), (cA_6, .boolean), (cA_8, .int), (cA_10, .int), (cA_12, .int), (cA_14, .int), (cA_16, .byte)] s → va_P (dC, dI) vcl [(h0, .inr (13, [.int 0, .ref q_1, .ref q_3, .ref q_5, .int 0, .int 0, .int 0, .int 0, .int 0, .ref q_7, .int 0, .int 0, .int 0, .int 0, .int 0, .int 0, .int 0, .int 0, .int 0, .int 0, .int 0, .int 0, .int 0, .int 0, .int 0, .int 0, .int 0, .int 0, .int 0, .ref q_9, .int 0, .ref q_11, .int 0, .ref q_13, .int 0, .ref q_15])), (q_1, .inl (cA_2, 53, .inl (fun _ => 0))), (q_3, .inl (cA_4, 159, .inl (fun _ => 0))), (q_5, .inl (cA_6, 3, .inl (fun _ => 0))), (q_7, .inl (cA_8, 512, .inl sz)), (q_9, .inl (cA_10, 24000, .inl (fun _ => 0))), (q_11, .inl (cA_12, 160, .inl (fun _ => 0))), (q_13, .inl (cA_14, 112, .inl (fun _ => 0))), (q_15, .inl (cA_16, 4096, .inl (fun _ => 0)))] H → va_D A [(h0, .inr (13, [.int 0, .ref q_1, .ref q_3, .ref q_5, .int 0, .int 0, .int 0, .int 0, .int 0, .ref q_7, .int 0, .int 0, .int 0, .int 0, .int 0, .int 0, .int 0, .int 0, .int 0, .int 0, .int 0, .int 0, .int 0, .int 0, .int 0, .int 0, .int 0, .int 0, .int 0, .ref q_9, .int 0, .ref q_11, .int 0, .ref q_13, .int 0, .ref q_15])), (q_1, .inl (cA_2, 53, .inl (fun _ => 0))), (q_3, .inl (cA_4, 159, .inl (fun _ => 0))), (q_5, .inl (cA_6, 3, .inl (fun _ => 0))), (q_7, .inl (cA_8, 512, .inl sz)), (q_9, .inl (cA_10, 24000, .inl (fun _ => 0))), (q_11, .inl (cA_12, 160, .inl (fun _ => 0))), (q_13, .inl (cA_14, 112, .inl (fun _ => 0))), (q_15, .inl (cA_16, 4096, .inl (fun _ => 0)))] → va_S A s.heap H locs → lv_has ls 2 [(0, .ref h0), (1, .int x)] → W p l e (headSpec w_mDesk_init rm_c_Desk_init).room s m (List.toArray [.ref h0]) below meth c H locs 8 29095 (MQ below (q_c_Desk_init dC dI h0 A) (List.toArray [.ref h0]) s 8 29095 A) (F0 m 74 ls []) := by
    intro n
    induction n with
    | zero =>
      intro i x sz ex hi hm hg
      exact absurd hm (by omega)
    | succ n ih =>
      intro i x sz ex hi hm hg H locs ls hK hP hD hS hl
      refine lv_iload_n hx hb d_mDesk_init_74 rfl (lv_at hl 1 rfl) ?_
      refine lv_sipush (v := 512) hx hb d_mDesk_init_75 (by decide) ?_
      refine lv_icmp_ge (tgt := 94) hx hb d_mDesk_init_78 (by decide) (fun c78 => ?_) (fun c78 => ?_)
      · have hall : ∀ j, j < 512 → sz j = -1 := fun j hj => hg j (by have q9 := (nI_leI (a := 512) (b := i) (by omega) (by omega)).mp (by rw [← ex]; exact c78); omega)
        refine lv_aload_n hx hb d_mDesk_init_94 rfl (lv_at hl 0 rfl) ?_
        have hPc := hP.sub (ws' := [(h0, .inr (13, [.int 0, .ref q_1, .ref q_3, .ref q_5, .int 0, .int 0, .int 0, .int 0, .int 0, .ref q_7, .int 0, .int 0, .int 0, .int 0, .int 0, .int 0, .int 0, .int 0, .int 0, .int 0, .int 0, .int 0, .int 0, .int 0, .int 0, .int 0, .int 0, .int 0, .int 0, .ref q_9, .int 0, .ref q_11, .int 0, .ref q_13, .int 0, .ref q_15])), (q_1, .inl (cA_2, 53, .inl (fun _ => 0)))]) [0, 1] rfl
        have hDc := hD.sub (ws' := [(h0, .inr (13, [.int 0, .ref q_1, .ref q_3, .ref q_5, .int 0, .int 0, .int 0, .int 0, .int 0, .ref q_7, .int 0, .int 0, .int 0, .int 0, .int 0, .int 0, .int 0, .int 0, .int 0, .int 0, .int 0, .int 0, .int 0, .int 0, .int 0, .int 0, .int 0, .int 0, .int 0, .ref q_9, .int 0, .ref q_11, .int 0, .ref q_13, .int 0, .ref q_15])), (q_1, .inl (cA_2, 53, .inl (fun _ => 0)))]) [0, 1] (by decide) rfl
        have hKc := hK.sub (tys' := [(cA_2, .int)]) [0] rfl
        have hFc := va_free (wc := [(h0, .inr (13, [.int 0, .ref q_1, .ref q_3, .ref q_5, .int 0, .int 0, .int 0, .int 0, .int 0, .ref q_7, .int 0, .int 0, .int 0, .int 0, .int 0, .int 0, .int 0, .int 0, .int 0, .int 0, .int 0, .int 0, .int 0, .int 0, .int 0, .int 0, .int 0, .int 0, .int 0, .ref q_9, .int 0, .ref q_11, .int 0, .ref q_13, .int 0, .ref q_15])), (q_1, .inl (cA_2, 53, .inl (fun _ => 0)))]) hD hS hA [0, 1] rfl
        refine va_callv (va_runV (As := []) (rest := []) ⟨hx, hb, hml, hown, hwd⟩ (c_Desk_reset l dC dI tt h0 0 q_1 q_3 q_5 0 0 0 0 0 q_7 0 0 0 0 0 0 0 0 0 0 0 0 0 0 0 0 0 0 0 q_9 0 q_11 0 q_13 0 q_15 cA_2 (fun _ => 0) H.size ) (cwV 0 hwd (gV gd_mDesk_reset wd_9_35 wd_9_37 ws_111 wd_1_17) rfl rfl rfl (by decide +kernel) ⟨Nat.le_of_ble_eq_true rfl, Nat.le_of_ble_eq_true rfl⟩) ⟨fun a U g mk q => by obtain ⟨q0, q1, qP, qK, qD, qF⟩ := q; exact ⟨q0, q1, qP, va_K.moved (u := U) (U := U.calling g mk a) (Vm.Alike.refl U.vm) qK, qD, SF.same (u := U) (U := U.calling g mk a) rfl qF⟩, va_recv hKc hPc (ci := 13) (q0 := 0) rfl rfl, fun U hU hW => ⟨rfl, by rw [hU], by rw [hU]; exact hPc, va_K.moved hW.alike hKc, hDc.weaken (fun _ _ _ _ => trivial), by rw [hU]; exact SF.narrow (SF.moved hW (SF.kept hF (fun a h1 h2 => hS.2.1 a h1 h2))) hFc⟩⟩ rfl rfl hl.1 rfl (lv_room (Nat.le_of_ble_eq_true rfl)) d_mDesk_init_95 ⟨Nat.le_of_ble_eq_true rfl, Nat.le_of_ble_eq_true rfl⟩) hS (fun q _ h => hFc q h) hFc ?_
        clear hPc hDc hKc hS
        intro u_18 t H1 locs ht hvm hw hB hz1 hk1 hS
        obtain ⟨g_19, rfl⟩ : ∃ z, z = u_18 := ⟨_, rfl⟩
        obtain ⟨hP1, hK1, hD1⟩ := hB
        rw [ht] at hP1
        have hK1 := va_K.moved hvm.symm hK1
        try dsimp only at hw
        have hJ := va_join (wr := [(q_3, .inl (cA_4, 159, .inl (fun _ => 0))), (q_5, .inl (cA_6, 3, .inl (fun _ => 0))), (q_7, .inl (cA_8, 512, .inl sz)), (q_9, .inl (cA_10, 24000, .inl (fun _ => 0))), (q_11, .inl (cA_12, 160, .inl (fun _ => 0))), (q_13, .inl (cA_14, 112, .inl (fun _ => 0))), (q_15, .inl (cA_16, 4096, .inl (fun _ => 0)))]) (w1 := [(h0, .inr (13, [.int 0, .ref q_1, .ref q_3, .ref q_5, .int 2, .int 0, .int 1, .int 57600, .int 79200, .ref q_7, .int 0, .int 0, .int 0, .int 0, .int 0, .int 0, .int 0, .int 0, .int 0, .int 0, .int 0, .int 0, .int 0, .int 0, .int 0, .int 0, .int 0, .int 0, .int 0, .ref q_9, .int 0, .ref q_11, .int 0, .ref q_13, .int 0, .ref q_15])), (q_1, .inl (cA_2, 53, .inl (upd (upd (upd (upd (upd (upd (upd (upd g_19 6 720) 7 1200) 4 3600) 5 72000) 2 0) 3 57600) 0 0) 1 4500)))]) hP hD [0, 1] [2, 3, 4, 5, 6, 7, 8] rfl rfl (by decide) (by decide) hk1 hFc hP1 hD1
        clear hP hD hk1 hFc hP1 hD1 hz1
        obtain ⟨hP, hD⟩ := hJ
        clear hK1 ht hvm
        generalize H1 = H at hP hS ⊢
        replace hP : va_P (dC, dI) vcl [(q_3, .inl (cA_4, 159, .inl (fun _ => 0))), (q_5, .inl (cA_6, 3, .inl (fun _ => 0))), (q_7, .inl (cA_8, 512, .inl sz)), (q_9, .inl (cA_10, 24000, .inl (fun _ => 0))), (q_11, .inl (cA_12, 160, .inl (fun _ => 0))), (q_13, .inl (cA_14, 112, .inl (fun _ => 0))), (q_15, .inl (cA_16, 4096, .inl (fun _ => 0))), (h0, .inr (13, [.int 0, .ref q_1, .ref q_3, .ref q_5, .int 2, .int 0, .int 1, .int 57600, .int 79200, .ref q_7, .int 0, .int 0, .int 0, .int 0, .int 0, .int 0, .int 0, .int 0, .int 0, .int 0, .int 0, .int 0, .int 0, .int 0, .int 0, .int 0, .int 0, .int 0, .int 0, .ref q_9, .int 0, .ref q_11, .int 0, .ref q_13, .int 0, .ref q_15])), (q_1, .inl (cA_2, 53, .inl (upd (upd (upd (upd (upd (upd (upd (upd g_19 6 720) 7 1200) 4 3600) 5 72000) 2 0) 3 57600) 0 0) 1 4500)))] H := hP
        replace hD : va_D A [(q_3, .inl (cA_4, 159, .inl (fun _ => 0))), (q_5, .inl (cA_6, 3, .inl (fun _ => 0))), (q_7, .inl (cA_8, 512, .inl sz)), (q_9, .inl (cA_10, 24000, .inl (fun _ => 0))), (q_11, .inl (cA_12, 160, .inl (fun _ => 0))), (q_13, .inl (cA_14, 112, .inl (fun _ => 0))), (q_15, .inl (cA_16, 4096, .inl (fun _ => 0))), (h0, .inr (13, [.int 0, .ref q_1, .ref q_3, .ref q_5, .int 2, .int 0, .int 1, .int 57600, .int 79200, .ref q_7, .int 0, .int 0, .int 0, .int 0, .int 0, .int 0, .int 0, .int 0, .int 0, .int 0, .int 0, .int 0, .int 0, .int 0, .int 0, .int 0, .int 0, .int 0, .int 0, .ref q_9, .int 0, .ref q_11, .int 0, .ref q_13, .int 0, .ref q_15])), (q_1, .inl (cA_2, 53, .inl (upd (upd (upd (upd (upd (upd (upd (upd g_19 6 720) 7 1200) 4 3600) 5 72000) 2 0) 3 57600) 0 0) 1 4500)))] := hD
        have hg0 := hw
        have hP9 := hP.sub (ws' := [(h0, .inr (13, [.int 0, .ref q_1, .ref q_3, .ref q_5, .int 2, .int 0, .int 1, .int 57600, .int 79200, .ref q_7, .int 0, .int 0, .int 0, .int 0, .int 0, .int 0, .int 0, .int 0, .int 0, .int 0, .int 0, .int 0, .int 0, .int 0, .int 0, .int 0, .int 0, .int 0, .int 0, .ref q_9, .int 0, .ref q_11, .int 0, .ref q_13, .int 0, .ref q_15])), (q_3, .inl (cA_4, 159, .inl (fun _ => 0))), (q_5, .inl (cA_6, 3, .inl (fun _ => 0))), (q_7, .inl (cA_8, 512, .inl sz)), (q_9, .inl (cA_10, 24000, .inl (fun _ => 0))), (q_11, .inl (cA_12, 160, .inl (fun _ => 0))), (q_13, .inl (cA_14, 112, .inl (fun _ => 0))), (q_15, .inl (cA_16, 4096, .inl (fun _ => 0))), (q_1, .inl (cA_2, 53, .inl (upd (upd (upd (upd (upd (upd (upd (upd g_19 6 720) 7 1200) 4 3600) 5 72000) 2 0) 3 57600) 0 0) 1 4500)))]) [7, 0, 1, 2, 3, 4, 5, 6, 8] rfl
        have hD9 := hD.sub (ws' := [(h0, .inr (13, [.int 0, .ref q_1, .ref q_3, .ref q_5, .int 2, .int 0, .int 1, .int 57600, .int 79200, .ref q_7, .int 0, .int 0, .int 0, .int 0, .int 0, .int 0, .int 0, .int 0, .int 0, .int 0, .int 0, .int 0, .int 0, .int 0, .int 0, .int 0, .int 0, .int 0, .int 0, .ref q_9, .int 0, .ref q_11, .int 0, .ref q_13, .int 0, .ref q_15])), (q_3, .inl (cA_4, 159, .inl (fun _ => 0))), (q_5, .inl (cA_6, 3, .inl (fun _ => 0))), (q_7, .inl (cA_8, 512, .inl sz)), (q_9, .inl (cA_10, 24000, .inl (fun _ => 0))), (q_11, .inl (cA_12, 160, .inl (fun _ => 0))), (q_13, .inl (cA_14, 112, .inl (fun _ => 0))), (q_15, .inl (cA_16, 4096, .inl (fun _ => 0))), (q_1, .inl (cA_2, 53, .inl (upd (upd (upd (upd (upd (upd (upd (upd g_19 6 720) 7 1200) 4 3600) 5 72000) 2 0) 3 57600) 0 0) 1 4500)))]) [7, 0, 1, 2, 3, 4, 5, 6, 8] (by decide) rfl
        have hK9 := hK.sub (tys' := [(cA_4, .int), (cA_6, .boolean), (cA_8, .int), (cA_10, .int), (cA_12, .int), (cA_14, .int), (cA_16, .byte), (cA_2, .int)]) [1, 2, 3, 4, 5, 6, 7, 0] rfl
        exact W.vret hx hb hr (fun t ht hW => ⟨⟨(sz, g_19), rfl, (show (∀ j, j < 512 → (sz : Nat → Int32) j = -1) ∧ ∀ j, j < 53 → (g_19 : Nat → Int32) j = 0 from (⟨hall, hg0⟩)), q_3, q_5, q_7, q_9, q_11, q_13, q_15, q_1, cA_4, cA_6, cA_8, cA_10, cA_12, cA_14, cA_16, cA_2, by rw [ht]; exact hP9, va_K.moved hW.alike hK9, hD9⟩, hS.F ht⟩) hS.2.2 d_mDesk_init_98
      · have hlt : i < 512 := by
          rcases Nat.lt_or_ge i 512 with q9 | q9
          · exact q9
          · exact absurd (by rw [ex]; exact nI_le (a := 512) q9 (by omega)) c78
        refine lv_aload_n hx hb d_mDesk_init_81 rfl (lv_at hl 0 rfl) ?_
        refine va_get (D := (dC, dI)) (ci := 13) (v := .ref q_7) (C := R_mDesk) (T := F_mDesk) (N := 36) hx hb hwd i_mDesk hown hK hP 0 rfl rfl 9 (by decide) (hwd _ wd_9_88) (fun _ h9 => h9) rfl d_mDesk_init_82 ?_
        refine lv_iload_n hx hb d_mDesk_init_85 rfl (lv_at hl 1 rfl) ?_
        refine lv_iconst (v := (-1)) hx hb d_mDesk_init_86 (by decide) ?_
        refine va_iast hx hb hK hP hD hS 4 3 rfl rfl (by rw [ex]; exact vp_in_nI hlt (by omega)) d_mDesk_init_87 ?_
        clear hP hD hS
        intro H locs hP hD hS
        rw [show x.toNatClampNeg = i from by rw [ex]; exact nI_clamp (by omega)] at hP hD
        replace hP : va_P (dC, dI) vcl [(h0, .inr (13, [.int 0, .ref q_1, .ref q_3, .ref q_5, .int 0, .int 0, .int 0, .int 0, .int 0, .ref q_7, .int 0, .int 0, .int 0, .int 0, .int 0, .int 0, .int 0, .int 0, .int 0, .int 0, .int 0, .int 0, .int 0, .int 0, .int 0, .int 0, .int 0, .int 0, .int 0, .ref q_9, .int 0, .ref q_11, .int 0, .ref q_13, .int 0, .ref q_15])), (q_1, .inl (cA_2, 53, .inl (fun _ => 0))), (q_3, .inl (cA_4, 159, .inl (fun _ => 0))), (q_5, .inl (cA_6, 3, .inl (fun _ => 0))), (q_7, .inl (cA_8, 512, .inl (upd sz i (-1)))), (q_9, .inl (cA_10, 24000, .inl (fun _ => 0))), (q_11, .inl (cA_12, 160, .inl (fun _ => 0))), (q_13, .inl (cA_14, 112, .inl (fun _ => 0))), (q_15, .inl (cA_16, 4096, .inl (fun _ => 0)))] H := hP
        replace hD : va_D A [(h0, .inr (13, [.int 0, .ref q_1, .ref q_3, .ref q_5, .int 0, .int 0, .int 0, .int 0, .int 0, .ref q_7, .int 0, .int 0, .int 0, .int 0, .int 0, .int 0, .int 0, .int 0, .int 0, .int 0, .int 0, .int 0, .int 0, .int 0, .int 0, .int 0, .int 0, .int 0, .int 0, .ref q_9, .int 0, .ref q_11, .int 0, .ref q_13, .int 0, .ref q_15])), (q_1, .inl (cA_2, 53, .inl (fun _ => 0))), (q_3, .inl (cA_4, 159, .inl (fun _ => 0))), (q_5, .inl (cA_6, 3, .inl (fun _ => 0))), (q_7, .inl (cA_8, 512, .inl (upd sz i (-1)))), (q_9, .inl (cA_10, 24000, .inl (fun _ => 0))), (q_11, .inl (cA_12, 160, .inl (fun _ => 0))), (q_13, .inl (cA_14, 112, .inl (fun _ => 0))), (q_15, .inl (cA_16, 4096, .inl (fun _ => 0)))] := hD
        refine lv_iinc (v := x + 1) (lv' := [(1, .int (x + 1)), (0, .ref h0)]) hx hb d_mDesk_init_88 hl (k := 1) rfl rfl (by decide) rfl ?_
        clear hl
        intro ls hl
        refine lv_goto (tgt := 74) hx hb d_mDesk_init_91 (by decide) ?_
        exact ih (i + 1) (x + 1) (upd sz i (-1)) (by rw [ex]; exact nI_1 i) (by omega) (by omega) (fun j h => if e : j = i then (by rw [e]; exact pk_us) else (by rw [pk_un e]; exact hg j (by omega))) _ _ _ hK hP hD hS (lv_sub hl [1, 0] rfl)
  exact cut74 (513) 0 0 (fun _ => 0) (rfl) (Nat.zero_le _) (by omega) (fun j h => absurd h (Nat.not_lt_zero j)) _ _ _ hK hP hD hS (lv_sub hl [1, 0] rfl)

abbrev at_c_Desk_restart (dC : Nat → ClassId) (dI : Nat → Nat → Nat) (h0 : Nat) (k_thrown : Int32) (k_state : Nat) (k_kept : Nat) (k_isKept : Nat) (k_size : Int32) (k_orientation : Int32) (k_copies : Int32) (k_width : Int32) (k_height : Int32) (k_steps : Nat) (k_phase : Int32) (k_family : Int32) (k_group : Int32) (k_part : Int32) (k_signed : Int32) (k_negative : Int32) (k_whole : Int32) (k_behind : Int32) (k_places : Int32) (k_dataLeft : Int32) (k_last : Int32) (k_dataTo : Int32) (k_bytesCame : Int32) (k_came : Int32) (k_cameX : Int32) (k_cameY : Int32) (k_glyphs : Int32) (k_allGlyphs : Int32) (k_touched : Int32) (k_glyph : Nat) (k_pages : Int32) (k_page : Nat) (k_others : Int32) (k_other : Nat) (k_stored : Int32) (k_store : Nat) (c1 : ClassId) (sf : Nat → Int32) (c2 : ClassId) (ik : Nat → Int32) (c3 : ClassId) (sp : Nat → Int32) (A : Nat → Prop) (u : (Nat → Int32) × (Nat → Int32)) (t : State) : Prop := match u with
  | (sv, g) => va_P (dC, dI) vcl [(k_isKept, .inl (c2, 3, .inl (upd (upd (upd ik 0 0) 1 0) 2 0))), (k_steps, .inl (c3, 512, .inl sv)), (h0, .inr (13, [.int k_thrown, .ref k_state, .ref k_kept, .ref k_isKept, .int 2, .int 0, .int 1, .int 57600, .int 79200, .ref k_steps, .int 0, .int k_family, .int k_group, .int k_part, .int k_signed, .int k_negative, .int k_whole, .int k_behind, .int k_places, .int k_dataLeft, .int k_last, .int k_dataTo, .int k_bytesCame, .int 0, .int k_cameX, .int k_cameY, .int 0, .int 0, .int 0, .ref k_glyph, .int k_pages, .ref k_page, .int 0, .ref k_other, .int 0, .ref k_store])), (k_state, .inl (c1, 53, .inl (upd (upd (upd (upd (upd (upd (upd (upd g 6 720) 7 1200) 4 3600) 5 72000) 2 0) 3 57600) 0 0) 1 4500)))] t.heap ∧ va_K (dC, dI) vcl [(c2, .boolean), (c3, .int), (c1, .int)] t ∧ va_D A [(k_isKept, .inl (c2, 3, .inl (upd (upd (upd ik 0 0) 1 0) 2 0))), (k_steps, .inl (c3, 512, .inl sv)), (h0, .inr (13, [.int k_thrown, .ref k_state, .ref k_kept, .ref k_isKept, .int 2, .int 0, .int 1, .int 57600, .int 79200, .ref k_steps, .int 0, .int k_family, .int k_group, .int k_part, .int k_signed, .int k_negative, .int k_whole, .int k_behind, .int k_places, .int k_dataLeft, .int k_last, .int k_dataTo, .int k_bytesCame, .int 0, .int k_cameX, .int k_cameY, .int 0, .int 0, .int 0, .ref k_glyph, .int k_pages, .ref k_page, .int 0, .ref k_other, .int 0, .ref k_store])), (k_state, .inl (c1, 53, .inl (upd (upd (upd (upd (upd (upd (upd (upd g 6 720) 7 1200) 4 3600) 5 72000) 2 0) 3 57600) 0 0) 1 4500)))]
abbrev po_c_Desk_restart (h0 : Nat) (k_thrown : Int32) (k_state : Nat) (k_kept : Nat) (k_isKept : Nat) (k_size : Int32) (k_orientation : Int32) (k_copies : Int32) (k_width : Int32) (k_height : Int32) (k_steps : Nat) (k_phase : Int32) (k_family : Int32) (k_group : Int32) (k_part : Int32) (k_signed : Int32) (k_negative : Int32) (k_whole : Int32) (k_behind : Int32) (k_places : Int32) (k_dataLeft : Int32) (k_last : Int32) (k_dataTo : Int32) (k_bytesCame : Int32) (k_came : Int32) (k_cameX : Int32) (k_cameY : Int32) (k_glyphs : Int32) (k_allGlyphs : Int32) (k_touched : Int32) (k_glyph : Nat) (k_pages : Int32) (k_page : Nat) (k_others : Int32) (k_other : Nat) (k_stored : Int32) (k_store : Nat) (c1 : ClassId) (sf : Nat → Int32) (c2 : ClassId) (ik : Nat → Int32) (c3 : ClassId) (sp : Nat → Int32) (u : (Nat → Int32) × (Nat → Int32)) : Prop := match u with
  | (sv, g) => (∀ j, j < 512 → sv j = -1) ∧ ∀ j, j < 53 → g j = 0
abbrev q_c_Desk_restart (dC : Nat → ClassId) (dI : Nat → Nat → Nat) (h0 : Nat) (k_thrown : Int32) (k_state : Nat) (k_kept : Nat) (k_isKept : Nat) (k_size : Int32) (k_orientation : Int32) (k_copies : Int32) (k_width : Int32) (k_height : Int32) (k_steps : Nat) (k_phase : Int32) (k_family : Int32) (k_group : Int32) (k_part : Int32) (k_signed : Int32) (k_negative : Int32) (k_whole : Int32) (k_behind : Int32) (k_places : Int32) (k_dataLeft : Int32) (k_last : Int32) (k_dataTo : Int32) (k_bytesCame : Int32) (k_came : Int32) (k_cameX : Int32) (k_cameY : Int32) (k_glyphs : Int32) (k_allGlyphs : Int32) (k_touched : Int32) (k_glyph : Nat) (k_pages : Int32) (k_page : Nat) (k_others : Int32) (k_other : Nat) (k_stored : Int32) (k_store : Nat) (c1 : ClassId) (sf : Nat → Int32) (c2 : ClassId) (ik : Nat → Int32) (c3 : ClassId) (sp : Nat → Int32) (A : Nat → Prop) : Array Value → State → Outcome → State → Prop := va_Qv (po_c_Desk_restart h0 k_thrown k_state k_kept k_isKept k_size k_orientation k_copies k_width k_height k_steps k_phase k_family k_group k_part k_signed k_negative k_whole k_behind k_places k_dataLeft k_last k_dataTo k_bytesCame k_came k_cameX k_cameY k_glyphs k_allGlyphs k_touched k_glyph k_pages k_page k_others k_other k_stored k_store c1 sf c2 ik c3 sp) (at_c_Desk_restart dC dI h0 k_thrown k_state k_kept k_isKept k_size k_orientation k_copies k_width k_height k_steps k_phase k_family k_group k_part k_signed k_negative k_whole k_behind k_places k_dataLeft k_last k_dataTo k_bytesCame k_came k_cameX k_cameY k_glyphs k_allGlyphs k_touched k_glyph k_pages k_page k_others k_other k_stored k_store c1 sf c2 ik c3 sp A) A
abbrev rm_c_Desk_restart : Room := { frames := 4, cells := 0, slots := 0, locals := 85 }
set_option maxHeartbeats 4000000 in
set_option maxRecDepth 100000 in
theorem c_Desk_restart (l : Launch) (dC : Nat → ClassId) (dI : Nat → Nat → Nat) (tt : Nat → Nat) (h0 : Nat) (k_thrown : Int32) (k_state : Nat) (k_kept : Nat) (k_isKept : Nat) (k_size : Int32) (k_orientation : Int32) (k_copies : Int32) (k_width : Int32) (k_height : Int32) (k_steps : Nat) (k_phase : Int32) (k_family : Int32) (k_group : Int32) (k_part : Int32) (k_signed : Int32) (k_negative : Int32) (k_whole : Int32) (k_behind : Int32) (k_places : Int32) (k_dataLeft : Int32) (k_last : Int32) (k_dataTo : Int32) (k_bytesCame : Int32) (k_came : Int32) (k_cameX : Int32) (k_cameY : Int32) (k_glyphs : Int32) (k_allGlyphs : Int32) (k_touched : Int32) (k_glyph : Nat) (k_pages : Int32) (k_page : Nat) (k_others : Int32) (k_other : Nat) (k_stored : Int32) (k_store : Nat) (c1 : ClassId) (sf : Nat → Int32) (c2 : ClassId) (ik : Nat → Int32) (c3 : ClassId) (sp : Nat → Int32) (sz : Nat)  : Met l y_mDesk_restart w_mDesk_restart rm_c_Desk_restart (va_Pc [.ref h0] (fun U => U.heap.size = sz ∧ va_P (dC, dI) vcl [(h0, .inr (13, [.int k_thrown, .ref k_state, .ref k_kept, .ref k_isKept, .int k_size, .int k_orientation, .int k_copies, .int k_width, .int k_height, .ref k_steps, .int k_phase, .int k_family, .int k_group, .int k_part, .int k_signed, .int k_negative, .int k_whole, .int k_behind, .int k_places, .int k_dataLeft, .int k_last, .int k_dataTo, .int k_bytesCame, .int k_came, .int k_cameX, .int k_cameY, .int k_glyphs, .int k_allGlyphs, .int k_touched, .ref k_glyph, .int k_pages, .ref k_page, .int k_others, .ref k_other, .int k_stored, .ref k_store])), (k_state, .inl (c1, 53, .inl sf)), (k_isKept, .inl (c2, 3, .inl ik)), (k_steps, .inl (c3, 512, .inl sp))] U.heap ∧ va_K (dC, dI) vcl [(c1, .int), (c2, .boolean), (c3, .int)] U ∧ va_D (fun _ => True) [(h0, .inr (13, [.int k_thrown, .ref k_state, .ref k_kept, .ref k_isKept, .int k_size, .int k_orientation, .int k_copies, .int k_width, .int k_height, .ref k_steps, .int k_phase, .int k_family, .int k_group, .int k_part, .int k_signed, .int k_negative, .int k_whole, .int k_behind, .int k_places, .int k_dataLeft, .int k_last, .int k_dataTo, .int k_bytesCame, .int k_came, .int k_cameX, .int k_cameY, .int k_glyphs, .int k_allGlyphs, .int k_touched, .ref k_glyph, .int k_pages, .ref k_page, .int k_others, .ref k_other, .int k_stored, .ref k_store])), (k_state, .inl (c1, 53, .inl sf)), (k_isKept, .inl (c2, 3, .inl ik)), (k_steps, .inl (c3, 512, .inl sp))] ∧ SF tt (va_A [(h0, .inr (13, [.int k_thrown, .ref k_state, .ref k_kept, .ref k_isKept, .int k_size, .int k_orientation, .int k_copies, .int k_width, .int k_height, .ref k_steps, .int k_phase, .int k_family, .int k_group, .int k_part, .int k_signed, .int k_negative, .int k_whole, .int k_behind, .int k_places, .int k_dataLeft, .int k_last, .int k_dataTo, .int k_bytesCame, .int k_came, .int k_cameX, .int k_cameY, .int k_glyphs, .int k_allGlyphs, .int k_touched, .ref k_glyph, .int k_pages, .ref k_page, .int k_others, .ref k_other, .int k_stored, .ref k_store])), (k_state, .inl (c1, 53, .inl sf)), (k_isKept, .inl (c2, 3, .inl ik)), (k_steps, .inl (c3, 512, .inl sp))] sz) U U.heap)) (q_c_Desk_restart dC dI h0 k_thrown k_state k_kept k_isKept k_size k_orientation k_copies k_width k_height k_steps k_phase k_family k_group k_part k_signed k_negative k_whole k_behind k_places k_dataLeft k_last k_dataTo k_bytesCame k_came k_cameX k_cameY k_glyphs k_allGlyphs k_touched k_glyph k_pages k_page k_others k_other k_stored k_store c1 sf c2 ik c3 sp (va_A [(h0, .inr (13, [.int k_thrown, .ref k_state, .ref k_kept, .ref k_isKept, .int k_size, .int k_orientation, .int k_copies, .int k_width, .int k_height, .ref k_steps, .int k_phase, .int k_family, .int k_group, .int k_part, .int k_signed, .int k_negative, .int k_whole, .int k_behind, .int k_places, .int k_dataLeft, .int k_last, .int k_dataTo, .int k_bytesCame, .int k_came, .int k_cameX, .int k_cameY, .int k_glyphs, .int k_allGlyphs, .int k_touched, .ref k_glyph, .int k_pages, .ref k_page, .int k_others, .ref k_other, .int k_stored, .ref k_store])), (k_state, .inl (c1, 53, .inl sf)), (k_isKept, .inl (c2, 3, .inl ik)), (k_steps, .inl (c3, 512, .inl sp))] sz)) 0 0 (va_A [(h0, .inr (13, [.int k_thrown, .ref k_state, .ref k_kept, .ref k_isKept, .int k_size, .int k_orientation, .int k_copies, .int k_width, .int k_height, .ref k_steps, .int k_phase, .int k_family, .int k_group, .int k_part, .int k_signed, .int k_negative, .int k_whole, .int k_behind, .int k_places, .int k_dataLeft, .int k_last, .int k_dataTo, .int k_bytesCame, .int k_came, .int k_cameX, .int k_cameY, .int k_glyphs, .int k_allGlyphs, .int k_touched, .ref k_glyph, .int k_pages, .ref k_page, .int k_others, .ref k_other, .int k_stored, .ref k_store])), (k_state, .inl (c1, 53, .inl sf)), (k_isKept, .inl (c2, 3, .inl ik)), (k_steps, .inl (c3, 512, .inl sp))] sz) := by
  refine Met.ofW (cc := b_mDesk_restart) (maxL := 2) (ret := none) (by decide) rfl ?_
  intro p e s m args below meth c s₁ B hml hv
  obtain ⟨rfl, hsz, hP, hK, hD0, hF⟩ := hv
  have hx := B.exec
  have hb := B.bytes
  have hr := B.returns
  have hwd : ∀ w ∈ gT, w.before _ s = true := fun w h => atoms_spec (ws := w_mDesk_restart) B.pre w (List.mem_cons_of_mem _ h)
  have hown : s.vm.findClass R_mDesk = some m.cls := findClass_of_methodNamed B.named
  have hlocks := B.notSynchronized
  subst hsz
  have hD := hD0.self (sz := s.heap.size)
  generalize hAe : va_A [(h0, .inr (13, [.int k_thrown, .ref k_state, .ref k_kept, .ref k_isKept, .int k_size, .int k_orientation, .int k_copies, .int k_width, .int k_height, .ref k_steps, .int k_phase, .int k_family, .int k_group, .int k_part, .int k_signed, .int k_negative, .int k_whole, .int k_behind, .int k_places, .int k_dataLeft, .int k_last, .int k_dataTo, .int k_bytesCame, .int k_came, .int k_cameX, .int k_cameY, .int k_glyphs, .int k_allGlyphs, .int k_touched, .ref k_glyph, .int k_pages, .ref k_page, .int k_others, .ref k_other, .int k_stored, .ref k_store])), (k_state, .inl (c1, 53, .inl sf)), (k_isKept, .inl (c2, 3, .inl ik)), (k_steps, .inl (c3, 512, .inl sp))] s.heap.size = A at hD hF ⊢
  have hA : ∀ q : Nat, s.heap.size ≤ q → A q := fun q h => by rw [← hAe]; exact Or.inr h
  have hS : va_S A s.heap s.heap [] := va_S.rf
  have hP : va_P (dC, dI) vcl [(h0, .inr (13, [.int k_thrown, .ref k_state, .ref k_kept, .ref k_isKept, .int k_size, .int k_orientation, .int k_copies, .int k_width, .int k_height, .ref k_steps, .int k_phase, .int k_family, .int k_group, .int k_part, .int k_signed, .int k_negative, .int k_whole, .int k_behind, .int k_places, .int k_dataLeft, .int k_last, .int k_dataTo, .int k_bytesCame, .int k_came, .int k_cameX, .int k_cameY, .int k_glyphs, .int k_allGlyphs, .int k_touched, .ref k_glyph, .int k_pages, .ref k_page, .int k_others, .ref k_other, .int k_stored, .ref k_store])), (k_state, .inl (c1, 53, .inl sf)), (k_isKept, .inl (c2, 3, .inl ik)), (k_steps, .inl (c3, 512, .inl sp))] s.heap := hP
  have hl := lv_entry ([.ref h0]) (n := 2) (Nat.le_of_ble_eq_true rfl)
  rw [lg_entry_eq]
  generalize (lg_sl ([.ref h0]) ++ List.replicate (2 - (lg_sl ([.ref h0])).length) Slot.unset).toArray = ls at hl ⊢
  have hl : lv_has ls 2 [(0, .ref h0)] := hl
  refine lv_iconst (v := 0) hx hb d_mDesk_restart_0 (by decide) ?_
  refine lv_istore_n (lv' := [(1, .int 0), (0, .ref h0)]) hx hb d_mDesk_restart_1 rfl hl (by decide) rfl ?_
  clear hl
  intro ls hl
  have cut2 : ∀ (n : Nat) (i : Nat) (x : Int32) (sz : Nat → Int32), (x = nI i) → (i ≤ 512) → (512 < i + n) → (∀ j, j < i → sz j = -1) → ∀ (H : Heap) (locs : List Loc) (ls : Array Slot), va_K (dC, dI) vcl [(c1, .int), (c2, .boolean), (c3, .int)] s → va_P (dC, dI) vcl [(h0, .inr (13, [.int k_thrown, .ref k_state, .ref k_kept, .ref k_isKept, .int k_size, .int k_orientation, .int k_copies, .int k_width, .int k_height, .ref k_steps, .int k_phase, .int k_family, .int k_group, .int k_part, .int k_signed, .int k_negative, .int k_whole, .int k_behind, .int k_places, .int k_dataLeft, .int k_last, .int k_dataTo, .int k_bytesCame, .int k_came, .int k_cameX, .int k_cameY, .int k_glyphs, .int k_allGlyphs, .int k_touched, .ref k_glyph, .int k_pages, .ref k_page, .int k_others, .ref k_other, .int k_stored, .ref k_store])), (k_state, .inl (c1, 53, .inl sf)), (k_isKept, .inl (c2, 3, .inl ik)), (k_steps, .inl (c3, 512, .inl sz))] H → va_D A [(h0, .inr (13, [.int k_thrown, .ref k_state, .ref k_kept, .ref k_isKept, .int k_size, .int k_orientation, .int k_copies, .int k_width, .int k_height, .ref k_steps, .int k_phase, .int k_family, .int k_group, .int k_part, .int k_signed, .int k_negative, .int k_whole, .int k_behind, .int k_places, .int k_dataLeft, .int k_last, .int k_dataTo, .int k_bytesCame, .int k_came, .int k_cameX, .int k_cameY, .int k_glyphs, .int k_allGlyphs, .int k_touched, .ref k_glyph, .int k_pages, .ref k_page, .int k_others, .ref k_other, .int k_stored, .ref k_store])), (k_state, .inl (c1, 53, .inl sf)), (k_isKept, .inl (c2, 3, .inl ik)), (k_steps, .inl (c3, 512, .inl sz))] → va_S A s.heap H locs → lv_has ls 2 [(0, .ref h0), (1, .int x)] → W p l e (headSpec w_mDesk_restart rm_c_Desk_restart).room s m (List.toArray [.ref h0]) below meth c H locs 0 0 (MQ below (q_c_Desk_restart dC dI h0 k_thrown k_state k_kept k_isKept k_size k_orientation k_copies k_width k_height k_steps k_phase k_family k_group k_part k_signed k_negative k_whole k_behind k_places k_dataLeft k_last k_dataTo k_bytesCame k_came k_cameX k_cameY k_glyphs k_allGlyphs k_touched k_glyph k_pages k_page k_others k_other k_stored k_store c1 sf c2 ik c3 sp A) (List.toArray [.ref h0]) s 0 0 A) (F0 m 2 ls []) := by
    intro n
    induction n with
    | zero =>
      intro i x sz ex hi hm hg
      exact absurd hm (by omega)
    | succ n ih =>
      intro i x sz ex hi hm hg H locs ls hK hP hD hS hl
      refine lv_iload_n hx hb d_mDesk_restart_2 rfl (lv_at hl 1 rfl) ?_
      refine lv_sipush (v := 512) hx hb d_mDesk_restart_3 (by decide) ?_
      refine lv_icmp_ge (tgt := 22) hx hb d_mDesk_restart_6 (by decide) (fun c6 => ?_) (fun c6 => ?_)
      · have hall : ∀ j, j < 512 → sz j = -1 := fun j hj => hg j (by have q9 := (nI_leI (a := 512) (b := i) (by omega) (by omega)).mp (by rw [← ex]; exact c6); omega)
        refine lv_iconst (v := 0) hx hb d_mDesk_restart_22 (by decide) ?_
        refine lv_istore_n (lv' := [(1, .int 0), (0, .ref h0)]) hx hb d_mDesk_restart_23 rfl hl (by decide) rfl ?_
        clear hl
        intro ls hl
        refine lv_iload_n hx hb d_mDesk_restart_24 rfl (lv_at hl 0 rfl) ?_
        refine lv_iconst (v := 3) hx hb d_mDesk_restart_25 (by decide) ?_
        refine lv_icmp_ge (tgt := 42) hx hb d_mDesk_restart_26 (by decide) (fun c26 => absurd c26 (by decide)) (fun _ => ?_)
        refine lv_aload_n hx hb d_mDesk_restart_29 rfl (lv_at hl 1 rfl) ?_
        refine va_get (D := (dC, dI)) (ci := 13) (v := .ref k_isKept) (C := R_mDesk) (T := F_mDesk) (N := 36) hx hb hwd i_mDesk hown hK hP 0 rfl rfl 3 (by decide) (hwd _ wd_9_80) (fun _ h9 => h9) rfl d_mDesk_restart_30 ?_
        refine lv_iload_n hx hb d_mDesk_restart_33 rfl (lv_at hl 0 rfl) ?_
        refine lv_iconst (v := 0) hx hb d_mDesk_restart_34 (by decide) ?_
        refine va_zast hx hb hK hP hD hS 2 1 rfl rfl (show ¬ ((0 : Int32) < 0 ∨ 3 ≤ (0 : Int32).toNatClampNeg) by decide) d_mDesk_restart_35 ?_
        clear hP hD hS
        intro H locs hP hD hS
        rw [show (0 : Int32).toNatClampNeg = 0 by decide] at hP hD
        rw [show vp_nar .boolean 0 = 0 by decide] at hP hD
        replace hP : va_P (dC, dI) vcl [(h0, .inr (13, [.int k_thrown, .ref k_state, .ref k_kept, .ref k_isKept, .int k_size, .int k_orientation, .int k_copies, .int k_width, .int k_height, .ref k_steps, .int k_phase, .int k_family, .int k_group, .int k_part, .int k_signed, .int k_negative, .int k_whole, .int k_behind, .int k_places, .int k_dataLeft, .int k_last, .int k_dataTo, .int k_bytesCame, .int k_came, .int k_cameX, .int k_cameY, .int k_glyphs, .int k_allGlyphs, .int k_touched, .ref k_glyph, .int k_pages, .ref k_page, .int k_others, .ref k_other, .int k_stored, .ref k_store])), (k_state, .inl (c1, 53, .inl sf)), (k_isKept, .inl (c2, 3, .inl (upd ik 0 0))), (k_steps, .inl (c3, 512, .inl sz))] H := hP
        replace hD : va_D A [(h0, .inr (13, [.int k_thrown, .ref k_state, .ref k_kept, .ref k_isKept, .int k_size, .int k_orientation, .int k_copies, .int k_width, .int k_height, .ref k_steps, .int k_phase, .int k_family, .int k_group, .int k_part, .int k_signed, .int k_negative, .int k_whole, .int k_behind, .int k_places, .int k_dataLeft, .int k_last, .int k_dataTo, .int k_bytesCame, .int k_came, .int k_cameX, .int k_cameY, .int k_glyphs, .int k_allGlyphs, .int k_touched, .ref k_glyph, .int k_pages, .ref k_page, .int k_others, .ref k_other, .int k_stored, .ref k_store])), (k_state, .inl (c1, 53, .inl sf)), (k_isKept, .inl (c2, 3, .inl (upd ik 0 0))), (k_steps, .inl (c3, 512, .inl sz))] := hD
        refine lv_iinc (v := 1) (lv' := [(1, .int 1), (0, .ref h0)]) hx hb d_mDesk_restart_36 hl (k := 0) rfl (by decide) (by decide) rfl ?_
        clear hl
        intro ls hl
        refine lv_goto (tgt := 24) hx hb d_mDesk_restart_39 (by decide) ?_
        refine lv_iload_n hx hb d_mDesk_restart_24 rfl (lv_at hl 0 rfl) ?_
        refine lv_iconst (v := 3) hx hb d_mDesk_restart_25 (by decide) ?_
        refine lv_icmp_ge (tgt := 42) hx hb d_mDesk_restart_26 (by decide) (fun c26 => absurd c26 (by decide)) (fun _ => ?_)
        refine lv_aload_n hx hb d_mDesk_restart_29 rfl (lv_at hl 1 rfl) ?_
        refine va_get (D := (dC, dI)) (ci := 13) (v := .ref k_isKept) (C := R_mDesk) (T := F_mDesk) (N := 36) hx hb hwd i_mDesk hown hK hP 0 rfl rfl 3 (by decide) (hwd _ wd_9_80) (fun _ h9 => h9) rfl d_mDesk_restart_30 ?_
        refine lv_iload_n hx hb d_mDesk_restart_33 rfl (lv_at hl 0 rfl) ?_
        refine lv_iconst (v := 0) hx hb d_mDesk_restart_34 (by decide) ?_
        refine va_zast hx hb hK hP hD hS 2 1 rfl rfl (show ¬ ((1 : Int32) < 0 ∨ 3 ≤ (1 : Int32).toNatClampNeg) by decide) d_mDesk_restart_35 ?_
        clear hP hD hS
        intro H locs hP hD hS
        rw [show (1 : Int32).toNatClampNeg = 1 by decide] at hP hD
        rw [show vp_nar .boolean 0 = 0 by decide] at hP hD
        replace hP : va_P (dC, dI) vcl [(h0, .inr (13, [.int k_thrown, .ref k_state, .ref k_kept, .ref k_isKept, .int k_size, .int k_orientation, .int k_copies, .int k_width, .int k_height, .ref k_steps, .int k_phase, .int k_family, .int k_group, .int k_part, .int k_signed, .int k_negative, .int k_whole, .int k_behind, .int k_places, .int k_dataLeft, .int k_last, .int k_dataTo, .int k_bytesCame, .int k_came, .int k_cameX, .int k_cameY, .int k_glyphs, .int k_allGlyphs, .int k_touched, .ref k_glyph, .int k_pages, .ref k_page, .int k_others, .ref k_other, .int k_stored, .ref k_store])), (k_state, .inl (c1, 53, .inl sf)), (k_isKept, .inl (c2, 3, .inl (upd (upd ik 0 0) 1 0))), (k_steps, .inl (c3, 512, .inl sz))] H := hP
        replace hD : va_D A [(h0, .inr (13, [.int k_thrown, .ref k_state, .ref k_kept, .ref k_isKept, .int k_size, .int k_orientation, .int k_copies, .int k_width, .int k_height, .ref k_steps, .int k_phase, .int k_family, .int k_group, .int k_part, .int k_signed, .int k_negative, .int k_whole, .int k_behind, .int k_places, .int k_dataLeft, .int k_last, .int k_dataTo, .int k_bytesCame, .int k_came, .int k_cameX, .int k_cameY, .int k_glyphs, .int k_allGlyphs, .int k_touched, .ref k_glyph, .int k_pages, .ref k_page, .int k_others, .ref k_other, .int k_stored, .ref k_store])), (k_state, .inl (c1, 53, .inl sf)), (k_isKept, .inl (c2, 3, .inl (upd (upd ik 0 0) 1 0))), (k_steps, .inl (c3, 512, .inl sz))] := hD
        refine lv_iinc (v := 2) (lv' := [(1, .int 2), (0, .ref h0)]) hx hb d_mDesk_restart_36 hl (k := 0) rfl (by decide) (by decide) rfl ?_
        clear hl
        intro ls hl
        refine lv_goto (tgt := 24) hx hb d_mDesk_restart_39 (by decide) ?_
        refine lv_iload_n hx hb d_mDesk_restart_24 rfl (lv_at hl 0 rfl) ?_
        refine lv_iconst (v := 3) hx hb d_mDesk_restart_25 (by decide) ?_
        refine lv_icmp_ge (tgt := 42) hx hb d_mDesk_restart_26 (by decide) (fun c26 => absurd c26 (by decide)) (fun _ => ?_)
        refine lv_aload_n hx hb d_mDesk_restart_29 rfl (lv_at hl 1 rfl) ?_
        refine va_get (D := (dC, dI)) (ci := 13) (v := .ref k_isKept) (C := R_mDesk) (T := F_mDesk) (N := 36) hx hb hwd i_mDesk hown hK hP 0 rfl rfl 3 (by decide) (hwd _ wd_9_80) (fun _ h9 => h9) rfl d_mDesk_restart_30 ?_
        refine lv_iload_n hx hb d_mDesk_restart_33 rfl (lv_at hl 0 rfl) ?_
        refine lv_iconst (v := 0) hx hb d_mDesk_restart_34 (by decide) ?_
        refine va_zast hx hb hK hP hD hS 2 1 rfl rfl (show ¬ ((2 : Int32) < 0 ∨ 3 ≤ (2 : Int32).toNatClampNeg) by decide) d_mDesk_restart_35 ?_
        clear hP hD hS
        intro H locs hP hD hS
        rw [show (2 : Int32).toNatClampNeg = 2 by decide] at hP hD
        rw [show vp_nar .boolean 0 = 0 by decide] at hP hD
        replace hP : va_P (dC, dI) vcl [(h0, .inr (13, [.int k_thrown, .ref k_state, .ref k_kept, .ref k_isKept, .int k_size, .int k_orientation, .int k_copies, .int k_width, .int k_height, .ref k_steps, .int k_phase, .int k_family, .int k_group, .int k_part, .int k_signed, .int k_negative, .int k_whole, .int k_behind, .int k_places, .int k_dataLeft, .int k_last, .int k_dataTo, .int k_bytesCame, .int k_came, .int k_cameX, .int k_cameY, .int k_glyphs, .int k_allGlyphs, .int k_touched, .ref k_glyph, .int k_pages, .ref k_page, .int k_others, .ref k_other, .int k_stored, .ref k_store])), (k_state, .inl (c1, 53, .inl sf)), (k_isKept, .inl (c2, 3, .inl (upd (upd (upd ik 0 0) 1 0) 2 0))), (k_steps, .inl (c3, 512, .inl sz))] H := hP
        replace hD : va_D A [(h0, .inr (13, [.int k_thrown, .ref k_state, .ref k_kept, .ref k_isKept, .int k_size, .int k_orientation, .int k_copies, .int k_width, .int k_height, .ref k_steps, .int k_phase, .int k_family, .int k_group, .int k_part, .int k_signed, .int k_negative, .int k_whole, .int k_behind, .int k_places, .int k_dataLeft, .int k_last, .int k_dataTo, .int k_bytesCame, .int k_came, .int k_cameX, .int k_cameY, .int k_glyphs, .int k_allGlyphs, .int k_touched, .ref k_glyph, .int k_pages, .ref k_page, .int k_others, .ref k_other, .int k_stored, .ref k_store])), (k_state, .inl (c1, 53, .inl sf)), (k_isKept, .inl (c2, 3, .inl (upd (upd (upd ik 0 0) 1 0) 2 0))), (k_steps, .inl (c3, 512, .inl sz))] := hD
        refine lv_iinc (v := 3) (lv' := [(1, .int 3), (0, .ref h0)]) hx hb d_mDesk_restart_36 hl (k := 0) rfl (by decide) (by decide) rfl ?_
        clear hl
        intro ls hl
        refine lv_goto (tgt := 24) hx hb d_mDesk_restart_39 (by decide) ?_
        refine lv_iload_n hx hb d_mDesk_restart_24 rfl (lv_at hl 0 rfl) ?_
        refine lv_iconst (v := 3) hx hb d_mDesk_restart_25 (by decide) ?_
        refine lv_icmp_ge (tgt := 42) hx hb d_mDesk_restart_26 (by decide) (fun _ => ?_) (fun c26 => absurd (by decide) c26)
        refine lv_aload_n hx hb d_mDesk_restart_42 rfl (lv_at hl 1 rfl) ?_
        refine lv_iconst (v := 0) hx hb d_mDesk_restart_43 (by decide) ?_
        refine va_put (D := (dC, dI)) (ci := 13) (v := .int 0) (ty := .int) (C := R_mDesk) (T := F_mDesk) (N := 36) hx hb hwd i_mDesk t_mDesk to_mDesk no_mDesk hown hK hP hD hS 0 rfl rfl 10 (by decide) (hwd _ wd_9_90) (fun _ h9 => h9) rfl (by decide +kernel) rfl rfl (Nat.le_of_ble_eq_true rfl) d_mDesk_restart_44 ?_
        clear hP hD hS
        intro H locs hP hD hS
        replace hP : va_P (dC, dI) vcl [(h0, .inr (13, [.int k_thrown, .ref k_state, .ref k_kept, .ref k_isKept, .int k_size, .int k_orientation, .int k_copies, .int k_width, .int k_height, .ref k_steps, .int 0, .int k_family, .int k_group, .int k_part, .int k_signed, .int k_negative, .int k_whole, .int k_behind, .int k_places, .int k_dataLeft, .int k_last, .int k_dataTo, .int k_bytesCame, .int k_came, .int k_cameX, .int k_cameY, .int k_glyphs, .int k_allGlyphs, .int k_touched, .ref k_glyph, .int k_pages, .ref k_page, .int k_others, .ref k_other, .int k_stored, .ref k_store])), (k_state, .inl (c1, 53, .inl sf)), (k_isKept, .inl (c2, 3, .inl (upd (upd (upd ik 0 0) 1 0) 2 0))), (k_steps, .inl (c3, 512, .inl sz))] H := hP
        replace hD : va_D A [(h0, .inr (13, [.int k_thrown, .ref k_state, .ref k_kept, .ref k_isKept, .int k_size, .int k_orientation, .int k_copies, .int k_width, .int k_height, .ref k_steps, .int 0, .int k_family, .int k_group, .int k_part, .int k_signed, .int k_negative, .int k_whole, .int k_behind, .int k_places, .int k_dataLeft, .int k_last, .int k_dataTo, .int k_bytesCame, .int k_came, .int k_cameX, .int k_cameY, .int k_glyphs, .int k_allGlyphs, .int k_touched, .ref k_glyph, .int k_pages, .ref k_page, .int k_others, .ref k_other, .int k_stored, .ref k_store])), (k_state, .inl (c1, 53, .inl sf)), (k_isKept, .inl (c2, 3, .inl (upd (upd (upd ik 0 0) 1 0) 2 0))), (k_steps, .inl (c3, 512, .inl sz))] := hD
        refine lv_aload_n hx hb d_mDesk_restart_47 rfl (lv_at hl 1 rfl) ?_
        refine lv_iconst (v := 0) hx hb d_mDesk_restart_48 (by decide) ?_
        refine va_put (D := (dC, dI)) (ci := 13) (v := .int 0) (ty := .int) (C := R_mDesk) (T := F_mDesk) (N := 36) hx hb hwd i_mDesk t_mDesk to_mDesk no_mDesk hown hK hP hD hS 0 rfl rfl 26 (by decide) (hwd _ wd_9_109) (fun _ h9 => h9) rfl (by decide +kernel) rfl rfl (Nat.le_of_ble_eq_true rfl) d_mDesk_restart_49 ?_
        clear hP hD hS
        intro H locs hP hD hS
        replace hP : va_P (dC, dI) vcl [(h0, .inr (13, [.int k_thrown, .ref k_state, .ref k_kept, .ref k_isKept, .int k_size, .int k_orientation, .int k_copies, .int k_width, .int k_height, .ref k_steps, .int 0, .int k_family, .int k_group, .int k_part, .int k_signed, .int k_negative, .int k_whole, .int k_behind, .int k_places, .int k_dataLeft, .int k_last, .int k_dataTo, .int k_bytesCame, .int k_came, .int k_cameX, .int k_cameY, .int 0, .int k_allGlyphs, .int k_touched, .ref k_glyph, .int k_pages, .ref k_page, .int k_others, .ref k_other, .int k_stored, .ref k_store])), (k_state, .inl (c1, 53, .inl sf)), (k_isKept, .inl (c2, 3, .inl (upd (upd (upd ik 0 0) 1 0) 2 0))), (k_steps, .inl (c3, 512, .inl sz))] H := hP
        replace hD : va_D A [(h0, .inr (13, [.int k_thrown, .ref k_state, .ref k_kept, .ref k_isKept, .int k_size, .int k_orientation, .int k_copies, .int k_width, .int k_height, .ref k_steps, .int 0, .int k_family, .int k_group, .int k_part, .int k_signed, .int k_negative, .int k_whole, .int k_behind, .int k_places, .int k_dataLeft, .int k_last, .int k_dataTo, .int k_bytesCame, .int k_came, .int k_cameX, .int k_cameY, .int 0, .int k_allGlyphs, .int k_touched, .ref k_glyph, .int k_pages, .ref k_page, .int k_others, .ref k_other, .int k_stored, .ref k_store])), (k_state, .inl (c1, 53, .inl sf)), (k_isKept, .inl (c2, 3, .inl (upd (upd (upd ik 0 0) 1 0) 2 0))), (k_steps, .inl (c3, 512, .inl sz))] := hD
        refine lv_aload_n hx hb d_mDesk_restart_52 rfl (lv_at hl 1 rfl) ?_
        refine lv_iconst (v := 0) hx hb d_mDesk_restart_53 (by decide) ?_
        refine va_put (D := (dC, dI)) (ci := 13) (v := .int 0) (ty := .int) (C := R_mDesk) (T := F_mDesk) (N := 36) hx hb hwd i_mDesk t_mDesk to_mDesk no_mDesk hown hK hP hD hS 0 rfl rfl 27 (by decide) (hwd _ wd_9_110) (fun _ h9 => h9) rfl (by decide +kernel) rfl rfl (Nat.le_of_ble_eq_true rfl) d_mDesk_restart_54 ?_
        clear hP hD hS
        intro H locs hP hD hS
        replace hP : va_P (dC, dI) vcl [(h0, .inr (13, [.int k_thrown, .ref k_state, .ref k_kept, .ref k_isKept, .int k_size, .int k_orientation, .int k_copies, .int k_width, .int k_height, .ref k_steps, .int 0, .int k_family, .int k_group, .int k_part, .int k_signed, .int k_negative, .int k_whole, .int k_behind, .int k_places, .int k_dataLeft, .int k_last, .int k_dataTo, .int k_bytesCame, .int k_came, .int k_cameX, .int k_cameY, .int 0, .int 0, .int k_touched, .ref k_glyph, .int k_pages, .ref k_page, .int k_others, .ref k_other, .int k_stored, .ref k_store])), (k_state, .inl (c1, 53, .inl sf)), (k_isKept, .inl (c2, 3, .inl (upd (upd (upd ik 0 0) 1 0) 2 0))), (k_steps, .inl (c3, 512, .inl sz))] H := hP
        replace hD : va_D A [(h0, .inr (13, [.int k_thrown, .ref k_state, .ref k_kept, .ref k_isKept, .int k_size, .int k_orientation, .int k_copies, .int k_width, .int k_height, .ref k_steps, .int 0, .int k_family, .int k_group, .int k_part, .int k_signed, .int k_negative, .int k_whole, .int k_behind, .int k_places, .int k_dataLeft, .int k_last, .int k_dataTo, .int k_bytesCame, .int k_came, .int k_cameX, .int k_cameY, .int 0, .int 0, .int k_touched, .ref k_glyph, .int k_pages, .ref k_page, .int k_others, .ref k_other, .int k_stored, .ref k_store])), (k_state, .inl (c1, 53, .inl sf)), (k_isKept, .inl (c2, 3, .inl (upd (upd (upd ik 0 0) 1 0) 2 0))), (k_steps, .inl (c3, 512, .inl sz))] := hD
        refine lv_aload_n hx hb d_mDesk_restart_57 rfl (lv_at hl 1 rfl) ?_
        refine lv_iconst (v := 0) hx hb d_mDesk_restart_58 (by decide) ?_
        refine va_put (D := (dC, dI)) (ci := 13) (v := .int 0) (ty := .boolean) (C := R_mDesk) (T := F_mDesk) (N := 36) hx hb hwd i_mDesk t_mDesk to_mDesk no_mDesk hown hK hP hD hS 0 rfl rfl 28 (by decide) (hwd _ wd_9_111) (fun _ h9 => h9) rfl (by decide +kernel) (by decide) rfl (Nat.le_of_ble_eq_true rfl) d_mDesk_restart_59 ?_
        clear hP hD hS
        intro H locs hP hD hS
        replace hP : va_P (dC, dI) vcl [(h0, .inr (13, [.int k_thrown, .ref k_state, .ref k_kept, .ref k_isKept, .int k_size, .int k_orientation, .int k_copies, .int k_width, .int k_height, .ref k_steps, .int 0, .int k_family, .int k_group, .int k_part, .int k_signed, .int k_negative, .int k_whole, .int k_behind, .int k_places, .int k_dataLeft, .int k_last, .int k_dataTo, .int k_bytesCame, .int k_came, .int k_cameX, .int k_cameY, .int 0, .int 0, .int 0, .ref k_glyph, .int k_pages, .ref k_page, .int k_others, .ref k_other, .int k_stored, .ref k_store])), (k_state, .inl (c1, 53, .inl sf)), (k_isKept, .inl (c2, 3, .inl (upd (upd (upd ik 0 0) 1 0) 2 0))), (k_steps, .inl (c3, 512, .inl sz))] H := hP
        replace hD : va_D A [(h0, .inr (13, [.int k_thrown, .ref k_state, .ref k_kept, .ref k_isKept, .int k_size, .int k_orientation, .int k_copies, .int k_width, .int k_height, .ref k_steps, .int 0, .int k_family, .int k_group, .int k_part, .int k_signed, .int k_negative, .int k_whole, .int k_behind, .int k_places, .int k_dataLeft, .int k_last, .int k_dataTo, .int k_bytesCame, .int k_came, .int k_cameX, .int k_cameY, .int 0, .int 0, .int 0, .ref k_glyph, .int k_pages, .ref k_page, .int k_others, .ref k_other, .int k_stored, .ref k_store])), (k_state, .inl (c1, 53, .inl sf)), (k_isKept, .inl (c2, 3, .inl (upd (upd (upd ik 0 0) 1 0) 2 0))), (k_steps, .inl (c3, 512, .inl sz))] := hD
        refine lv_aload_n hx hb d_mDesk_restart_62 rfl (lv_at hl 1 rfl) ?_
        refine lv_iconst (v := 0) hx hb d_mDesk_restart_63 (by decide) ?_
        refine va_put (D := (dC, dI)) (ci := 13) (v := .int 0) (ty := .int) (C := R_mDesk) (T := F_mDesk) (N := 36) hx hb hwd i_mDesk t_mDesk to_mDesk no_mDesk hown hK hP hD hS 0 rfl rfl 32 (by decide) (hwd _ wd_9_118) (fun _ h9 => h9) rfl (by decide +kernel) rfl rfl (Nat.le_of_ble_eq_true rfl) d_mDesk_restart_64 ?_
        clear hP hD hS
        intro H locs hP hD hS
        replace hP : va_P (dC, dI) vcl [(h0, .inr (13, [.int k_thrown, .ref k_state, .ref k_kept, .ref k_isKept, .int k_size, .int k_orientation, .int k_copies, .int k_width, .int k_height, .ref k_steps, .int 0, .int k_family, .int k_group, .int k_part, .int k_signed, .int k_negative, .int k_whole, .int k_behind, .int k_places, .int k_dataLeft, .int k_last, .int k_dataTo, .int k_bytesCame, .int k_came, .int k_cameX, .int k_cameY, .int 0, .int 0, .int 0, .ref k_glyph, .int k_pages, .ref k_page, .int 0, .ref k_other, .int k_stored, .ref k_store])), (k_state, .inl (c1, 53, .inl sf)), (k_isKept, .inl (c2, 3, .inl (upd (upd (upd ik 0 0) 1 0) 2 0))), (k_steps, .inl (c3, 512, .inl sz))] H := hP
        replace hD : va_D A [(h0, .inr (13, [.int k_thrown, .ref k_state, .ref k_kept, .ref k_isKept, .int k_size, .int k_orientation, .int k_copies, .int k_width, .int k_height, .ref k_steps, .int 0, .int k_family, .int k_group, .int k_part, .int k_signed, .int k_negative, .int k_whole, .int k_behind, .int k_places, .int k_dataLeft, .int k_last, .int k_dataTo, .int k_bytesCame, .int k_came, .int k_cameX, .int k_cameY, .int 0, .int 0, .int 0, .ref k_glyph, .int k_pages, .ref k_page, .int 0, .ref k_other, .int k_stored, .ref k_store])), (k_state, .inl (c1, 53, .inl sf)), (k_isKept, .inl (c2, 3, .inl (upd (upd (upd ik 0 0) 1 0) 2 0))), (k_steps, .inl (c3, 512, .inl sz))] := hD
        refine lv_aload_n hx hb d_mDesk_restart_67 rfl (lv_at hl 1 rfl) ?_
        refine lv_iconst (v := 0) hx hb d_mDesk_restart_68 (by decide) ?_
        refine va_put (D := (dC, dI)) (ci := 13) (v := .int 0) (ty := .int) (C := R_mDesk) (T := F_mDesk) (N := 36) hx hb hwd i_mDesk t_mDesk to_mDesk no_mDesk hown hK hP hD hS 0 rfl rfl 34 (by decide) (hwd _ wd_9_121) (fun _ h9 => h9) rfl (by decide +kernel) rfl rfl (Nat.le_of_ble_eq_true rfl) d_mDesk_restart_69 ?_
        clear hP hD hS
        intro H locs hP hD hS
        replace hP : va_P (dC, dI) vcl [(h0, .inr (13, [.int k_thrown, .ref k_state, .ref k_kept, .ref k_isKept, .int k_size, .int k_orientation, .int k_copies, .int k_width, .int k_height, .ref k_steps, .int 0, .int k_family, .int k_group, .int k_part, .int k_signed, .int k_negative, .int k_whole, .int k_behind, .int k_places, .int k_dataLeft, .int k_last, .int k_dataTo, .int k_bytesCame, .int k_came, .int k_cameX, .int k_cameY, .int 0, .int 0, .int 0, .ref k_glyph, .int k_pages, .ref k_page, .int 0, .ref k_other, .int 0, .ref k_store])), (k_state, .inl (c1, 53, .inl sf)), (k_isKept, .inl (c2, 3, .inl (upd (upd (upd ik 0 0) 1 0) 2 0))), (k_steps, .inl (c3, 512, .inl sz))] H := hP
        replace hD : va_D A [(h0, .inr (13, [.int k_thrown, .ref k_state, .ref k_kept, .ref k_isKept, .int k_size, .int k_orientation, .int k_copies, .int k_width, .int k_height, .ref k_steps, .int 0, .int k_family, .int k_group, .int k_part, .int k_signed, .int k_negative, .int k_whole, .int k_behind, .int k_places, .int k_dataLeft, .int k_last, .int k_dataTo, .int k_bytesCame, .int k_came, .int k_cameX, .int k_cameY, .int 0, .int 0, .int 0, .ref k_glyph, .int k_pages, .ref k_page, .int 0, .ref k_other, .int 0, .ref k_store])), (k_state, .inl (c1, 53, .inl sf)), (k_isKept, .inl (c2, 3, .inl (upd (upd (upd ik 0 0) 1 0) 2 0))), (k_steps, .inl (c3, 512, .inl sz))] := hD
        refine lv_aload_n hx hb d_mDesk_restart_72 rfl (lv_at hl 1 rfl) ?_
        refine lv_iconst (v := 0) hx hb d_mDesk_restart_73 (by decide) ?_
        refine va_put (D := (dC, dI)) (ci := 13) (v := .int 0) (ty := .boolean) (C := R_mDesk) (T := F_mDesk) (N := 36) hx hb hwd i_mDesk t_mDesk to_mDesk no_mDesk hown hK hP hD hS 0 rfl rfl 23 (by decide) (hwd _ wd_9_104) (fun _ h9 => h9) rfl (by decide +kernel) (by decide) rfl (Nat.le_of_ble_eq_true rfl) d_mDesk_restart_74 ?_
        clear hP hD hS
        intro H locs hP hD hS
        replace hP : va_P (dC, dI) vcl [(h0, .inr (13, [.int k_thrown, .ref k_state, .ref k_kept, .ref k_isKept, .int k_size, .int k_orientation, .int k_copies, .int k_width, .int k_height, .ref k_steps, .int 0, .int k_family, .int k_group, .int k_part, .int k_signed, .int k_negative, .int k_whole, .int k_behind, .int k_places, .int k_dataLeft, .int k_last, .int k_dataTo, .int k_bytesCame, .int 0, .int k_cameX, .int k_cameY, .int 0, .int 0, .int 0, .ref k_glyph, .int k_pages, .ref k_page, .int 0, .ref k_other, .int 0, .ref k_store])), (k_state, .inl (c1, 53, .inl sf)), (k_isKept, .inl (c2, 3, .inl (upd (upd (upd ik 0 0) 1 0) 2 0))), (k_steps, .inl (c3, 512, .inl sz))] H := hP
        replace hD : va_D A [(h0, .inr (13, [.int k_thrown, .ref k_state, .ref k_kept, .ref k_isKept, .int k_size, .int k_orientation, .int k_copies, .int k_width, .int k_height, .ref k_steps, .int 0, .int k_family, .int k_group, .int k_part, .int k_signed, .int k_negative, .int k_whole, .int k_behind, .int k_places, .int k_dataLeft, .int k_last, .int k_dataTo, .int k_bytesCame, .int 0, .int k_cameX, .int k_cameY, .int 0, .int 0, .int 0, .ref k_glyph, .int k_pages, .ref k_page, .int 0, .ref k_other, .int 0, .ref k_store])), (k_state, .inl (c1, 53, .inl sf)), (k_isKept, .inl (c2, 3, .inl (upd (upd (upd ik 0 0) 1 0) 2 0))), (k_steps, .inl (c3, 512, .inl sz))] := hD
        refine lv_aload_n hx hb d_mDesk_restart_77 rfl (lv_at hl 1 rfl) ?_
        have hPc := hP.sub (ws' := [(h0, .inr (13, [.int k_thrown, .ref k_state, .ref k_kept, .ref k_isKept, .int k_size, .int k_orientation, .int k_copies, .int k_width, .int k_height, .ref k_steps, .int 0, .int k_family, .int k_group, .int k_part, .int k_signed, .int k_negative, .int k_whole, .int k_behind, .int k_places, .int k_dataLeft, .int k_last, .int k_dataTo, .int k_bytesCame, .int 0, .int k_cameX, .int k_cameY, .int 0, .int 0, .int 0, .ref k_glyph, .int k_pages, .ref k_page, .int 0, .ref k_other, .int 0, .ref k_store])), (k_state, .inl (c1, 53, .inl sf))]) [0, 1] rfl
        have hDc := hD.sub (ws' := [(h0, .inr (13, [.int k_thrown, .ref k_state, .ref k_kept, .ref k_isKept, .int k_size, .int k_orientation, .int k_copies, .int k_width, .int k_height, .ref k_steps, .int 0, .int k_family, .int k_group, .int k_part, .int k_signed, .int k_negative, .int k_whole, .int k_behind, .int k_places, .int k_dataLeft, .int k_last, .int k_dataTo, .int k_bytesCame, .int 0, .int k_cameX, .int k_cameY, .int 0, .int 0, .int 0, .ref k_glyph, .int k_pages, .ref k_page, .int 0, .ref k_other, .int 0, .ref k_store])), (k_state, .inl (c1, 53, .inl sf))]) [0, 1] (by decide) rfl
        have hKc := hK.sub (tys' := [(c1, .int)]) [0] rfl
        have hFc := va_free (wc := [(h0, .inr (13, [.int k_thrown, .ref k_state, .ref k_kept, .ref k_isKept, .int k_size, .int k_orientation, .int k_copies, .int k_width, .int k_height, .ref k_steps, .int 0, .int k_family, .int k_group, .int k_part, .int k_signed, .int k_negative, .int k_whole, .int k_behind, .int k_places, .int k_dataLeft, .int k_last, .int k_dataTo, .int k_bytesCame, .int 0, .int k_cameX, .int k_cameY, .int 0, .int 0, .int 0, .ref k_glyph, .int k_pages, .ref k_page, .int 0, .ref k_other, .int 0, .ref k_store])), (k_state, .inl (c1, 53, .inl sf))]) hD hS hA [0, 1] rfl
        refine va_callv (va_runV (As := []) (rest := []) ⟨hx, hb, hml, hown, hwd⟩ (c_Desk_reset l dC dI tt h0 k_thrown k_state k_kept k_isKept k_size k_orientation k_copies k_width k_height k_steps 0 k_family k_group k_part k_signed k_negative k_whole k_behind k_places k_dataLeft k_last k_dataTo k_bytesCame 0 k_cameX k_cameY 0 0 0 k_glyph k_pages k_page 0 k_other 0 k_store c1 sf H.size ) (cwV 0 hwd (gV gd_mDesk_reset wd_9_35 wd_9_37 ws_111 wd_1_17) rfl rfl rfl (by decide +kernel) ⟨Nat.le_of_ble_eq_true rfl, Nat.le_of_ble_eq_true rfl⟩) ⟨fun a U g mk q => by obtain ⟨q0, q1, qP, qK, qD, qF⟩ := q; exact ⟨q0, q1, qP, va_K.moved (u := U) (U := U.calling g mk a) (Vm.Alike.refl U.vm) qK, qD, SF.same (u := U) (U := U.calling g mk a) rfl qF⟩, va_recv hKc hPc (ci := 13) (q0 := 0) rfl rfl, fun U hU hW => ⟨rfl, by rw [hU], by rw [hU]; exact hPc, va_K.moved hW.alike hKc, hDc.weaken (fun _ _ _ _ => trivial), by rw [hU]; exact SF.narrow (SF.moved hW (SF.kept hF (fun a h1 h2 => hS.2.1 a h1 h2))) hFc⟩⟩ rfl rfl hl.1 rfl (lv_room (Nat.le_of_ble_eq_true rfl)) d_mDesk_restart_78 ⟨Nat.le_of_ble_eq_true rfl, Nat.le_of_ble_eq_true rfl⟩) hS (fun q _ h => hFc q h) hFc ?_
        clear hPc hDc hKc hS
        intro u_2 t H1 locs ht hvm hw hB hz1 hk1 hS
        obtain ⟨g_3, rfl⟩ : ∃ z, z = u_2 := ⟨_, rfl⟩
        obtain ⟨hP1, hK1, hD1⟩ := hB
        rw [ht] at hP1
        have hK1 := va_K.moved hvm.symm hK1
        try dsimp only at hw
        have hJ := va_join (wr := [(k_isKept, .inl (c2, 3, .inl (upd (upd (upd ik 0 0) 1 0) 2 0))), (k_steps, .inl (c3, 512, .inl sz))]) (w1 := [(h0, .inr (13, [.int k_thrown, .ref k_state, .ref k_kept, .ref k_isKept, .int 2, .int 0, .int 1, .int 57600, .int 79200, .ref k_steps, .int 0, .int k_family, .int k_group, .int k_part, .int k_signed, .int k_negative, .int k_whole, .int k_behind, .int k_places, .int k_dataLeft, .int k_last, .int k_dataTo, .int k_bytesCame, .int 0, .int k_cameX, .int k_cameY, .int 0, .int 0, .int 0, .ref k_glyph, .int k_pages, .ref k_page, .int 0, .ref k_other, .int 0, .ref k_store])), (k_state, .inl (c1, 53, .inl (upd (upd (upd (upd (upd (upd (upd (upd g_3 6 720) 7 1200) 4 3600) 5 72000) 2 0) 3 57600) 0 0) 1 4500)))]) hP hD [0, 1] [2, 3] rfl rfl (by decide) (by decide) hk1 hFc hP1 hD1
        clear hP hD hk1 hFc hP1 hD1 hz1
        obtain ⟨hP, hD⟩ := hJ
        clear hK1 ht hvm
        generalize H1 = H at hP hS ⊢
        replace hP : va_P (dC, dI) vcl [(k_isKept, .inl (c2, 3, .inl (upd (upd (upd ik 0 0) 1 0) 2 0))), (k_steps, .inl (c3, 512, .inl sz)), (h0, .inr (13, [.int k_thrown, .ref k_state, .ref k_kept, .ref k_isKept, .int 2, .int 0, .int 1, .int 57600, .int 79200, .ref k_steps, .int 0, .int k_family, .int k_group, .int k_part, .int k_signed, .int k_negative, .int k_whole, .int k_behind, .int k_places, .int k_dataLeft, .int k_last, .int k_dataTo, .int k_bytesCame, .int 0, .int k_cameX, .int k_cameY, .int 0, .int 0, .int 0, .ref k_glyph, .int k_pages, .ref k_page, .int 0, .ref k_other, .int 0, .ref k_store])), (k_state, .inl (c1, 53, .inl (upd (upd (upd (upd (upd (upd (upd (upd g_3 6 720) 7 1200) 4 3600) 5 72000) 2 0) 3 57600) 0 0) 1 4500)))] H := hP
        replace hD : va_D A [(k_isKept, .inl (c2, 3, .inl (upd (upd (upd ik 0 0) 1 0) 2 0))), (k_steps, .inl (c3, 512, .inl sz)), (h0, .inr (13, [.int k_thrown, .ref k_state, .ref k_kept, .ref k_isKept, .int 2, .int 0, .int 1, .int 57600, .int 79200, .ref k_steps, .int 0, .int k_family, .int k_group, .int k_part, .int k_signed, .int k_negative, .int k_whole, .int k_behind, .int k_places, .int k_dataLeft, .int k_last, .int k_dataTo, .int k_bytesCame, .int 0, .int k_cameX, .int k_cameY, .int 0, .int 0, .int 0, .ref k_glyph, .int k_pages, .ref k_page, .int 0, .ref k_other, .int 0, .ref k_store])), (k_state, .inl (c1, 53, .inl (upd (upd (upd (upd (upd (upd (upd (upd g_3 6 720) 7 1200) 4 3600) 5 72000) 2 0) 3 57600) 0 0) 1 4500)))] := hD
        have hg0 := hw
        have hP9 := hP.sub (ws' := [(k_isKept, .inl (c2, 3, .inl (upd (upd (upd ik 0 0) 1 0) 2 0))), (k_steps, .inl (c3, 512, .inl sz)), (h0, .inr (13, [.int k_thrown, .ref k_state, .ref k_kept, .ref k_isKept, .int 2, .int 0, .int 1, .int 57600, .int 79200, .ref k_steps, .int 0, .int k_family, .int k_group, .int k_part, .int k_signed, .int k_negative, .int k_whole, .int k_behind, .int k_places, .int k_dataLeft, .int k_last, .int k_dataTo, .int k_bytesCame, .int 0, .int k_cameX, .int k_cameY, .int 0, .int 0, .int 0, .ref k_glyph, .int k_pages, .ref k_page, .int 0, .ref k_other, .int 0, .ref k_store])), (k_state, .inl (c1, 53, .inl (upd (upd (upd (upd (upd (upd (upd (upd g_3 6 720) 7 1200) 4 3600) 5 72000) 2 0) 3 57600) 0 0) 1 4500)))]) [0, 1, 2, 3] rfl
        have hD9 := hD.sub (ws' := [(k_isKept, .inl (c2, 3, .inl (upd (upd (upd ik 0 0) 1 0) 2 0))), (k_steps, .inl (c3, 512, .inl sz)), (h0, .inr (13, [.int k_thrown, .ref k_state, .ref k_kept, .ref k_isKept, .int 2, .int 0, .int 1, .int 57600, .int 79200, .ref k_steps, .int 0, .int k_family, .int k_group, .int k_part, .int k_signed, .int k_negative, .int k_whole, .int k_behind, .int k_places, .int k_dataLeft, .int k_last, .int k_dataTo, .int k_bytesCame, .int 0, .int k_cameX, .int k_cameY, .int 0, .int 0, .int 0, .ref k_glyph, .int k_pages, .ref k_page, .int 0, .ref k_other, .int 0, .ref k_store])), (k_state, .inl (c1, 53, .inl (upd (upd (upd (upd (upd (upd (upd (upd g_3 6 720) 7 1200) 4 3600) 5 72000) 2 0) 3 57600) 0 0) 1 4500)))]) [0, 1, 2, 3] (by decide) rfl
        have hK9 := hK.sub (tys' := [(c2, .boolean), (c3, .int), (c1, .int)]) [1, 2, 0] rfl
        exact W.vret hx hb hr (fun t ht hW => ⟨⟨(sz, g_3), rfl, (show (∀ j, j < 512 → (sz : Nat → Int32) j = -1) ∧ ∀ j, j < 53 → (g_3 : Nat → Int32) j = 0 from (⟨hall, hg0⟩)), by rw [ht]; exact hP9, va_K.moved hW.alike hK9, hD9⟩, hS.F ht⟩) hS.2.2 d_mDesk_restart_81
      · have hlt : i < 512 := by
          rcases Nat.lt_or_ge i 512 with q9 | q9
          · exact q9
          · exact absurd (by rw [ex]; exact nI_le (a := 512) q9 (by omega)) c6
        refine lv_aload_n hx hb d_mDesk_restart_9 rfl (lv_at hl 0 rfl) ?_
        refine va_get (D := (dC, dI)) (ci := 13) (v := .ref k_steps) (C := R_mDesk) (T := F_mDesk) (N := 36) hx hb hwd i_mDesk hown hK hP 0 rfl rfl 9 (by decide) (hwd _ wd_9_88) (fun _ h9 => h9) rfl d_mDesk_restart_10 ?_
        refine lv_iload_n hx hb d_mDesk_restart_13 rfl (lv_at hl 1 rfl) ?_
        refine lv_iconst (v := (-1)) hx hb d_mDesk_restart_14 (by decide) ?_
        refine va_iast hx hb hK hP hD hS 3 2 rfl rfl (by rw [ex]; exact vp_in_nI hlt (by omega)) d_mDesk_restart_15 ?_
        clear hP hD hS
        intro H locs hP hD hS
        rw [show x.toNatClampNeg = i from by rw [ex]; exact nI_clamp (by omega)] at hP hD
        replace hP : va_P (dC, dI) vcl [(h0, .inr (13, [.int k_thrown, .ref k_state, .ref k_kept, .ref k_isKept, .int k_size, .int k_orientation, .int k_copies, .int k_width, .int k_height, .ref k_steps, .int k_phase, .int k_family, .int k_group, .int k_part, .int k_signed, .int k_negative, .int k_whole, .int k_behind, .int k_places, .int k_dataLeft, .int k_last, .int k_dataTo, .int k_bytesCame, .int k_came, .int k_cameX, .int k_cameY, .int k_glyphs, .int k_allGlyphs, .int k_touched, .ref k_glyph, .int k_pages, .ref k_page, .int k_others, .ref k_other, .int k_stored, .ref k_store])), (k_state, .inl (c1, 53, .inl sf)), (k_isKept, .inl (c2, 3, .inl ik)), (k_steps, .inl (c3, 512, .inl (upd sz i (-1))))] H := hP
        replace hD : va_D A [(h0, .inr (13, [.int k_thrown, .ref k_state, .ref k_kept, .ref k_isKept, .int k_size, .int k_orientation, .int k_copies, .int k_width, .int k_height, .ref k_steps, .int k_phase, .int k_family, .int k_group, .int k_part, .int k_signed, .int k_negative, .int k_whole, .int k_behind, .int k_places, .int k_dataLeft, .int k_last, .int k_dataTo, .int k_bytesCame, .int k_came, .int k_cameX, .int k_cameY, .int k_glyphs, .int k_allGlyphs, .int k_touched, .ref k_glyph, .int k_pages, .ref k_page, .int k_others, .ref k_other, .int k_stored, .ref k_store])), (k_state, .inl (c1, 53, .inl sf)), (k_isKept, .inl (c2, 3, .inl ik)), (k_steps, .inl (c3, 512, .inl (upd sz i (-1))))] := hD
        refine lv_iinc (v := x + 1) (lv' := [(1, .int (x + 1)), (0, .ref h0)]) hx hb d_mDesk_restart_16 hl (k := 1) rfl rfl (by decide) rfl ?_
        clear hl
        intro ls hl
        refine lv_goto (tgt := 2) hx hb d_mDesk_restart_19 (by decide) ?_
        exact ih (i + 1) (x + 1) (upd sz i (-1)) (by rw [ex]; exact nI_1 i) (by omega) (by omega) (fun j h => if e : j = i then (by rw [e]; exact pk_us) else (by rw [pk_un e]; exact hg j (by omega))) _ _ _ hK hP hD hS (lv_sub hl [1, 0] rfl)
  exact cut2 (513) 0 0 sp (rfl) (Nat.zero_le _) (by omega) (fun j h => absurd h (Nat.not_lt_zero j)) _ _ _ hK hP hD hS (lv_sub hl [1, 0] rfl)

abbrev at_c_Shelf_init (dC : Nat → ClassId) (dI : Nat → Nat → Nat) (h0 : Nat) (A : Nat → Prop) (u : Unit) (t : State) : Prop := match u with
  | _ => ∃ (q_1 : Nat) (q_3 : Nat) (q_5 : Nat) (q_7 : Nat) (q_9 : Nat) (q_11 : Nat) (q_13 : Nat) (q_15 : Nat) (q_17 : Nat) (q_19 : Nat) (q_21 : Nat) (cA_2 : ClassId) (cA_4 : ClassId) (cA_6 : ClassId) (cA_8 : ClassId) (cA_10 : ClassId) (cA_12 : ClassId) (cA_14 : ClassId) (cA_16 : ClassId) (cA_18 : ClassId) (cA_20 : ClassId) (cA_22 : ClassId), va_P (dC, dI) vcl [(h0, .inr (18, [.int 0, .int 0, .ref q_1, .ref q_3, .ref q_5, .int 0, .ref q_7, .int 0, .ref q_9, .ref q_11, .ref q_13, .ref q_15, .int 0, .int 0, .int 0, .ref q_17, .int 0, .int 0, .ref q_19, .ref q_21])), (q_1, .inl (cA_2, 33, .inl (fun _ => 0))), (q_3, .inl (cA_4, 231, .inl (fun _ => 0))), (q_5, .inl (cA_6, 33, .inl (fun _ => 0))), (q_7, .inl (cA_8, 1799, .inl (fun _ => 0))), (q_9, .inl (cA_10, 20000, .inl (fun _ => 0))), (q_11, .inl (cA_12, 7, .inl (upd (upd (upd (upd (upd (upd (upd (fun _ => 0) 0 277) 1 0) 2 1000) 3 1200) 4 0) 5 0) 6 3))), (q_13, .inl (cA_14, 14, .inl (upd (upd (upd (upd (upd (upd (upd (upd (upd (upd (upd (upd (upd (upd (fun _ => 0) 0 277) 1 0) 2 1000) 3 1200) 4 0) 5 0) 6 3) 7 277) 8 0) 9 1000) 10 1200) 11 0) 12 0) 13 3))), (q_15, .inl (cA_16, 2, .inl (upd (upd (fun _ => 0) 0 (-1)) 1 (-1)))), (q_17, .inl (cA_18, 5, .inl (fun _ => 0))), (q_19, .inl (cA_20, 2048, .inl (fun _ => 0))), (q_21, .inl (cA_22, 32, .inl (fun _ => 0)))] t.heap ∧ va_K (dC, dI) vcl [(cA_2, .int), (cA_4, .int), (cA_6, .boolean), (cA_8, .int), (cA_10, .byte), (cA_12, .int), (cA_14, .int), (cA_16, .int), (cA_18, .int), (cA_20, .byte), (cA_22, .boolean)] t ∧ va_D A [(h0, .inr (18, [.int 0, .int 0, .ref q_1, .ref q_3, .ref q_5, .int 0, .ref q_7, .int 0, .ref q_9, .ref q_11, .ref q_13, .ref q_15, .int 0, .int 0, .int 0, .ref q_17, .int 0, .int 0, .ref q_19, .ref q_21])), (q_1, .inl (cA_2, 33, .inl (fun _ => 0))), (q_3, .inl (cA_4, 231, .inl (fun _ => 0))), (q_5, .inl (cA_6, 33, .inl (fun _ => 0))), (q_7, .inl (cA_8, 1799, .inl (fun _ => 0))), (q_9, .inl (cA_10, 20000, .inl (fun _ => 0))), (q_11, .inl (cA_12, 7, .inl (upd (upd (upd (upd (upd (upd (upd (fun _ => 0) 0 277) 1 0) 2 1000) 3 1200) 4 0) 5 0) 6 3))), (q_13, .inl (cA_14, 14, .inl (upd (upd (upd (upd (upd (upd (upd (upd (upd (upd (upd (upd (upd (upd (fun _ => 0) 0 277) 1 0) 2 1000) 3 1200) 4 0) 5 0) 6 3) 7 277) 8 0) 9 1000) 10 1200) 11 0) 12 0) 13 3))), (q_15, .inl (cA_16, 2, .inl (upd (upd (fun _ => 0) 0 (-1)) 1 (-1)))), (q_17, .inl (cA_18, 5, .inl (fun _ => 0))), (q_19, .inl (cA_20, 2048, .inl (fun _ => 0))), (q_21, .inl (cA_22, 32, .inl (fun _ => 0)))]
abbrev po_c_Shelf_init (h0 : Nat) (u : Unit) : Prop := match u with
  | _ => True
abbrev q_c_Shelf_init (dC : Nat → ClassId) (dI : Nat → Nat → Nat) (h0 : Nat) (A : Nat → Prop) : Array Value → State → Outcome → State → Prop := va_Qv (po_c_Shelf_init h0) (at_c_Shelf_init dC dI h0 A) A
abbrev rm_c_Shelf_init : Room := { frames := 1, cells := 11, slots := 24204, locals := 12 }
set_option maxHeartbeats 4000000 in
set_option maxRecDepth 100000 in
theorem c_Shelf_init (l : Launch) (dC : Nat → ClassId) (dI : Nat → Nat → Nat) (tt : Nat → Nat) (h0 : Nat) (sz : Nat)  : Met l y_mShelf_init w_mShelf_init rm_c_Shelf_init (va_Pc [.ref h0] (fun U => U.heap.size = sz ∧ va_P (dC, dI) vcl [(h0, .inr (18, [.int 0, .int 0, .null, .null, .null, .int 0, .null, .int 0, .null, .null, .null, .null, .int 0, .int 0, .int 0, .null, .int 0, .int 0, .null, .null]))] U.heap ∧ va_K (dC, dI) vcl [] U ∧ va_D (fun _ => True) [(h0, .inr (18, [.int 0, .int 0, .null, .null, .null, .int 0, .null, .int 0, .null, .null, .null, .null, .int 0, .int 0, .int 0, .null, .int 0, .int 0, .null, .null]))] ∧ SF tt (va_A [(h0, .inr (18, [.int 0, .int 0, .null, .null, .null, .int 0, .null, .int 0, .null, .null, .null, .null, .int 0, .int 0, .int 0, .null, .int 0, .int 0, .null, .null]))] sz) U U.heap)) (q_c_Shelf_init dC dI h0 (va_A [(h0, .inr (18, [.int 0, .int 0, .null, .null, .null, .int 0, .null, .int 0, .null, .null, .null, .null, .int 0, .int 0, .int 0, .null, .int 0, .int 0, .null, .null]))] sz)) 11 24204 (va_A [(h0, .inr (18, [.int 0, .int 0, .null, .null, .null, .int 0, .null, .int 0, .null, .null, .null, .null, .int 0, .int 0, .int 0, .null, .int 0, .int 0, .null, .null]))] sz) := by
  refine Met.ofW (cc := b_mShelf_init) (maxL := 1) (ret := none) (by decide) rfl ?_
  intro p e s m args below meth c s₁ B hml hv
  obtain ⟨rfl, hsz, hP, hK, hD0, hF⟩ := hv
  have hx := B.exec
  have hb := B.bytes
  have hr := B.returns
  have hwd : ∀ w ∈ gT, w.before _ s = true := fun w h => atoms_spec (ws := w_mShelf_init) B.pre w (List.mem_cons_of_mem _ h)
  have hown : s.vm.findClass R_mShelf = some m.cls := findClass_of_methodNamed B.named
  have hlocks := B.notSynchronized
  have hin : meth.name = "<init>" := (name_of_methodNamed B.named B.method).1
  subst hsz
  have hD := hD0.self (sz := s.heap.size)
  generalize hAe : va_A [(h0, .inr (18, [.int 0, .int 0, .null, .null, .null, .int 0, .null, .int 0, .null, .null, .null, .null, .int 0, .int 0, .int 0, .null, .int 0, .int 0, .null, .null]))] s.heap.size = A at hD hF ⊢
  have hA : ∀ q : Nat, s.heap.size ≤ q → A q := fun q h => by rw [← hAe]; exact Or.inr h
  have hS : va_S A s.heap s.heap [] := va_S.rf
  have hP : va_P (dC, dI) vcl [(h0, .inr (18, [.int 0, .int 0, .null, .null, .null, .int 0, .null, .int 0, .null, .null, .null, .null, .int 0, .int 0, .int 0, .null, .int 0, .int 0, .null, .null]))] s.heap := hP
  have hl := lv_entry ([.ref h0]) (n := 1) (Nat.le_of_ble_eq_true rfl)
  rw [lg_entry_eq]
  generalize (lg_sl ([.ref h0]) ++ List.replicate (1 - (lg_sl ([.ref h0])).length) Slot.unset).toArray = ls at hl ⊢
  have hl : lv_has ls 1 [(0, .ref h0)] := hl
  refine lv_aload_n hx hb d_mShelf_init_0 rfl (lv_at hl 0 rfl) ?_
  refine W.objInit hx hb hown (hwd _ wd_9_202) (hwd _ wd_1_35) (hwd _ wd_1_36) rfl (by rw [hml]; exact hl.1) rfl d_mShelf_init_1 (Nat.le_of_ble_eq_true rfl) (Nat.le_of_ble_eq_true rfl) ?_
  refine W.eq (g2 := F0 m 4 ls []) rfl ?_
  refine lv_aload_n hx hb d_mShelf_init_4 rfl (lv_at hl 0 rfl) ?_
  refine lv_bipush (v := 33) hx hb d_mShelf_init_5 (by decide) ?_
  refine va_newa (atype := .int) (N' := 33) (a0 := (33, .inl (fun _ => 0))) (ty := .int) (n := 33) hx hb (hwd _ wd_1_167) rfl hK hP hD hS hA (fun _ => rfl) (by decide) (by decide) (by decide) (Nat.le_of_ble_eq_true rfl) (Nat.le_of_ble_eq_true rfl) d_mShelf_init_7 ?_
  clear hP hD hS hK
  intro q_1 cA_2 H hK hP hD hS
  replace hP : va_P (dC, dI) vcl [(h0, .inr (18, [.int 0, .int 0, .null, .null, .null, .int 0, .null, .int 0, .null, .null, .null, .null, .int 0, .int 0, .int 0, .null, .int 0, .int 0, .null, .null])), (q_1, .inl (cA_2, 33, .inl (fun _ => 0)))] H := hP
  replace hD : va_D A [(h0, .inr (18, [.int 0, .int 0, .null, .null, .null, .int 0, .null, .int 0, .null, .null, .null, .null, .int 0, .int 0, .int 0, .null, .int 0, .int 0, .null, .null])), (q_1, .inl (cA_2, 33, .inl (fun _ => 0)))] := hD
  replace hK : va_K (dC, dI) vcl [(cA_2, .int)] s := hK
  refine W.widen (k := 1) (n := 33) (by decide) (by decide) ?_
  refine va_putF (D := (dC, dI)) (ci := 18) (v := .ref q_1) (ty := (.array .int)) (C := R_mShelf) (T := F_mShelf) (N := 20) hx hb hwd i_mShelf t_mShelf to_mShelf no_mShelf hown hK hP hD hS 0 rfl rfl 2 (by decide) (hwd _ wd_9_207) (fun _ h9 => h9) rfl hin rfl (by decide +kernel) rfl rfl (Nat.le_of_ble_eq_true rfl) d_mShelf_init_9 ?_
  clear hP hD hS
  intro H locs hP hD hS
  replace hP : va_P (dC, dI) vcl [(h0, .inr (18, [.int 0, .int 0, .ref q_1, .null, .null, .int 0, .null, .int 0, .null, .null, .null, .null, .int 0, .int 0, .int 0, .null, .int 0, .int 0, .null, .null])), (q_1, .inl (cA_2, 33, .inl (fun _ => 0)))] H := hP
  replace hD : va_D A [(h0, .inr (18, [.int 0, .int 0, .ref q_1, .null, .null, .int 0, .null, .int 0, .null, .null, .null, .null, .int 0, .int 0, .int 0, .null, .int 0, .int 0, .null, .null])), (q_1, .inl (cA_2, 33, .inl (fun _ => 0)))] := hD
  refine lv_aload_n hx hb d_mShelf_init_12 rfl (lv_at hl 0 rfl) ?_
  refine lv_sipush (v := 231) hx hb d_mShelf_init_13 (by decide) ?_
  refine va_newa (atype := .int) (N' := 231) (a0 := (231, .inl (fun _ => 0))) (ty := .int) (n := 231) hx hb (hwd _ wd_1_167) rfl hK hP hD hS hA (fun _ => rfl) (by decide) (by decide) (by decide) (Nat.le_of_ble_eq_true rfl) (Nat.le_of_ble_eq_true rfl) d_mShelf_init_16 ?_
  clear hP hD hS hK
  intro q_3 cA_4 H hK hP hD hS
  replace hP : va_P (dC, dI) vcl [(h0, .inr (18, [.int 0, .int 0, .ref q_1, .null, .null, .int 0, .null, .int 0, .null, .null, .null, .null, .int 0, .int 0, .int 0, .null, .int 0, .int 0, .null, .null])), (q_1, .inl (cA_2, 33, .inl (fun _ => 0))), (q_3, .inl (cA_4, 231, .inl (fun _ => 0)))] H := hP
  replace hD : va_D A [(h0, .inr (18, [.int 0, .int 0, .ref q_1, .null, .null, .int 0, .null, .int 0, .null, .null, .null, .null, .int 0, .int 0, .int 0, .null, .int 0, .int 0, .null, .null])), (q_1, .inl (cA_2, 33, .inl (fun _ => 0))), (q_3, .inl (cA_4, 231, .inl (fun _ => 0)))] := hD
  replace hK : va_K (dC, dI) vcl [(cA_2, .int), (cA_4, .int)] s := hK
  refine W.widen (k := 2) (n := 264) (by decide) (by decide) ?_
  refine va_putF (D := (dC, dI)) (ci := 18) (v := .ref q_3) (ty := (.array .int)) (C := R_mShelf) (T := F_mShelf) (N := 20) hx hb hwd i_mShelf t_mShelf to_mShelf no_mShelf hown hK hP hD hS 0 rfl rfl 3 (by decide) (hwd _ wd_9_208) (fun _ h9 => h9) rfl hin rfl (by decide +kernel) rfl rfl (Nat.le_of_ble_eq_true rfl) d_mShelf_init_18 ?_
  clear hP hD hS
  intro H locs hP hD hS
  replace hP : va_P (dC, dI) vcl [(h0, .inr (18, [.int 0, .int 0, .ref q_1, .ref q_3, .null, .int 0, .null, .int 0, .null, .null, .null, .null, .int 0, .int 0, .int 0, .null, .int 0, .int 0, .null, .null])), (q_1, .inl (cA_2, 33, .inl (fun _ => 0))), (q_3, .inl (cA_4, 231, .inl (fun _ => 0)))] H := hP
  replace hD : va_D A [(h0, .inr (18, [.int 0, .int 0, .ref q_1, .ref q_3, .null, .int 0, .null, .int 0, .null, .null, .null, .null, .int 0, .int 0, .int 0, .null, .int 0, .int 0, .null, .null])), (q_1, .inl (cA_2, 33, .inl (fun _ => 0))), (q_3, .inl (cA_4, 231, .inl (fun _ => 0)))] := hD
  refine lv_aload_n hx hb d_mShelf_init_21 rfl (lv_at hl 0 rfl) ?_
  refine lv_bipush (v := 33) hx hb d_mShelf_init_22 (by decide) ?_
  refine va_newa (atype := .boolean) (N' := 33) (a0 := (33, .inl (fun _ => 0))) (ty := .boolean) (n := 33) hx hb (hwd _ wd_2_150) rfl hK hP hD hS hA (fun _ => rfl) (by decide) (by decide) (by decide) (Nat.le_of_ble_eq_true rfl) (Nat.le_of_ble_eq_true rfl) d_mShelf_init_24 ?_
  clear hP hD hS hK
  intro q_5 cA_6 H hK hP hD hS
  replace hP : va_P (dC, dI) vcl [(h0, .inr (18, [.int 0, .int 0, .ref q_1, .ref q_3, .null, .int 0, .null, .int 0, .null, .null, .null, .null, .int 0, .int 0, .int 0, .null, .int 0, .int 0, .null, .null])), (q_1, .inl (cA_2, 33, .inl (fun _ => 0))), (q_3, .inl (cA_4, 231, .inl (fun _ => 0))), (q_5, .inl (cA_6, 33, .inl (fun _ => 0)))] H := hP
  replace hD : va_D A [(h0, .inr (18, [.int 0, .int 0, .ref q_1, .ref q_3, .null, .int 0, .null, .int 0, .null, .null, .null, .null, .int 0, .int 0, .int 0, .null, .int 0, .int 0, .null, .null])), (q_1, .inl (cA_2, 33, .inl (fun _ => 0))), (q_3, .inl (cA_4, 231, .inl (fun _ => 0))), (q_5, .inl (cA_6, 33, .inl (fun _ => 0)))] := hD
  replace hK : va_K (dC, dI) vcl [(cA_2, .int), (cA_4, .int), (cA_6, .boolean)] s := hK
  refine W.widen (k := 3) (n := 297) (by decide) (by decide) ?_
  refine va_putF (D := (dC, dI)) (ci := 18) (v := .ref q_5) (ty := (.array .boolean)) (C := R_mShelf) (T := F_mShelf) (N := 20) hx hb hwd i_mShelf t_mShelf to_mShelf no_mShelf hown hK hP hD hS 0 rfl rfl 4 (by decide) (hwd _ wd_9_210) (fun _ h9 => h9) rfl hin rfl (by decide +kernel) rfl rfl (Nat.le_of_ble_eq_true rfl) d_mShelf_init_26 ?_
  clear hP hD hS
  intro H locs hP hD hS
  replace hP : va_P (dC, dI) vcl [(h0, .inr (18, [.int 0, .int 0, .ref q_1, .ref q_3, .ref q_5, .int 0, .null, .int 0, .null, .null, .null, .null, .int 0, .int 0, .int 0, .null, .int 0, .int 0, .null, .null])), (q_1, .inl (cA_2, 33, .inl (fun _ => 0))), (q_3, .inl (cA_4, 231, .inl (fun _ => 0))), (q_5, .inl (cA_6, 33, .inl (fun _ => 0)))] H := hP
  replace hD : va_D A [(h0, .inr (18, [.int 0, .int 0, .ref q_1, .ref q_3, .ref q_5, .int 0, .null, .int 0, .null, .null, .null, .null, .int 0, .int 0, .int 0, .null, .int 0, .int 0, .null, .null])), (q_1, .inl (cA_2, 33, .inl (fun _ => 0))), (q_3, .inl (cA_4, 231, .inl (fun _ => 0))), (q_5, .inl (cA_6, 33, .inl (fun _ => 0)))] := hD
  refine lv_aload_n hx hb d_mShelf_init_29 rfl (lv_at hl 0 rfl) ?_
  refine lv_sipush (v := 1799) hx hb d_mShelf_init_30 (by decide) ?_
  refine va_newa (atype := .int) (N' := 1799) (a0 := (1799, .inl (fun _ => 0))) (ty := .int) (n := 1799) hx hb (hwd _ wd_1_167) rfl hK hP hD hS hA (fun _ => rfl) (by decide) (by decide) (by decide) (Nat.le_of_ble_eq_true rfl) (Nat.le_of_ble_eq_true rfl) d_mShelf_init_33 ?_
  clear hP hD hS hK
  intro q_7 cA_8 H hK hP hD hS
  replace hP : va_P (dC, dI) vcl [(h0, .inr (18, [.int 0, .int 0, .ref q_1, .ref q_3, .ref q_5, .int 0, .null, .int 0, .null, .null, .null, .null, .int 0, .int 0, .int 0, .null, .int 0, .int 0, .null, .null])), (q_1, .inl (cA_2, 33, .inl (fun _ => 0))), (q_3, .inl (cA_4, 231, .inl (fun _ => 0))), (q_5, .inl (cA_6, 33, .inl (fun _ => 0))), (q_7, .inl (cA_8, 1799, .inl (fun _ => 0)))] H := hP
  replace hD : va_D A [(h0, .inr (18, [.int 0, .int 0, .ref q_1, .ref q_3, .ref q_5, .int 0, .null, .int 0, .null, .null, .null, .null, .int 0, .int 0, .int 0, .null, .int 0, .int 0, .null, .null])), (q_1, .inl (cA_2, 33, .inl (fun _ => 0))), (q_3, .inl (cA_4, 231, .inl (fun _ => 0))), (q_5, .inl (cA_6, 33, .inl (fun _ => 0))), (q_7, .inl (cA_8, 1799, .inl (fun _ => 0)))] := hD
  replace hK : va_K (dC, dI) vcl [(cA_2, .int), (cA_4, .int), (cA_6, .boolean), (cA_8, .int)] s := hK
  refine W.widen (k := 4) (n := 2096) (by decide) (by decide) ?_
  refine va_putF (D := (dC, dI)) (ci := 18) (v := .ref q_7) (ty := (.array .int)) (C := R_mShelf) (T := F_mShelf) (N := 20) hx hb hwd i_mShelf t_mShelf to_mShelf no_mShelf hown hK hP hD hS 0 rfl rfl 6 (by decide) (hwd _ wd_9_213) (fun _ h9 => h9) rfl hin rfl (by decide +kernel) rfl rfl (Nat.le_of_ble_eq_true rfl) d_mShelf_init_35 ?_
  clear hP hD hS
  intro H locs hP hD hS
  replace hP : va_P (dC, dI) vcl [(h0, .inr (18, [.int 0, .int 0, .ref q_1, .ref q_3, .ref q_5, .int 0, .ref q_7, .int 0, .null, .null, .null, .null, .int 0, .int 0, .int 0, .null, .int 0, .int 0, .null, .null])), (q_1, .inl (cA_2, 33, .inl (fun _ => 0))), (q_3, .inl (cA_4, 231, .inl (fun _ => 0))), (q_5, .inl (cA_6, 33, .inl (fun _ => 0))), (q_7, .inl (cA_8, 1799, .inl (fun _ => 0)))] H := hP
  replace hD : va_D A [(h0, .inr (18, [.int 0, .int 0, .ref q_1, .ref q_3, .ref q_5, .int 0, .ref q_7, .int 0, .null, .null, .null, .null, .int 0, .int 0, .int 0, .null, .int 0, .int 0, .null, .null])), (q_1, .inl (cA_2, 33, .inl (fun _ => 0))), (q_3, .inl (cA_4, 231, .inl (fun _ => 0))), (q_5, .inl (cA_6, 33, .inl (fun _ => 0))), (q_7, .inl (cA_8, 1799, .inl (fun _ => 0)))] := hD
  refine lv_aload_n hx hb d_mShelf_init_38 rfl (lv_at hl 0 rfl) ?_
  refine lv_sipush (v := 20000) hx hb d_mShelf_init_39 (by decide) ?_
  refine va_newa (atype := .byte) (N' := 20000) (a0 := (20000, .inl (fun _ => 0))) (ty := .byte) (n := 20000) hx hb (hwd _ wd_1_166) rfl hK hP hD hS hA (fun _ => rfl) (by decide) (by decide) (by decide) (Nat.le_of_ble_eq_true rfl) (Nat.le_of_ble_eq_true rfl) d_mShelf_init_42 ?_
  clear hP hD hS hK
  intro q_9 cA_10 H hK hP hD hS
  replace hP : va_P (dC, dI) vcl [(h0, .inr (18, [.int 0, .int 0, .ref q_1, .ref q_3, .ref q_5, .int 0, .ref q_7, .int 0, .null, .null, .null, .null, .int 0, .int 0, .int 0, .null, .int 0, .int 0, .null, .null])), (q_1, .inl (cA_2, 33, .inl (fun _ => 0))), (q_3, .inl (cA_4, 231, .inl (fun _ => 0))), (q_5, .inl (cA_6, 33, .inl (fun _ => 0))), (q_7, .inl (cA_8, 1799, .inl (fun _ => 0))), (q_9, .inl (cA_10, 20000, .inl (fun _ => 0)))] H := hP
  replace hD : va_D A [(h0, .inr (18, [.int 0, .int 0, .ref q_1, .ref q_3, .ref q_5, .int 0, .ref q_7, .int 0, .null, .null, .null, .null, .int 0, .int 0, .int 0, .null, .int 0, .int 0, .null, .null])), (q_1, .inl (cA_2, 33, .inl (fun _ => 0))), (q_3, .inl (cA_4, 231, .inl (fun _ => 0))), (q_5, .inl (cA_6, 33, .inl (fun _ => 0))), (q_7, .inl (cA_8, 1799, .inl (fun _ => 0))), (q_9, .inl (cA_10, 20000, .inl (fun _ => 0)))] := hD
  replace hK : va_K (dC, dI) vcl [(cA_2, .int), (cA_4, .int), (cA_6, .boolean), (cA_8, .int), (cA_10, .byte)] s := hK
  refine W.widen (k := 5) (n := 22096) (by decide) (by decide) ?_
  refine va_putF (D := (dC, dI)) (ci := 18) (v := .ref q_9) (ty := (.array .byte)) (C := R_mShelf) (T := F_mShelf) (N := 20) hx hb hwd i_mShelf t_mShelf to_mShelf no_mShelf hown hK hP hD hS 0 rfl rfl 8 (by decide) (hwd _ wd_9_216) (fun _ h9 => h9) rfl hin rfl (by decide +kernel) rfl rfl (Nat.le_of_ble_eq_true rfl) d_mShelf_init_44 ?_
  clear hP hD hS
  intro H locs hP hD hS
  replace hP : va_P (dC, dI) vcl [(h0, .inr (18, [.int 0, .int 0, .ref q_1, .ref q_3, .ref q_5, .int 0, .ref q_7, .int 0, .ref q_9, .null, .null, .null, .int 0, .int 0, .int 0, .null, .int 0, .int 0, .null, .null])), (q_1, .inl (cA_2, 33, .inl (fun _ => 0))), (q_3, .inl (cA_4, 231, .inl (fun _ => 0))), (q_5, .inl (cA_6, 33, .inl (fun _ => 0))), (q_7, .inl (cA_8, 1799, .inl (fun _ => 0))), (q_9, .inl (cA_10, 20000, .inl (fun _ => 0)))] H := hP
  replace hD : va_D A [(h0, .inr (18, [.int 0, .int 0, .ref q_1, .ref q_3, .ref q_5, .int 0, .ref q_7, .int 0, .ref q_9, .null, .null, .null, .int 0, .int 0, .int 0, .null, .int 0, .int 0, .null, .null])), (q_1, .inl (cA_2, 33, .inl (fun _ => 0))), (q_3, .inl (cA_4, 231, .inl (fun _ => 0))), (q_5, .inl (cA_6, 33, .inl (fun _ => 0))), (q_7, .inl (cA_8, 1799, .inl (fun _ => 0))), (q_9, .inl (cA_10, 20000, .inl (fun _ => 0)))] := hD
  refine lv_aload_n hx hb d_mShelf_init_47 rfl (lv_at hl 0 rfl) ?_
  refine lv_bipush (v := 7) hx hb d_mShelf_init_48 (by decide) ?_
  refine va_newa (atype := .int) (N' := 7) (a0 := (7, .inl (fun _ => 0))) (ty := .int) (n := 7) hx hb (hwd _ wd_1_167) rfl hK hP hD hS hA (fun _ => rfl) (by decide) (by decide) (by decide) (Nat.le_of_ble_eq_true rfl) (Nat.le_of_ble_eq_true rfl) d_mShelf_init_50 ?_
  clear hP hD hS hK
  intro q_11 cA_12 H hK hP hD hS
  replace hP : va_P (dC, dI) vcl [(h0, .inr (18, [.int 0, .int 0, .ref q_1, .ref q_3, .ref q_5, .int 0, .ref q_7, .int 0, .ref q_9, .null, .null, .null, .int 0, .int 0, .int 0, .null, .int 0, .int 0, .null, .null])), (q_1, .inl (cA_2, 33, .inl (fun _ => 0))), (q_3, .inl (cA_4, 231, .inl (fun _ => 0))), (q_5, .inl (cA_6, 33, .inl (fun _ => 0))), (q_7, .inl (cA_8, 1799, .inl (fun _ => 0))), (q_9, .inl (cA_10, 20000, .inl (fun _ => 0))), (q_11, .inl (cA_12, 7, .inl (fun _ => 0)))] H := hP
  replace hD : va_D A [(h0, .inr (18, [.int 0, .int 0, .ref q_1, .ref q_3, .ref q_5, .int 0, .ref q_7, .int 0, .ref q_9, .null, .null, .null, .int 0, .int 0, .int 0, .null, .int 0, .int 0, .null, .null])), (q_1, .inl (cA_2, 33, .inl (fun _ => 0))), (q_3, .inl (cA_4, 231, .inl (fun _ => 0))), (q_5, .inl (cA_6, 33, .inl (fun _ => 0))), (q_7, .inl (cA_8, 1799, .inl (fun _ => 0))), (q_9, .inl (cA_10, 20000, .inl (fun _ => 0))), (q_11, .inl (cA_12, 7, .inl (fun _ => 0)))] := hD
  replace hK : va_K (dC, dI) vcl [(cA_2, .int), (cA_4, .int), (cA_6, .boolean), (cA_8, .int), (cA_10, .byte), (cA_12, .int)] s := hK
  refine W.widen (k := 6) (n := 22103) (by decide) (by decide) ?_
  refine lv_dup hx hb d_mShelf_init_52 rfl ?_
  refine lv_iconst (v := 0) hx hb d_mShelf_init_53 (by decide) ?_
  refine lv_sipush (v := 277) hx hb d_mShelf_init_54 (by decide) ?_
  refine va_iast hx hb hK hP hD hS 6 5 rfl rfl (show ¬ ((0 : Int32) < 0 ∨ 7 ≤ (0 : Int32).toNatClampNeg) by decide) d_mShelf_init_57 ?_
  clear hP hD hS
  intro H locs hP hD hS
  rw [show (0 : Int32).toNatClampNeg = 0 by decide] at hP hD
  replace hP : va_P (dC, dI) vcl [(h0, .inr (18, [.int 0, .int 0, .ref q_1, .ref q_3, .ref q_5, .int 0, .ref q_7, .int 0, .ref q_9, .null, .null, .null, .int 0, .int 0, .int 0, .null, .int 0, .int 0, .null, .null])), (q_1, .inl (cA_2, 33, .inl (fun _ => 0))), (q_3, .inl (cA_4, 231, .inl (fun _ => 0))), (q_5, .inl (cA_6, 33, .inl (fun _ => 0))), (q_7, .inl (cA_8, 1799, .inl (fun _ => 0))), (q_9, .inl (cA_10, 20000, .inl (fun _ => 0))), (q_11, .inl (cA_12, 7, .inl (upd (fun _ => 0) 0 277)))] H := hP
  replace hD : va_D A [(h0, .inr (18, [.int 0, .int 0, .ref q_1, .ref q_3, .ref q_5, .int 0, .ref q_7, .int 0, .ref q_9, .null, .null, .null, .int 0, .int 0, .int 0, .null, .int 0, .int 0, .null, .null])), (q_1, .inl (cA_2, 33, .inl (fun _ => 0))), (q_3, .inl (cA_4, 231, .inl (fun _ => 0))), (q_5, .inl (cA_6, 33, .inl (fun _ => 0))), (q_7, .inl (cA_8, 1799, .inl (fun _ => 0))), (q_9, .inl (cA_10, 20000, .inl (fun _ => 0))), (q_11, .inl (cA_12, 7, .inl (upd (fun _ => 0) 0 277)))] := hD
  refine lv_dup hx hb d_mShelf_init_58 rfl ?_
  refine lv_iconst (v := 1) hx hb d_mShelf_init_59 (by decide) ?_
  refine lv_iconst (v := 0) hx hb d_mShelf_init_60 (by decide) ?_
  refine va_iast hx hb hK hP hD hS 6 5 rfl rfl (show ¬ ((1 : Int32) < 0 ∨ 7 ≤ (1 : Int32).toNatClampNeg) by decide) d_mShelf_init_61 ?_
  clear hP hD hS
  intro H locs hP hD hS
  rw [show (1 : Int32).toNatClampNeg = 1 by decide] at hP hD
  replace hP : va_P (dC, dI) vcl [(h0, .inr (18, [.int 0, .int 0, .ref q_1, .ref q_3, .ref q_5, .int 0, .ref q_7, .int 0, .ref q_9, .null, .null, .null, .int 0, .int 0, .int 0, .null, .int 0, .int 0, .null, .null])), (q_1, .inl (cA_2, 33, .inl (fun _ => 0))), (q_3, .inl (cA_4, 231, .inl (fun _ => 0))), (q_5, .inl (cA_6, 33, .inl (fun _ => 0))), (q_7, .inl (cA_8, 1799, .inl (fun _ => 0))), (q_9, .inl (cA_10, 20000, .inl (fun _ => 0))), (q_11, .inl (cA_12, 7, .inl (upd (upd (fun _ => 0) 0 277) 1 0)))] H := hP
  replace hD : va_D A [(h0, .inr (18, [.int 0, .int 0, .ref q_1, .ref q_3, .ref q_5, .int 0, .ref q_7, .int 0, .ref q_9, .null, .null, .null, .int 0, .int 0, .int 0, .null, .int 0, .int 0, .null, .null])), (q_1, .inl (cA_2, 33, .inl (fun _ => 0))), (q_3, .inl (cA_4, 231, .inl (fun _ => 0))), (q_5, .inl (cA_6, 33, .inl (fun _ => 0))), (q_7, .inl (cA_8, 1799, .inl (fun _ => 0))), (q_9, .inl (cA_10, 20000, .inl (fun _ => 0))), (q_11, .inl (cA_12, 7, .inl (upd (upd (fun _ => 0) 0 277) 1 0)))] := hD
  refine lv_dup hx hb d_mShelf_init_62 rfl ?_
  refine lv_iconst (v := 2) hx hb d_mShelf_init_63 (by decide) ?_
  refine lv_sipush (v := 1000) hx hb d_mShelf_init_64 (by decide) ?_
  refine va_iast hx hb hK hP hD hS 6 5 rfl rfl (show ¬ ((2 : Int32) < 0 ∨ 7 ≤ (2 : Int32).toNatClampNeg) by decide) d_mShelf_init_67 ?_
  clear hP hD hS
  intro H locs hP hD hS
  rw [show (2 : Int32).toNatClampNeg = 2 by decide] at hP hD
  replace hP : va_P (dC, dI) vcl [(h0, .inr (18, [.int 0, .int 0, .ref q_1, .ref q_3, .ref q_5, .int 0, .ref q_7, .int 0, .ref q_9, .null, .null, .null, .int 0, .int 0, .int 0, .null, .int 0, .int 0, .null, .null])), (q_1, .inl (cA_2, 33, .inl (fun _ => 0))), (q_3, .inl (cA_4, 231, .inl (fun _ => 0))), (q_5, .inl (cA_6, 33, .inl (fun _ => 0))), (q_7, .inl (cA_8, 1799, .inl (fun _ => 0))), (q_9, .inl (cA_10, 20000, .inl (fun _ => 0))), (q_11, .inl (cA_12, 7, .inl (upd (upd (upd (fun _ => 0) 0 277) 1 0) 2 1000)))] H := hP
  replace hD : va_D A [(h0, .inr (18, [.int 0, .int 0, .ref q_1, .ref q_3, .ref q_5, .int 0, .ref q_7, .int 0, .ref q_9, .null, .null, .null, .int 0, .int 0, .int 0, .null, .int 0, .int 0, .null, .null])), (q_1, .inl (cA_2, 33, .inl (fun _ => 0))), (q_3, .inl (cA_4, 231, .inl (fun _ => 0))), (q_5, .inl (cA_6, 33, .inl (fun _ => 0))), (q_7, .inl (cA_8, 1799, .inl (fun _ => 0))), (q_9, .inl (cA_10, 20000, .inl (fun _ => 0))), (q_11, .inl (cA_12, 7, .inl (upd (upd (upd (fun _ => 0) 0 277) 1 0) 2 1000)))] := hD
  refine lv_dup hx hb d_mShelf_init_68 rfl ?_
  refine lv_iconst (v := 3) hx hb d_mShelf_init_69 (by decide) ?_
  refine lv_sipush (v := 1200) hx hb d_mShelf_init_70 (by decide) ?_
  refine va_iast hx hb hK hP hD hS 6 5 rfl rfl (show ¬ ((3 : Int32) < 0 ∨ 7 ≤ (3 : Int32).toNatClampNeg) by decide) d_mShelf_init_73 ?_
  clear hP hD hS
  intro H locs hP hD hS
  rw [show (3 : Int32).toNatClampNeg = 3 by decide] at hP hD
  replace hP : va_P (dC, dI) vcl [(h0, .inr (18, [.int 0, .int 0, .ref q_1, .ref q_3, .ref q_5, .int 0, .ref q_7, .int 0, .ref q_9, .null, .null, .null, .int 0, .int 0, .int 0, .null, .int 0, .int 0, .null, .null])), (q_1, .inl (cA_2, 33, .inl (fun _ => 0))), (q_3, .inl (cA_4, 231, .inl (fun _ => 0))), (q_5, .inl (cA_6, 33, .inl (fun _ => 0))), (q_7, .inl (cA_8, 1799, .inl (fun _ => 0))), (q_9, .inl (cA_10, 20000, .inl (fun _ => 0))), (q_11, .inl (cA_12, 7, .inl (upd (upd (upd (upd (fun _ => 0) 0 277) 1 0) 2 1000) 3 1200)))] H := hP
  replace hD : va_D A [(h0, .inr (18, [.int 0, .int 0, .ref q_1, .ref q_3, .ref q_5, .int 0, .ref q_7, .int 0, .ref q_9, .null, .null, .null, .int 0, .int 0, .int 0, .null, .int 0, .int 0, .null, .null])), (q_1, .inl (cA_2, 33, .inl (fun _ => 0))), (q_3, .inl (cA_4, 231, .inl (fun _ => 0))), (q_5, .inl (cA_6, 33, .inl (fun _ => 0))), (q_7, .inl (cA_8, 1799, .inl (fun _ => 0))), (q_9, .inl (cA_10, 20000, .inl (fun _ => 0))), (q_11, .inl (cA_12, 7, .inl (upd (upd (upd (upd (fun _ => 0) 0 277) 1 0) 2 1000) 3 1200)))] := hD
  refine lv_dup hx hb d_mShelf_init_74 rfl ?_
  refine lv_iconst (v := 4) hx hb d_mShelf_init_75 (by decide) ?_
  refine lv_iconst (v := 0) hx hb d_mShelf_init_76 (by decide) ?_
  refine va_iast hx hb hK hP hD hS 6 5 rfl rfl (show ¬ ((4 : Int32) < 0 ∨ 7 ≤ (4 : Int32).toNatClampNeg) by decide) d_mShelf_init_77 ?_
  clear hP hD hS
  intro H locs hP hD hS
  rw [show (4 : Int32).toNatClampNeg = 4 by decide] at hP hD
  replace hP : va_P (dC, dI) vcl [(h0, .inr (18, [.int 0, .int 0, .ref q_1, .ref q_3, .ref q_5, .int 0, .ref q_7, .int 0, .ref q_9, .null, .null, .null, .int 0, .int 0, .int 0, .null, .int 0, .int 0, .null, .null])), (q_1, .inl (cA_2, 33, .inl (fun _ => 0))), (q_3, .inl (cA_4, 231, .inl (fun _ => 0))), (q_5, .inl (cA_6, 33, .inl (fun _ => 0))), (q_7, .inl (cA_8, 1799, .inl (fun _ => 0))), (q_9, .inl (cA_10, 20000, .inl (fun _ => 0))), (q_11, .inl (cA_12, 7, .inl (upd (upd (upd (upd (upd (fun _ => 0) 0 277) 1 0) 2 1000) 3 1200) 4 0)))] H := hP
  replace hD : va_D A [(h0, .inr (18, [.int 0, .int 0, .ref q_1, .ref q_3, .ref q_5, .int 0, .ref q_7, .int 0, .ref q_9, .null, .null, .null, .int 0, .int 0, .int 0, .null, .int 0, .int 0, .null, .null])), (q_1, .inl (cA_2, 33, .inl (fun _ => 0))), (q_3, .inl (cA_4, 231, .inl (fun _ => 0))), (q_5, .inl (cA_6, 33, .inl (fun _ => 0))), (q_7, .inl (cA_8, 1799, .inl (fun _ => 0))), (q_9, .inl (cA_10, 20000, .inl (fun _ => 0))), (q_11, .inl (cA_12, 7, .inl (upd (upd (upd (upd (upd (fun _ => 0) 0 277) 1 0) 2 1000) 3 1200) 4 0)))] := hD
  refine lv_dup hx hb d_mShelf_init_78 rfl ?_
  refine lv_iconst (v := 5) hx hb d_mShelf_init_79 (by decide) ?_
  refine lv_iconst (v := 0) hx hb d_mShelf_init_80 (by decide) ?_
  refine va_iast hx hb hK hP hD hS 6 5 rfl rfl (show ¬ ((5 : Int32) < 0 ∨ 7 ≤ (5 : Int32).toNatClampNeg) by decide) d_mShelf_init_81 ?_
  clear hP hD hS
  intro H locs hP hD hS
  rw [show (5 : Int32).toNatClampNeg = 5 by decide] at hP hD
  replace hP : va_P (dC, dI) vcl [(h0, .inr (18, [.int 0, .int 0, .ref q_1, .ref q_3, .ref q_5, .int 0, .ref q_7, .int 0, .ref q_9, .null, .null, .null, .int 0, .int 0, .int 0, .null, .int 0, .int 0, .null, .null])), (q_1, .inl (cA_2, 33, .inl (fun _ => 0))), (q_3, .inl (cA_4, 231, .inl (fun _ => 0))), (q_5, .inl (cA_6, 33, .inl (fun _ => 0))), (q_7, .inl (cA_8, 1799, .inl (fun _ => 0))), (q_9, .inl (cA_10, 20000, .inl (fun _ => 0))), (q_11, .inl (cA_12, 7, .inl (upd (upd (upd (upd (upd (upd (fun _ => 0) 0 277) 1 0) 2 1000) 3 1200) 4 0) 5 0)))] H := hP
  replace hD : va_D A [(h0, .inr (18, [.int 0, .int 0, .ref q_1, .ref q_3, .ref q_5, .int 0, .ref q_7, .int 0, .ref q_9, .null, .null, .null, .int 0, .int 0, .int 0, .null, .int 0, .int 0, .null, .null])), (q_1, .inl (cA_2, 33, .inl (fun _ => 0))), (q_3, .inl (cA_4, 231, .inl (fun _ => 0))), (q_5, .inl (cA_6, 33, .inl (fun _ => 0))), (q_7, .inl (cA_8, 1799, .inl (fun _ => 0))), (q_9, .inl (cA_10, 20000, .inl (fun _ => 0))), (q_11, .inl (cA_12, 7, .inl (upd (upd (upd (upd (upd (upd (fun _ => 0) 0 277) 1 0) 2 1000) 3 1200) 4 0) 5 0)))] := hD
  refine lv_dup hx hb d_mShelf_init_82 rfl ?_
  refine lv_bipush (v := 6) hx hb d_mShelf_init_83 (by decide) ?_
  refine lv_iconst (v := 3) hx hb d_mShelf_init_85 (by decide) ?_
  refine va_iast hx hb hK hP hD hS 6 5 rfl rfl (show ¬ ((6 : Int32) < 0 ∨ 7 ≤ (6 : Int32).toNatClampNeg) by decide) d_mShelf_init_86 ?_
  clear hP hD hS
  intro H locs hP hD hS
  rw [show (6 : Int32).toNatClampNeg = 6 by decide] at hP hD
  replace hP : va_P (dC, dI) vcl [(h0, .inr (18, [.int 0, .int 0, .ref q_1, .ref q_3, .ref q_5, .int 0, .ref q_7, .int 0, .ref q_9, .null, .null, .null, .int 0, .int 0, .int 0, .null, .int 0, .int 0, .null, .null])), (q_1, .inl (cA_2, 33, .inl (fun _ => 0))), (q_3, .inl (cA_4, 231, .inl (fun _ => 0))), (q_5, .inl (cA_6, 33, .inl (fun _ => 0))), (q_7, .inl (cA_8, 1799, .inl (fun _ => 0))), (q_9, .inl (cA_10, 20000, .inl (fun _ => 0))), (q_11, .inl (cA_12, 7, .inl (upd (upd (upd (upd (upd (upd (upd (fun _ => 0) 0 277) 1 0) 2 1000) 3 1200) 4 0) 5 0) 6 3)))] H := hP
  replace hD : va_D A [(h0, .inr (18, [.int 0, .int 0, .ref q_1, .ref q_3, .ref q_5, .int 0, .ref q_7, .int 0, .ref q_9, .null, .null, .null, .int 0, .int 0, .int 0, .null, .int 0, .int 0, .null, .null])), (q_1, .inl (cA_2, 33, .inl (fun _ => 0))), (q_3, .inl (cA_4, 231, .inl (fun _ => 0))), (q_5, .inl (cA_6, 33, .inl (fun _ => 0))), (q_7, .inl (cA_8, 1799, .inl (fun _ => 0))), (q_9, .inl (cA_10, 20000, .inl (fun _ => 0))), (q_11, .inl (cA_12, 7, .inl (upd (upd (upd (upd (upd (upd (upd (fun _ => 0) 0 277) 1 0) 2 1000) 3 1200) 4 0) 5 0) 6 3)))] := hD
  refine va_putF (D := (dC, dI)) (ci := 18) (v := .ref q_11) (ty := (.array .int)) (C := R_mShelf) (T := F_mShelf) (N := 20) hx hb hwd i_mShelf t_mShelf to_mShelf no_mShelf hown hK hP hD hS 0 rfl rfl 9 (by decide) (hwd _ wd_9_217) (fun _ h9 => h9) rfl hin rfl (by decide +kernel) rfl rfl (Nat.le_of_ble_eq_true rfl) d_mShelf_init_87 ?_
  clear hP hD hS
  intro H locs hP hD hS
  replace hP : va_P (dC, dI) vcl [(h0, .inr (18, [.int 0, .int 0, .ref q_1, .ref q_3, .ref q_5, .int 0, .ref q_7, .int 0, .ref q_9, .ref q_11, .null, .null, .int 0, .int 0, .int 0, .null, .int 0, .int 0, .null, .null])), (q_1, .inl (cA_2, 33, .inl (fun _ => 0))), (q_3, .inl (cA_4, 231, .inl (fun _ => 0))), (q_5, .inl (cA_6, 33, .inl (fun _ => 0))), (q_7, .inl (cA_8, 1799, .inl (fun _ => 0))), (q_9, .inl (cA_10, 20000, .inl (fun _ => 0))), (q_11, .inl (cA_12, 7, .inl (upd (upd (upd (upd (upd (upd (upd (fun _ => 0) 0 277) 1 0) 2 1000) 3 1200) 4 0) 5 0) 6 3)))] H := hP
  replace hD : va_D A [(h0, .inr (18, [.int 0, .int 0, .ref q_1, .ref q_3, .ref q_5, .int 0, .ref q_7, .int 0, .ref q_9, .ref q_11, .null, .null, .int 0, .int 0, .int 0, .null, .int 0, .int 0, .null, .null])), (q_1, .inl (cA_2, 33, .inl (fun _ => 0))), (q_3, .inl (cA_4, 231, .inl (fun _ => 0))), (q_5, .inl (cA_6, 33, .inl (fun _ => 0))), (q_7, .inl (cA_8, 1799, .inl (fun _ => 0))), (q_9, .inl (cA_10, 20000, .inl (fun _ => 0))), (q_11, .inl (cA_12, 7, .inl (upd (upd (upd (upd (upd (upd (upd (fun _ => 0) 0 277) 1 0) 2 1000) 3 1200) 4 0) 5 0) 6 3)))] := hD
  refine lv_aload_n hx hb d_mShelf_init_90 rfl (lv_at hl 0 rfl) ?_
  refine lv_bipush (v := 14) hx hb d_mShelf_init_91 (by decide) ?_
  refine va_newa (atype := .int) (N' := 14) (a0 := (14, .inl (fun _ => 0))) (ty := .int) (n := 14) hx hb (hwd _ wd_1_167) rfl hK hP hD hS hA (fun _ => rfl) (by decide) (by decide) (by decide) (Nat.le_of_ble_eq_true rfl) (Nat.le_of_ble_eq_true rfl) d_mShelf_init_93 ?_
  clear hP hD hS hK
  intro q_13 cA_14 H hK hP hD hS
  replace hP : va_P (dC, dI) vcl [(h0, .inr (18, [.int 0, .int 0, .ref q_1, .ref q_3, .ref q_5, .int 0, .ref q_7, .int 0, .ref q_9, .ref q_11, .null, .null, .int 0, .int 0, .int 0, .null, .int 0, .int 0, .null, .null])), (q_1, .inl (cA_2, 33, .inl (fun _ => 0))), (q_3, .inl (cA_4, 231, .inl (fun _ => 0))), (q_5, .inl (cA_6, 33, .inl (fun _ => 0))), (q_7, .inl (cA_8, 1799, .inl (fun _ => 0))), (q_9, .inl (cA_10, 20000, .inl (fun _ => 0))), (q_11, .inl (cA_12, 7, .inl (upd (upd (upd (upd (upd (upd (upd (fun _ => 0) 0 277) 1 0) 2 1000) 3 1200) 4 0) 5 0) 6 3))), (q_13, .inl (cA_14, 14, .inl (fun _ => 0)))] H := hP
  replace hD : va_D A [(h0, .inr (18, [.int 0, .int 0, .ref q_1, .ref q_3, .ref q_5, .int 0, .ref q_7, .int 0, .ref q_9, .ref q_11, .null, .null, .int 0, .int 0, .int 0, .null, .int 0, .int 0, .null, .null])), (q_1, .inl (cA_2, 33, .inl (fun _ => 0))), (q_3, .inl (cA_4, 231, .inl (fun _ => 0))), (q_5, .inl (cA_6, 33, .inl (fun _ => 0))), (q_7, .inl (cA_8, 1799, .inl (fun _ => 0))), (q_9, .inl (cA_10, 20000, .inl (fun _ => 0))), (q_11, .inl (cA_12, 7, .inl (upd (upd (upd (upd (upd (upd (upd (fun _ => 0) 0 277) 1 0) 2 1000) 3 1200) 4 0) 5 0) 6 3))), (q_13, .inl (cA_14, 14, .inl (fun _ => 0)))] := hD
  replace hK : va_K (dC, dI) vcl [(cA_2, .int), (cA_4, .int), (cA_6, .boolean), (cA_8, .int), (cA_10, .byte), (cA_12, .int), (cA_14, .int)] s := hK
  refine W.widen (k := 7) (n := 22117) (by decide) (by decide) ?_
  refine lv_dup hx hb d_mShelf_init_95 rfl ?_
  refine lv_iconst (v := 0) hx hb d_mShelf_init_96 (by decide) ?_
  refine lv_sipush (v := 277) hx hb d_mShelf_init_97 (by decide) ?_
  refine va_iast hx hb hK hP hD hS 7 6 rfl rfl (show ¬ ((0 : Int32) < 0 ∨ 14 ≤ (0 : Int32).toNatClampNeg) by decide) d_mShelf_init_100 ?_
  clear hP hD hS
  intro H locs hP hD hS
  rw [show (0 : Int32).toNatClampNeg = 0 by decide] at hP hD
  replace hP : va_P (dC, dI) vcl [(h0, .inr (18, [.int 0, .int 0, .ref q_1, .ref q_3, .ref q_5, .int 0, .ref q_7, .int 0, .ref q_9, .ref q_11, .null, .null, .int 0, .int 0, .int 0, .null, .int 0, .int 0, .null, .null])), (q_1, .inl (cA_2, 33, .inl (fun _ => 0))), (q_3, .inl (cA_4, 231, .inl (fun _ => 0))), (q_5, .inl (cA_6, 33, .inl (fun _ => 0))), (q_7, .inl (cA_8, 1799, .inl (fun _ => 0))), (q_9, .inl (cA_10, 20000, .inl (fun _ => 0))), (q_11, .inl (cA_12, 7, .inl (upd (upd (upd (upd (upd (upd (upd (fun _ => 0) 0 277) 1 0) 2 1000) 3 1200) 4 0) 5 0) 6 3))), (q_13, .inl (cA_14, 14, .inl (upd (fun _ => 0) 0 277)))] H := hP
  replace hD : va_D A [(h0, .inr (18, [.int 0, .int 0, .ref q_1, .ref q_3, .ref q_5, .int 0, .ref q_7, .int 0, .ref q_9, .ref q_11, .null, .null, .int 0, .int 0, .int 0, .null, .int 0, .int 0, .null, .null])), (q_1, .inl (cA_2, 33, .inl (fun _ => 0))), (q_3, .inl (cA_4, 231, .inl (fun _ => 0))), (q_5, .inl (cA_6, 33, .inl (fun _ => 0))), (q_7, .inl (cA_8, 1799, .inl (fun _ => 0))), (q_9, .inl (cA_10, 20000, .inl (fun _ => 0))), (q_11, .inl (cA_12, 7, .inl (upd (upd (upd (upd (upd (upd (upd (fun _ => 0) 0 277) 1 0) 2 1000) 3 1200) 4 0) 5 0) 6 3))), (q_13, .inl (cA_14, 14, .inl (upd (fun _ => 0) 0 277)))] := hD
  refine lv_dup hx hb d_mShelf_init_101 rfl ?_
  refine lv_iconst (v := 1) hx hb d_mShelf_init_102 (by decide) ?_
  refine lv_iconst (v := 0) hx hb d_mShelf_init_103 (by decide) ?_
  refine va_iast hx hb hK hP hD hS 7 6 rfl rfl (show ¬ ((1 : Int32) < 0 ∨ 14 ≤ (1 : Int32).toNatClampNeg) by decide) d_mShelf_init_104 ?_
  clear hP hD hS
  intro H locs hP hD hS
  rw [show (1 : Int32).toNatClampNeg = 1 by decide] at hP hD
  replace hP : va_P (dC, dI) vcl [(h0, .inr (18, [.int 0, .int 0, .ref q_1, .ref q_3, .ref q_5, .int 0, .ref q_7, .int 0, .ref q_9, .ref q_11, .null, .null, .int 0, .int 0, .int 0, .null, .int 0, .int 0, .null, .null])), (q_1, .inl (cA_2, 33, .inl (fun _ => 0))), (q_3, .inl (cA_4, 231, .inl (fun _ => 0))), (q_5, .inl (cA_6, 33, .inl (fun _ => 0))), (q_7, .inl (cA_8, 1799, .inl (fun _ => 0))), (q_9, .inl (cA_10, 20000, .inl (fun _ => 0))), (q_11, .inl (cA_12, 7, .inl (upd (upd (upd (upd (upd (upd (upd (fun _ => 0) 0 277) 1 0) 2 1000) 3 1200) 4 0) 5 0) 6 3))), (q_13, .inl (cA_14, 14, .inl (upd (upd (fun _ => 0) 0 277) 1 0)))] H := hP
  replace hD : va_D A [(h0, .inr (18, [.int 0, .int 0, .ref q_1, .ref q_3, .ref q_5, .int 0, .ref q_7, .int 0, .ref q_9, .ref q_11, .null, .null, .int 0, .int 0, .int 0, .null, .int 0, .int 0, .null, .null])), (q_1, .inl (cA_2, 33, .inl (fun _ => 0))), (q_3, .inl (cA_4, 231, .inl (fun _ => 0))), (q_5, .inl (cA_6, 33, .inl (fun _ => 0))), (q_7, .inl (cA_8, 1799, .inl (fun _ => 0))), (q_9, .inl (cA_10, 20000, .inl (fun _ => 0))), (q_11, .inl (cA_12, 7, .inl (upd (upd (upd (upd (upd (upd (upd (fun _ => 0) 0 277) 1 0) 2 1000) 3 1200) 4 0) 5 0) 6 3))), (q_13, .inl (cA_14, 14, .inl (upd (upd (fun _ => 0) 0 277) 1 0)))] := hD
  refine lv_dup hx hb d_mShelf_init_105 rfl ?_
  refine lv_iconst (v := 2) hx hb d_mShelf_init_106 (by decide) ?_
  refine lv_sipush (v := 1000) hx hb d_mShelf_init_107 (by decide) ?_
  refine va_iast hx hb hK hP hD hS 7 6 rfl rfl (show ¬ ((2 : Int32) < 0 ∨ 14 ≤ (2 : Int32).toNatClampNeg) by decide) d_mShelf_init_110 ?_
  clear hP hD hS
  intro H locs hP hD hS
  rw [show (2 : Int32).toNatClampNeg = 2 by decide] at hP hD
  replace hP : va_P (dC, dI) vcl [(h0, .inr (18, [.int 0, .int 0, .ref q_1, .ref q_3, .ref q_5, .int 0, .ref q_7, .int 0, .ref q_9, .ref q_11, .null, .null, .int 0, .int 0, .int 0, .null, .int 0, .int 0, .null, .null])), (q_1, .inl (cA_2, 33, .inl (fun _ => 0))), (q_3, .inl (cA_4, 231, .inl (fun _ => 0))), (q_5, .inl (cA_6, 33, .inl (fun _ => 0))), (q_7, .inl (cA_8, 1799, .inl (fun _ => 0))), (q_9, .inl (cA_10, 20000, .inl (fun _ => 0))), (q_11, .inl (cA_12, 7, .inl (upd (upd (upd (upd (upd (upd (upd (fun _ => 0) 0 277) 1 0) 2 1000) 3 1200) 4 0) 5 0) 6 3))), (q_13, .inl (cA_14, 14, .inl (upd (upd (upd (fun _ => 0) 0 277) 1 0) 2 1000)))] H := hP
  replace hD : va_D A [(h0, .inr (18, [.int 0, .int 0, .ref q_1, .ref q_3, .ref q_5, .int 0, .ref q_7, .int 0, .ref q_9, .ref q_11, .null, .null, .int 0, .int 0, .int 0, .null, .int 0, .int 0, .null, .null])), (q_1, .inl (cA_2, 33, .inl (fun _ => 0))), (q_3, .inl (cA_4, 231, .inl (fun _ => 0))), (q_5, .inl (cA_6, 33, .inl (fun _ => 0))), (q_7, .inl (cA_8, 1799, .inl (fun _ => 0))), (q_9, .inl (cA_10, 20000, .inl (fun _ => 0))), (q_11, .inl (cA_12, 7, .inl (upd (upd (upd (upd (upd (upd (upd (fun _ => 0) 0 277) 1 0) 2 1000) 3 1200) 4 0) 5 0) 6 3))), (q_13, .inl (cA_14, 14, .inl (upd (upd (upd (fun _ => 0) 0 277) 1 0) 2 1000)))] := hD
  refine lv_dup hx hb d_mShelf_init_111 rfl ?_
  refine lv_iconst (v := 3) hx hb d_mShelf_init_112 (by decide) ?_
  refine lv_sipush (v := 1200) hx hb d_mShelf_init_113 (by decide) ?_
  refine va_iast hx hb hK hP hD hS 7 6 rfl rfl (show ¬ ((3 : Int32) < 0 ∨ 14 ≤ (3 : Int32).toNatClampNeg) by decide) d_mShelf_init_116 ?_
  clear hP hD hS
  intro H locs hP hD hS
  rw [show (3 : Int32).toNatClampNeg = 3 by decide] at hP hD
  replace hP : va_P (dC, dI) vcl [(h0, .inr (18, [.int 0, .int 0, .ref q_1, .ref q_3, .ref q_5, .int 0, .ref q_7, .int 0, .ref q_9, .ref q_11, .null, .null, .int 0, .int 0, .int 0, .null, .int 0, .int 0, .null, .null])), (q_1, .inl (cA_2, 33, .inl (fun _ => 0))), (q_3, .inl (cA_4, 231, .inl (fun _ => 0))), (q_5, .inl (cA_6, 33, .inl (fun _ => 0))), (q_7, .inl (cA_8, 1799, .inl (fun _ => 0))), (q_9, .inl (cA_10, 20000, .inl (fun _ => 0))), (q_11, .inl (cA_12, 7, .inl (upd (upd (upd (upd (upd (upd (upd (fun _ => 0) 0 277) 1 0) 2 1000) 3 1200) 4 0) 5 0) 6 3))), (q_13, .inl (cA_14, 14, .inl (upd (upd (upd (upd (fun _ => 0) 0 277) 1 0) 2 1000) 3 1200)))] H := hP
  replace hD : va_D A [(h0, .inr (18, [.int 0, .int 0, .ref q_1, .ref q_3, .ref q_5, .int 0, .ref q_7, .int 0, .ref q_9, .ref q_11, .null, .null, .int 0, .int 0, .int 0, .null, .int 0, .int 0, .null, .null])), (q_1, .inl (cA_2, 33, .inl (fun _ => 0))), (q_3, .inl (cA_4, 231, .inl (fun _ => 0))), (q_5, .inl (cA_6, 33, .inl (fun _ => 0))), (q_7, .inl (cA_8, 1799, .inl (fun _ => 0))), (q_9, .inl (cA_10, 20000, .inl (fun _ => 0))), (q_11, .inl (cA_12, 7, .inl (upd (upd (upd (upd (upd (upd (upd (fun _ => 0) 0 277) 1 0) 2 1000) 3 1200) 4 0) 5 0) 6 3))), (q_13, .inl (cA_14, 14, .inl (upd (upd (upd (upd (fun _ => 0) 0 277) 1 0) 2 1000) 3 1200)))] := hD
  refine lv_dup hx hb d_mShelf_init_117 rfl ?_
  refine lv_iconst (v := 4) hx hb d_mShelf_init_118 (by decide) ?_
  refine lv_iconst (v := 0) hx hb d_mShelf_init_119 (by decide) ?_
  refine va_iast hx hb hK hP hD hS 7 6 rfl rfl (show ¬ ((4 : Int32) < 0 ∨ 14 ≤ (4 : Int32).toNatClampNeg) by decide) d_mShelf_init_120 ?_
  clear hP hD hS
  intro H locs hP hD hS
  rw [show (4 : Int32).toNatClampNeg = 4 by decide] at hP hD
  replace hP : va_P (dC, dI) vcl [(h0, .inr (18, [.int 0, .int 0, .ref q_1, .ref q_3, .ref q_5, .int 0, .ref q_7, .int 0, .ref q_9, .ref q_11, .null, .null, .int 0, .int 0, .int 0, .null, .int 0, .int 0, .null, .null])), (q_1, .inl (cA_2, 33, .inl (fun _ => 0))), (q_3, .inl (cA_4, 231, .inl (fun _ => 0))), (q_5, .inl (cA_6, 33, .inl (fun _ => 0))), (q_7, .inl (cA_8, 1799, .inl (fun _ => 0))), (q_9, .inl (cA_10, 20000, .inl (fun _ => 0))), (q_11, .inl (cA_12, 7, .inl (upd (upd (upd (upd (upd (upd (upd (fun _ => 0) 0 277) 1 0) 2 1000) 3 1200) 4 0) 5 0) 6 3))), (q_13, .inl (cA_14, 14, .inl (upd (upd (upd (upd (upd (fun _ => 0) 0 277) 1 0) 2 1000) 3 1200) 4 0)))] H := hP
  replace hD : va_D A [(h0, .inr (18, [.int 0, .int 0, .ref q_1, .ref q_3, .ref q_5, .int 0, .ref q_7, .int 0, .ref q_9, .ref q_11, .null, .null, .int 0, .int 0, .int 0, .null, .int 0, .int 0, .null, .null])), (q_1, .inl (cA_2, 33, .inl (fun _ => 0))), (q_3, .inl (cA_4, 231, .inl (fun _ => 0))), (q_5, .inl (cA_6, 33, .inl (fun _ => 0))), (q_7, .inl (cA_8, 1799, .inl (fun _ => 0))), (q_9, .inl (cA_10, 20000, .inl (fun _ => 0))), (q_11, .inl (cA_12, 7, .inl (upd (upd (upd (upd (upd (upd (upd (fun _ => 0) 0 277) 1 0) 2 1000) 3 1200) 4 0) 5 0) 6 3))), (q_13, .inl (cA_14, 14, .inl (upd (upd (upd (upd (upd (fun _ => 0) 0 277) 1 0) 2 1000) 3 1200) 4 0)))] := hD
  refine lv_dup hx hb d_mShelf_init_121 rfl ?_
  refine lv_iconst (v := 5) hx hb d_mShelf_init_122 (by decide) ?_
  refine lv_iconst (v := 0) hx hb d_mShelf_init_123 (by decide) ?_
  refine va_iast hx hb hK hP hD hS 7 6 rfl rfl (show ¬ ((5 : Int32) < 0 ∨ 14 ≤ (5 : Int32).toNatClampNeg) by decide) d_mShelf_init_124 ?_
  clear hP hD hS
  intro H locs hP hD hS
  rw [show (5 : Int32).toNatClampNeg = 5 by decide] at hP hD
  replace hP : va_P (dC, dI) vcl [(h0, .inr (18, [.int 0, .int 0, .ref q_1, .ref q_3, .ref q_5, .int 0, .ref q_7, .int 0, .ref q_9, .ref q_11, .null, .null, .int 0, .int 0, .int 0, .null, .int 0, .int 0, .null, .null])), (q_1, .inl (cA_2, 33, .inl (fun _ => 0))), (q_3, .inl (cA_4, 231, .inl (fun _ => 0))), (q_5, .inl (cA_6, 33, .inl (fun _ => 0))), (q_7, .inl (cA_8, 1799, .inl (fun _ => 0))), (q_9, .inl (cA_10, 20000, .inl (fun _ => 0))), (q_11, .inl (cA_12, 7, .inl (upd (upd (upd (upd (upd (upd (upd (fun _ => 0) 0 277) 1 0) 2 1000) 3 1200) 4 0) 5 0) 6 3))), (q_13, .inl (cA_14, 14, .inl (upd (upd (upd (upd (upd (upd (fun _ => 0) 0 277) 1 0) 2 1000) 3 1200) 4 0) 5 0)))] H := hP
  replace hD : va_D A [(h0, .inr (18, [.int 0, .int 0, .ref q_1, .ref q_3, .ref q_5, .int 0, .ref q_7, .int 0, .ref q_9, .ref q_11, .null, .null, .int 0, .int 0, .int 0, .null, .int 0, .int 0, .null, .null])), (q_1, .inl (cA_2, 33, .inl (fun _ => 0))), (q_3, .inl (cA_4, 231, .inl (fun _ => 0))), (q_5, .inl (cA_6, 33, .inl (fun _ => 0))), (q_7, .inl (cA_8, 1799, .inl (fun _ => 0))), (q_9, .inl (cA_10, 20000, .inl (fun _ => 0))), (q_11, .inl (cA_12, 7, .inl (upd (upd (upd (upd (upd (upd (upd (fun _ => 0) 0 277) 1 0) 2 1000) 3 1200) 4 0) 5 0) 6 3))), (q_13, .inl (cA_14, 14, .inl (upd (upd (upd (upd (upd (upd (fun _ => 0) 0 277) 1 0) 2 1000) 3 1200) 4 0) 5 0)))] := hD
  refine lv_dup hx hb d_mShelf_init_125 rfl ?_
  refine lv_bipush (v := 6) hx hb d_mShelf_init_126 (by decide) ?_
  refine lv_iconst (v := 3) hx hb d_mShelf_init_128 (by decide) ?_
  refine va_iast hx hb hK hP hD hS 7 6 rfl rfl (show ¬ ((6 : Int32) < 0 ∨ 14 ≤ (6 : Int32).toNatClampNeg) by decide) d_mShelf_init_129 ?_
  clear hP hD hS
  intro H locs hP hD hS
  rw [show (6 : Int32).toNatClampNeg = 6 by decide] at hP hD
  replace hP : va_P (dC, dI) vcl [(h0, .inr (18, [.int 0, .int 0, .ref q_1, .ref q_3, .ref q_5, .int 0, .ref q_7, .int 0, .ref q_9, .ref q_11, .null, .null, .int 0, .int 0, .int 0, .null, .int 0, .int 0, .null, .null])), (q_1, .inl (cA_2, 33, .inl (fun _ => 0))), (q_3, .inl (cA_4, 231, .inl (fun _ => 0))), (q_5, .inl (cA_6, 33, .inl (fun _ => 0))), (q_7, .inl (cA_8, 1799, .inl (fun _ => 0))), (q_9, .inl (cA_10, 20000, .inl (fun _ => 0))), (q_11, .inl (cA_12, 7, .inl (upd (upd (upd (upd (upd (upd (upd (fun _ => 0) 0 277) 1 0) 2 1000) 3 1200) 4 0) 5 0) 6 3))), (q_13, .inl (cA_14, 14, .inl (upd (upd (upd (upd (upd (upd (upd (fun _ => 0) 0 277) 1 0) 2 1000) 3 1200) 4 0) 5 0) 6 3)))] H := hP
  replace hD : va_D A [(h0, .inr (18, [.int 0, .int 0, .ref q_1, .ref q_3, .ref q_5, .int 0, .ref q_7, .int 0, .ref q_9, .ref q_11, .null, .null, .int 0, .int 0, .int 0, .null, .int 0, .int 0, .null, .null])), (q_1, .inl (cA_2, 33, .inl (fun _ => 0))), (q_3, .inl (cA_4, 231, .inl (fun _ => 0))), (q_5, .inl (cA_6, 33, .inl (fun _ => 0))), (q_7, .inl (cA_8, 1799, .inl (fun _ => 0))), (q_9, .inl (cA_10, 20000, .inl (fun _ => 0))), (q_11, .inl (cA_12, 7, .inl (upd (upd (upd (upd (upd (upd (upd (fun _ => 0) 0 277) 1 0) 2 1000) 3 1200) 4 0) 5 0) 6 3))), (q_13, .inl (cA_14, 14, .inl (upd (upd (upd (upd (upd (upd (upd (fun _ => 0) 0 277) 1 0) 2 1000) 3 1200) 4 0) 5 0) 6 3)))] := hD
  refine lv_dup hx hb d_mShelf_init_130 rfl ?_
  refine lv_bipush (v := 7) hx hb d_mShelf_init_131 (by decide) ?_
  refine lv_sipush (v := 277) hx hb d_mShelf_init_133 (by decide) ?_
  refine va_iast hx hb hK hP hD hS 7 6 rfl rfl (show ¬ ((7 : Int32) < 0 ∨ 14 ≤ (7 : Int32).toNatClampNeg) by decide) d_mShelf_init_136 ?_
  clear hP hD hS
  intro H locs hP hD hS
  rw [show (7 : Int32).toNatClampNeg = 7 by decide] at hP hD
  replace hP : va_P (dC, dI) vcl [(h0, .inr (18, [.int 0, .int 0, .ref q_1, .ref q_3, .ref q_5, .int 0, .ref q_7, .int 0, .ref q_9, .ref q_11, .null, .null, .int 0, .int 0, .int 0, .null, .int 0, .int 0, .null, .null])), (q_1, .inl (cA_2, 33, .inl (fun _ => 0))), (q_3, .inl (cA_4, 231, .inl (fun _ => 0))), (q_5, .inl (cA_6, 33, .inl (fun _ => 0))), (q_7, .inl (cA_8, 1799, .inl (fun _ => 0))), (q_9, .inl (cA_10, 20000, .inl (fun _ => 0))), (q_11, .inl (cA_12, 7, .inl (upd (upd (upd (upd (upd (upd (upd (fun _ => 0) 0 277) 1 0) 2 1000) 3 1200) 4 0) 5 0) 6 3))), (q_13, .inl (cA_14, 14, .inl (upd (upd (upd (upd (upd (upd (upd (upd (fun _ => 0) 0 277) 1 0) 2 1000) 3 1200) 4 0) 5 0) 6 3) 7 277)))] H := hP
  replace hD : va_D A [(h0, .inr (18, [.int 0, .int 0, .ref q_1, .ref q_3, .ref q_5, .int 0, .ref q_7, .int 0, .ref q_9, .ref q_11, .null, .null, .int 0, .int 0, .int 0, .null, .int 0, .int 0, .null, .null])), (q_1, .inl (cA_2, 33, .inl (fun _ => 0))), (q_3, .inl (cA_4, 231, .inl (fun _ => 0))), (q_5, .inl (cA_6, 33, .inl (fun _ => 0))), (q_7, .inl (cA_8, 1799, .inl (fun _ => 0))), (q_9, .inl (cA_10, 20000, .inl (fun _ => 0))), (q_11, .inl (cA_12, 7, .inl (upd (upd (upd (upd (upd (upd (upd (fun _ => 0) 0 277) 1 0) 2 1000) 3 1200) 4 0) 5 0) 6 3))), (q_13, .inl (cA_14, 14, .inl (upd (upd (upd (upd (upd (upd (upd (upd (fun _ => 0) 0 277) 1 0) 2 1000) 3 1200) 4 0) 5 0) 6 3) 7 277)))] := hD
  refine lv_dup hx hb d_mShelf_init_137 rfl ?_
  refine lv_bipush (v := 8) hx hb d_mShelf_init_138 (by decide) ?_
  refine lv_iconst (v := 0) hx hb d_mShelf_init_140 (by decide) ?_
  refine va_iast hx hb hK hP hD hS 7 6 rfl rfl (show ¬ ((8 : Int32) < 0 ∨ 14 ≤ (8 : Int32).toNatClampNeg) by decide) d_mShelf_init_141 ?_
  clear hP hD hS
  intro H locs hP hD hS
  rw [show (8 : Int32).toNatClampNeg = 8 by decide] at hP hD
  replace hP : va_P (dC, dI) vcl [(h0, .inr (18, [.int 0, .int 0, .ref q_1, .ref q_3, .ref q_5, .int 0, .ref q_7, .int 0, .ref q_9, .ref q_11, .null, .null, .int 0, .int 0, .int 0, .null, .int 0, .int 0, .null, .null])), (q_1, .inl (cA_2, 33, .inl (fun _ => 0))), (q_3, .inl (cA_4, 231, .inl (fun _ => 0))), (q_5, .inl (cA_6, 33, .inl (fun _ => 0))), (q_7, .inl (cA_8, 1799, .inl (fun _ => 0))), (q_9, .inl (cA_10, 20000, .inl (fun _ => 0))), (q_11, .inl (cA_12, 7, .inl (upd (upd (upd (upd (upd (upd (upd (fun _ => 0) 0 277) 1 0) 2 1000) 3 1200) 4 0) 5 0) 6 3))), (q_13, .inl (cA_14, 14, .inl (upd (upd (upd (upd (upd (upd (upd (upd (upd (fun _ => 0) 0 277) 1 0) 2 1000) 3 1200) 4 0) 5 0) 6 3) 7 277) 8 0)))] H := hP
  replace hD : va_D A [(h0, .inr (18, [.int 0, .int 0, .ref q_1, .ref q_3, .ref q_5, .int 0, .ref q_7, .int 0, .ref q_9, .ref q_11, .null, .null, .int 0, .int 0, .int 0, .null, .int 0, .int 0, .null, .null])), (q_1, .inl (cA_2, 33, .inl (fun _ => 0))), (q_3, .inl (cA_4, 231, .inl (fun _ => 0))), (q_5, .inl (cA_6, 33, .inl (fun _ => 0))), (q_7, .inl (cA_8, 1799, .inl (fun _ => 0))), (q_9, .inl (cA_10, 20000, .inl (fun _ => 0))), (q_11, .inl (cA_12, 7, .inl (upd (upd (upd (upd (upd (upd (upd (fun _ => 0) 0 277) 1 0) 2 1000) 3 1200) 4 0) 5 0) 6 3))), (q_13, .inl (cA_14, 14, .inl (upd (upd (upd (upd (upd (upd (upd (upd (upd (fun _ => 0) 0 277) 1 0) 2 1000) 3 1200) 4 0) 5 0) 6 3) 7 277) 8 0)))] := hD
  refine lv_dup hx hb d_mShelf_init_142 rfl ?_
  refine lv_bipush (v := 9) hx hb d_mShelf_init_143 (by decide) ?_
  refine lv_sipush (v := 1000) hx hb d_mShelf_init_145 (by decide) ?_
  refine va_iast hx hb hK hP hD hS 7 6 rfl rfl (show ¬ ((9 : Int32) < 0 ∨ 14 ≤ (9 : Int32).toNatClampNeg) by decide) d_mShelf_init_148 ?_
  clear hP hD hS
  intro H locs hP hD hS
  rw [show (9 : Int32).toNatClampNeg = 9 by decide] at hP hD
  replace hP : va_P (dC, dI) vcl [(h0, .inr (18, [.int 0, .int 0, .ref q_1, .ref q_3, .ref q_5, .int 0, .ref q_7, .int 0, .ref q_9, .ref q_11, .null, .null, .int 0, .int 0, .int 0, .null, .int 0, .int 0, .null, .null])), (q_1, .inl (cA_2, 33, .inl (fun _ => 0))), (q_3, .inl (cA_4, 231, .inl (fun _ => 0))), (q_5, .inl (cA_6, 33, .inl (fun _ => 0))), (q_7, .inl (cA_8, 1799, .inl (fun _ => 0))), (q_9, .inl (cA_10, 20000, .inl (fun _ => 0))), (q_11, .inl (cA_12, 7, .inl (upd (upd (upd (upd (upd (upd (upd (fun _ => 0) 0 277) 1 0) 2 1000) 3 1200) 4 0) 5 0) 6 3))), (q_13, .inl (cA_14, 14, .inl (upd (upd (upd (upd (upd (upd (upd (upd (upd (upd (fun _ => 0) 0 277) 1 0) 2 1000) 3 1200) 4 0) 5 0) 6 3) 7 277) 8 0) 9 1000)))] H := hP
  replace hD : va_D A [(h0, .inr (18, [.int 0, .int 0, .ref q_1, .ref q_3, .ref q_5, .int 0, .ref q_7, .int 0, .ref q_9, .ref q_11, .null, .null, .int 0, .int 0, .int 0, .null, .int 0, .int 0, .null, .null])), (q_1, .inl (cA_2, 33, .inl (fun _ => 0))), (q_3, .inl (cA_4, 231, .inl (fun _ => 0))), (q_5, .inl (cA_6, 33, .inl (fun _ => 0))), (q_7, .inl (cA_8, 1799, .inl (fun _ => 0))), (q_9, .inl (cA_10, 20000, .inl (fun _ => 0))), (q_11, .inl (cA_12, 7, .inl (upd (upd (upd (upd (upd (upd (upd (fun _ => 0) 0 277) 1 0) 2 1000) 3 1200) 4 0) 5 0) 6 3))), (q_13, .inl (cA_14, 14, .inl (upd (upd (upd (upd (upd (upd (upd (upd (upd (upd (fun _ => 0) 0 277) 1 0) 2 1000) 3 1200) 4 0) 5 0) 6 3) 7 277) 8 0) 9 1000)))] := hD
  refine lv_dup hx hb d_mShelf_init_149 rfl ?_
  refine lv_bipush (v := 10) hx hb d_mShelf_init_150 (by decide) ?_
  refine lv_sipush (v := 1200) hx hb d_mShelf_init_152 (by decide) ?_
  refine va_iast hx hb hK hP hD hS 7 6 rfl rfl (show ¬ ((10 : Int32) < 0 ∨ 14 ≤ (10 : Int32).toNatClampNeg) by decide) d_mShelf_init_155 ?_
  clear hP hD hS
  intro H locs hP hD hS
  rw [show (10 : Int32).toNatClampNeg = 10 by decide] at hP hD
  replace hP : va_P (dC, dI) vcl [(h0, .inr (18, [.int 0, .int 0, .ref q_1, .ref q_3, .ref q_5, .int 0, .ref q_7, .int 0, .ref q_9, .ref q_11, .null, .null, .int 0, .int 0, .int 0, .null, .int 0, .int 0, .null, .null])), (q_1, .inl (cA_2, 33, .inl (fun _ => 0))), (q_3, .inl (cA_4, 231, .inl (fun _ => 0))), (q_5, .inl (cA_6, 33, .inl (fun _ => 0))), (q_7, .inl (cA_8, 1799, .inl (fun _ => 0))), (q_9, .inl (cA_10, 20000, .inl (fun _ => 0))), (q_11, .inl (cA_12, 7, .inl (upd (upd (upd (upd (upd (upd (upd (fun _ => 0) 0 277) 1 0) 2 1000) 3 1200) 4 0) 5 0) 6 3))), (q_13, .inl (cA_14, 14, .inl (upd (upd (upd (upd (upd (upd (upd (upd (upd (upd (upd (fun _ => 0) 0 277) 1 0) 2 1000) 3 1200) 4 0) 5 0) 6 3) 7 277) 8 0) 9 1000) 10 1200)))] H := hP
  replace hD : va_D A [(h0, .inr (18, [.int 0, .int 0, .ref q_1, .ref q_3, .ref q_5, .int 0, .ref q_7, .int 0, .ref q_9, .ref q_11, .null, .null, .int 0, .int 0, .int 0, .null, .int 0, .int 0, .null, .null])), (q_1, .inl (cA_2, 33, .inl (fun _ => 0))), (q_3, .inl (cA_4, 231, .inl (fun _ => 0))), (q_5, .inl (cA_6, 33, .inl (fun _ => 0))), (q_7, .inl (cA_8, 1799, .inl (fun _ => 0))), (q_9, .inl (cA_10, 20000, .inl (fun _ => 0))), (q_11, .inl (cA_12, 7, .inl (upd (upd (upd (upd (upd (upd (upd (fun _ => 0) 0 277) 1 0) 2 1000) 3 1200) 4 0) 5 0) 6 3))), (q_13, .inl (cA_14, 14, .inl (upd (upd (upd (upd (upd (upd (upd (upd (upd (upd (upd (fun _ => 0) 0 277) 1 0) 2 1000) 3 1200) 4 0) 5 0) 6 3) 7 277) 8 0) 9 1000) 10 1200)))] := hD
  refine lv_dup hx hb d_mShelf_init_156 rfl ?_
  refine lv_bipush (v := 11) hx hb d_mShelf_init_157 (by decide) ?_
  refine lv_iconst (v := 0) hx hb d_mShelf_init_159 (by decide) ?_
  refine va_iast hx hb hK hP hD hS 7 6 rfl rfl (show ¬ ((11 : Int32) < 0 ∨ 14 ≤ (11 : Int32).toNatClampNeg) by decide) d_mShelf_init_160 ?_
  clear hP hD hS
  intro H locs hP hD hS
  rw [show (11 : Int32).toNatClampNeg = 11 by decide] at hP hD
  replace hP : va_P (dC, dI) vcl [(h0, .inr (18, [.int 0, .int 0, .ref q_1, .ref q_3, .ref q_5, .int 0, .ref q_7, .int 0, .ref q_9, .ref q_11, .null, .null, .int 0, .int 0, .int 0, .null, .int 0, .int 0, .null, .null])), (q_1, .inl (cA_2, 33, .inl (fun _ => 0))), (q_3, .inl (cA_4, 231, .inl (fun _ => 0))), (q_5, .inl (cA_6, 33, .inl (fun _ => 0))), (q_7, .inl (cA_8, 1799, .inl (fun _ => 0))), (q_9, .inl (cA_10, 20000, .inl (fun _ => 0))), (q_11, .inl (cA_12, 7, .inl (upd (upd (upd (upd (upd (upd (upd (fun _ => 0) 0 277) 1 0) 2 1000) 3 1200) 4 0) 5 0) 6 3))), (q_13, .inl (cA_14, 14, .inl (upd (upd (upd (upd (upd (upd (upd (upd (upd (upd (upd (upd (fun _ => 0) 0 277) 1 0) 2 1000) 3 1200) 4 0) 5 0) 6 3) 7 277) 8 0) 9 1000) 10 1200) 11 0)))] H := hP
  replace hD : va_D A [(h0, .inr (18, [.int 0, .int 0, .ref q_1, .ref q_3, .ref q_5, .int 0, .ref q_7, .int 0, .ref q_9, .ref q_11, .null, .null, .int 0, .int 0, .int 0, .null, .int 0, .int 0, .null, .null])), (q_1, .inl (cA_2, 33, .inl (fun _ => 0))), (q_3, .inl (cA_4, 231, .inl (fun _ => 0))), (q_5, .inl (cA_6, 33, .inl (fun _ => 0))), (q_7, .inl (cA_8, 1799, .inl (fun _ => 0))), (q_9, .inl (cA_10, 20000, .inl (fun _ => 0))), (q_11, .inl (cA_12, 7, .inl (upd (upd (upd (upd (upd (upd (upd (fun _ => 0) 0 277) 1 0) 2 1000) 3 1200) 4 0) 5 0) 6 3))), (q_13, .inl (cA_14, 14, .inl (upd (upd (upd (upd (upd (upd (upd (upd (upd (upd (upd (upd (fun _ => 0) 0 277) 1 0) 2 1000) 3 1200) 4 0) 5 0) 6 3) 7 277) 8 0) 9 1000) 10 1200) 11 0)))] := hD
  refine lv_dup hx hb d_mShelf_init_161 rfl ?_
  refine lv_bipush (v := 12) hx hb d_mShelf_init_162 (by decide) ?_
  refine lv_iconst (v := 0) hx hb d_mShelf_init_164 (by decide) ?_
  refine va_iast hx hb hK hP hD hS 7 6 rfl rfl (show ¬ ((12 : Int32) < 0 ∨ 14 ≤ (12 : Int32).toNatClampNeg) by decide) d_mShelf_init_165 ?_
  clear hP hD hS
  intro H locs hP hD hS
  rw [show (12 : Int32).toNatClampNeg = 12 by decide] at hP hD
  replace hP : va_P (dC, dI) vcl [(h0, .inr (18, [.int 0, .int 0, .ref q_1, .ref q_3, .ref q_5, .int 0, .ref q_7, .int 0, .ref q_9, .ref q_11, .null, .null, .int 0, .int 0, .int 0, .null, .int 0, .int 0, .null, .null])), (q_1, .inl (cA_2, 33, .inl (fun _ => 0))), (q_3, .inl (cA_4, 231, .inl (fun _ => 0))), (q_5, .inl (cA_6, 33, .inl (fun _ => 0))), (q_7, .inl (cA_8, 1799, .inl (fun _ => 0))), (q_9, .inl (cA_10, 20000, .inl (fun _ => 0))), (q_11, .inl (cA_12, 7, .inl (upd (upd (upd (upd (upd (upd (upd (fun _ => 0) 0 277) 1 0) 2 1000) 3 1200) 4 0) 5 0) 6 3))), (q_13, .inl (cA_14, 14, .inl (upd (upd (upd (upd (upd (upd (upd (upd (upd (upd (upd (upd (upd (fun _ => 0) 0 277) 1 0) 2 1000) 3 1200) 4 0) 5 0) 6 3) 7 277) 8 0) 9 1000) 10 1200) 11 0) 12 0)))] H := hP
  replace hD : va_D A [(h0, .inr (18, [.int 0, .int 0, .ref q_1, .ref q_3, .ref q_5, .int 0, .ref q_7, .int 0, .ref q_9, .ref q_11, .null, .null, .int 0, .int 0, .int 0, .null, .int 0, .int 0, .null, .null])), (q_1, .inl (cA_2, 33, .inl (fun _ => 0))), (q_3, .inl (cA_4, 231, .inl (fun _ => 0))), (q_5, .inl (cA_6, 33, .inl (fun _ => 0))), (q_7, .inl (cA_8, 1799, .inl (fun _ => 0))), (q_9, .inl (cA_10, 20000, .inl (fun _ => 0))), (q_11, .inl (cA_12, 7, .inl (upd (upd (upd (upd (upd (upd (upd (fun _ => 0) 0 277) 1 0) 2 1000) 3 1200) 4 0) 5 0) 6 3))), (q_13, .inl (cA_14, 14, .inl (upd (upd (upd (upd (upd (upd (upd (upd (upd (upd (upd (upd (upd (fun _ => 0) 0 277) 1 0) 2 1000) 3 1200) 4 0) 5 0) 6 3) 7 277) 8 0) 9 1000) 10 1200) 11 0) 12 0)))] := hD
  refine lv_dup hx hb d_mShelf_init_166 rfl ?_
  refine lv_bipush (v := 13) hx hb d_mShelf_init_167 (by decide) ?_
  refine lv_iconst (v := 3) hx hb d_mShelf_init_169 (by decide) ?_
  refine va_iast hx hb hK hP hD hS 7 6 rfl rfl (show ¬ ((13 : Int32) < 0 ∨ 14 ≤ (13 : Int32).toNatClampNeg) by decide) d_mShelf_init_170 ?_
  clear hP hD hS
  intro H locs hP hD hS
  rw [show (13 : Int32).toNatClampNeg = 13 by decide] at hP hD
  replace hP : va_P (dC, dI) vcl [(h0, .inr (18, [.int 0, .int 0, .ref q_1, .ref q_3, .ref q_5, .int 0, .ref q_7, .int 0, .ref q_9, .ref q_11, .null, .null, .int 0, .int 0, .int 0, .null, .int 0, .int 0, .null, .null])), (q_1, .inl (cA_2, 33, .inl (fun _ => 0))), (q_3, .inl (cA_4, 231, .inl (fun _ => 0))), (q_5, .inl (cA_6, 33, .inl (fun _ => 0))), (q_7, .inl (cA_8, 1799, .inl (fun _ => 0))), (q_9, .inl (cA_10, 20000, .inl (fun _ => 0))), (q_11, .inl (cA_12, 7, .inl (upd (upd (upd (upd (upd (upd (upd (fun _ => 0) 0 277) 1 0) 2 1000) 3 1200) 4 0) 5 0) 6 3))), (q_13, .inl (cA_14, 14, .inl (upd (upd (upd (upd (upd (upd (upd (upd (upd (upd (upd (upd (upd (upd (fun _ => 0) 0 277) 1 0) 2 1000) 3 1200) 4 0) 5 0) 6 3) 7 277) 8 0) 9 1000) 10 1200) 11 0) 12 0) 13 3)))] H := hP
  replace hD : va_D A [(h0, .inr (18, [.int 0, .int 0, .ref q_1, .ref q_3, .ref q_5, .int 0, .ref q_7, .int 0, .ref q_9, .ref q_11, .null, .null, .int 0, .int 0, .int 0, .null, .int 0, .int 0, .null, .null])), (q_1, .inl (cA_2, 33, .inl (fun _ => 0))), (q_3, .inl (cA_4, 231, .inl (fun _ => 0))), (q_5, .inl (cA_6, 33, .inl (fun _ => 0))), (q_7, .inl (cA_8, 1799, .inl (fun _ => 0))), (q_9, .inl (cA_10, 20000, .inl (fun _ => 0))), (q_11, .inl (cA_12, 7, .inl (upd (upd (upd (upd (upd (upd (upd (fun _ => 0) 0 277) 1 0) 2 1000) 3 1200) 4 0) 5 0) 6 3))), (q_13, .inl (cA_14, 14, .inl (upd (upd (upd (upd (upd (upd (upd (upd (upd (upd (upd (upd (upd (upd (fun _ => 0) 0 277) 1 0) 2 1000) 3 1200) 4 0) 5 0) 6 3) 7 277) 8 0) 9 1000) 10 1200) 11 0) 12 0) 13 3)))] := hD
  refine va_putF (D := (dC, dI)) (ci := 18) (v := .ref q_13) (ty := (.array .int)) (C := R_mShelf) (T := F_mShelf) (N := 20) hx hb hwd i_mShelf t_mShelf to_mShelf no_mShelf hown hK hP hD hS 0 rfl rfl 10 (by decide) (hwd _ wd_9_219) (fun _ h9 => h9) rfl hin rfl (by decide +kernel) rfl rfl (Nat.le_of_ble_eq_true rfl) d_mShelf_init_171 ?_
  clear hP hD hS
  intro H locs hP hD hS
  replace hP : va_P (dC, dI) vcl [(h0, .inr (18, [.int 0, .int 0, .ref q_1, .ref q_3, .ref q_5, .int 0, .ref q_7, .int 0, .ref q_9, .ref q_11, .ref q_13, .null, .int 0, .int 0, .int 0, .null, .int 0, .int 0, .null, .null])), (q_1, .inl (cA_2, 33, .inl (fun _ => 0))), (q_3, .inl (cA_4, 231, .inl (fun _ => 0))), (q_5, .inl (cA_6, 33, .inl (fun _ => 0))), (q_7, .inl (cA_8, 1799, .inl (fun _ => 0))), (q_9, .inl (cA_10, 20000, .inl (fun _ => 0))), (q_11, .inl (cA_12, 7, .inl (upd (upd (upd (upd (upd (upd (upd (fun _ => 0) 0 277) 1 0) 2 1000) 3 1200) 4 0) 5 0) 6 3))), (q_13, .inl (cA_14, 14, .inl (upd (upd (upd (upd (upd (upd (upd (upd (upd (upd (upd (upd (upd (upd (fun _ => 0) 0 277) 1 0) 2 1000) 3 1200) 4 0) 5 0) 6 3) 7 277) 8 0) 9 1000) 10 1200) 11 0) 12 0) 13 3)))] H := hP
  replace hD : va_D A [(h0, .inr (18, [.int 0, .int 0, .ref q_1, .ref q_3, .ref q_5, .int 0, .ref q_7, .int 0, .ref q_9, .ref q_11, .ref q_13, .null, .int 0, .int 0, .int 0, .null, .int 0, .int 0, .null, .null])), (q_1, .inl (cA_2, 33, .inl (fun _ => 0))), (q_3, .inl (cA_4, 231, .inl (fun _ => 0))), (q_5, .inl (cA_6, 33, .inl (fun _ => 0))), (q_7, .inl (cA_8, 1799, .inl (fun _ => 0))), (q_9, .inl (cA_10, 20000, .inl (fun _ => 0))), (q_11, .inl (cA_12, 7, .inl (upd (upd (upd (upd (upd (upd (upd (fun _ => 0) 0 277) 1 0) 2 1000) 3 1200) 4 0) 5 0) 6 3))), (q_13, .inl (cA_14, 14, .inl (upd (upd (upd (upd (upd (upd (upd (upd (upd (upd (upd (upd (upd (upd (fun _ => 0) 0 277) 1 0) 2 1000) 3 1200) 4 0) 5 0) 6 3) 7 277) 8 0) 9 1000) 10 1200) 11 0) 12 0) 13 3)))] := hD
  refine lv_aload_n hx hb d_mShelf_init_174 rfl (lv_at hl 0 rfl) ?_
  refine lv_iconst (v := 2) hx hb d_mShelf_init_175 (by decide) ?_
  refine va_newa (atype := .int) (N' := 2) (a0 := (2, .inl (fun _ => 0))) (ty := .int) (n := 2) hx hb (hwd _ wd_1_167) rfl hK hP hD hS hA (fun _ => rfl) (by decide) (by decide) (by decide) (Nat.le_of_ble_eq_true rfl) (Nat.le_of_ble_eq_true rfl) d_mShelf_init_176 ?_
  clear hP hD hS hK
  intro q_15 cA_16 H hK hP hD hS
  replace hP : va_P (dC, dI) vcl [(h0, .inr (18, [.int 0, .int 0, .ref q_1, .ref q_3, .ref q_5, .int 0, .ref q_7, .int 0, .ref q_9, .ref q_11, .ref q_13, .null, .int 0, .int 0, .int 0, .null, .int 0, .int 0, .null, .null])), (q_1, .inl (cA_2, 33, .inl (fun _ => 0))), (q_3, .inl (cA_4, 231, .inl (fun _ => 0))), (q_5, .inl (cA_6, 33, .inl (fun _ => 0))), (q_7, .inl (cA_8, 1799, .inl (fun _ => 0))), (q_9, .inl (cA_10, 20000, .inl (fun _ => 0))), (q_11, .inl (cA_12, 7, .inl (upd (upd (upd (upd (upd (upd (upd (fun _ => 0) 0 277) 1 0) 2 1000) 3 1200) 4 0) 5 0) 6 3))), (q_13, .inl (cA_14, 14, .inl (upd (upd (upd (upd (upd (upd (upd (upd (upd (upd (upd (upd (upd (upd (fun _ => 0) 0 277) 1 0) 2 1000) 3 1200) 4 0) 5 0) 6 3) 7 277) 8 0) 9 1000) 10 1200) 11 0) 12 0) 13 3))), (q_15, .inl (cA_16, 2, .inl (fun _ => 0)))] H := hP
  replace hD : va_D A [(h0, .inr (18, [.int 0, .int 0, .ref q_1, .ref q_3, .ref q_5, .int 0, .ref q_7, .int 0, .ref q_9, .ref q_11, .ref q_13, .null, .int 0, .int 0, .int 0, .null, .int 0, .int 0, .null, .null])), (q_1, .inl (cA_2, 33, .inl (fun _ => 0))), (q_3, .inl (cA_4, 231, .inl (fun _ => 0))), (q_5, .inl (cA_6, 33, .inl (fun _ => 0))), (q_7, .inl (cA_8, 1799, .inl (fun _ => 0))), (q_9, .inl (cA_10, 20000, .inl (fun _ => 0))), (q_11, .inl (cA_12, 7, .inl (upd (upd (upd (upd (upd (upd (upd (fun _ => 0) 0 277) 1 0) 2 1000) 3 1200) 4 0) 5 0) 6 3))), (q_13, .inl (cA_14, 14, .inl (upd (upd (upd (upd (upd (upd (upd (upd (upd (upd (upd (upd (upd (upd (fun _ => 0) 0 277) 1 0) 2 1000) 3 1200) 4 0) 5 0) 6 3) 7 277) 8 0) 9 1000) 10 1200) 11 0) 12 0) 13 3))), (q_15, .inl (cA_16, 2, .inl (fun _ => 0)))] := hD
  replace hK : va_K (dC, dI) vcl [(cA_2, .int), (cA_4, .int), (cA_6, .boolean), (cA_8, .int), (cA_10, .byte), (cA_12, .int), (cA_14, .int), (cA_16, .int)] s := hK
  refine W.widen (k := 8) (n := 22119) (by decide) (by decide) ?_
  refine lv_dup hx hb d_mShelf_init_178 rfl ?_
  refine lv_iconst (v := 0) hx hb d_mShelf_init_179 (by decide) ?_
  refine lv_iconst (v := (-1)) hx hb d_mShelf_init_180 (by decide) ?_
  refine va_iast hx hb hK hP hD hS 8 7 rfl rfl (show ¬ ((0 : Int32) < 0 ∨ 2 ≤ (0 : Int32).toNatClampNeg) by decide) d_mShelf_init_181 ?_
  clear hP hD hS
  intro H locs hP hD hS
  rw [show (0 : Int32).toNatClampNeg = 0 by decide] at hP hD
  replace hP : va_P (dC, dI) vcl [(h0, .inr (18, [.int 0, .int 0, .ref q_1, .ref q_3, .ref q_5, .int 0, .ref q_7, .int 0, .ref q_9, .ref q_11, .ref q_13, .null, .int 0, .int 0, .int 0, .null, .int 0, .int 0, .null, .null])), (q_1, .inl (cA_2, 33, .inl (fun _ => 0))), (q_3, .inl (cA_4, 231, .inl (fun _ => 0))), (q_5, .inl (cA_6, 33, .inl (fun _ => 0))), (q_7, .inl (cA_8, 1799, .inl (fun _ => 0))), (q_9, .inl (cA_10, 20000, .inl (fun _ => 0))), (q_11, .inl (cA_12, 7, .inl (upd (upd (upd (upd (upd (upd (upd (fun _ => 0) 0 277) 1 0) 2 1000) 3 1200) 4 0) 5 0) 6 3))), (q_13, .inl (cA_14, 14, .inl (upd (upd (upd (upd (upd (upd (upd (upd (upd (upd (upd (upd (upd (upd (fun _ => 0) 0 277) 1 0) 2 1000) 3 1200) 4 0) 5 0) 6 3) 7 277) 8 0) 9 1000) 10 1200) 11 0) 12 0) 13 3))), (q_15, .inl (cA_16, 2, .inl (upd (fun _ => 0) 0 (-1))))] H := hP
  replace hD : va_D A [(h0, .inr (18, [.int 0, .int 0, .ref q_1, .ref q_3, .ref q_5, .int 0, .ref q_7, .int 0, .ref q_9, .ref q_11, .ref q_13, .null, .int 0, .int 0, .int 0, .null, .int 0, .int 0, .null, .null])), (q_1, .inl (cA_2, 33, .inl (fun _ => 0))), (q_3, .inl (cA_4, 231, .inl (fun _ => 0))), (q_5, .inl (cA_6, 33, .inl (fun _ => 0))), (q_7, .inl (cA_8, 1799, .inl (fun _ => 0))), (q_9, .inl (cA_10, 20000, .inl (fun _ => 0))), (q_11, .inl (cA_12, 7, .inl (upd (upd (upd (upd (upd (upd (upd (fun _ => 0) 0 277) 1 0) 2 1000) 3 1200) 4 0) 5 0) 6 3))), (q_13, .inl (cA_14, 14, .inl (upd (upd (upd (upd (upd (upd (upd (upd (upd (upd (upd (upd (upd (upd (fun _ => 0) 0 277) 1 0) 2 1000) 3 1200) 4 0) 5 0) 6 3) 7 277) 8 0) 9 1000) 10 1200) 11 0) 12 0) 13 3))), (q_15, .inl (cA_16, 2, .inl (upd (fun _ => 0) 0 (-1))))] := hD
  refine lv_dup hx hb d_mShelf_init_182 rfl ?_
  refine lv_iconst (v := 1) hx hb d_mShelf_init_183 (by decide) ?_
  refine lv_iconst (v := (-1)) hx hb d_mShelf_init_184 (by decide) ?_
  refine va_iast hx hb hK hP hD hS 8 7 rfl rfl (show ¬ ((1 : Int32) < 0 ∨ 2 ≤ (1 : Int32).toNatClampNeg) by decide) d_mShelf_init_185 ?_
  clear hP hD hS
  intro H locs hP hD hS
  rw [show (1 : Int32).toNatClampNeg = 1 by decide] at hP hD
  replace hP : va_P (dC, dI) vcl [(h0, .inr (18, [.int 0, .int 0, .ref q_1, .ref q_3, .ref q_5, .int 0, .ref q_7, .int 0, .ref q_9, .ref q_11, .ref q_13, .null, .int 0, .int 0, .int 0, .null, .int 0, .int 0, .null, .null])), (q_1, .inl (cA_2, 33, .inl (fun _ => 0))), (q_3, .inl (cA_4, 231, .inl (fun _ => 0))), (q_5, .inl (cA_6, 33, .inl (fun _ => 0))), (q_7, .inl (cA_8, 1799, .inl (fun _ => 0))), (q_9, .inl (cA_10, 20000, .inl (fun _ => 0))), (q_11, .inl (cA_12, 7, .inl (upd (upd (upd (upd (upd (upd (upd (fun _ => 0) 0 277) 1 0) 2 1000) 3 1200) 4 0) 5 0) 6 3))), (q_13, .inl (cA_14, 14, .inl (upd (upd (upd (upd (upd (upd (upd (upd (upd (upd (upd (upd (upd (upd (fun _ => 0) 0 277) 1 0) 2 1000) 3 1200) 4 0) 5 0) 6 3) 7 277) 8 0) 9 1000) 10 1200) 11 0) 12 0) 13 3))), (q_15, .inl (cA_16, 2, .inl (upd (upd (fun _ => 0) 0 (-1)) 1 (-1))))] H := hP
  replace hD : va_D A [(h0, .inr (18, [.int 0, .int 0, .ref q_1, .ref q_3, .ref q_5, .int 0, .ref q_7, .int 0, .ref q_9, .ref q_11, .ref q_13, .null, .int 0, .int 0, .int 0, .null, .int 0, .int 0, .null, .null])), (q_1, .inl (cA_2, 33, .inl (fun _ => 0))), (q_3, .inl (cA_4, 231, .inl (fun _ => 0))), (q_5, .inl (cA_6, 33, .inl (fun _ => 0))), (q_7, .inl (cA_8, 1799, .inl (fun _ => 0))), (q_9, .inl (cA_10, 20000, .inl (fun _ => 0))), (q_11, .inl (cA_12, 7, .inl (upd (upd (upd (upd (upd (upd (upd (fun _ => 0) 0 277) 1 0) 2 1000) 3 1200) 4 0) 5 0) 6 3))), (q_13, .inl (cA_14, 14, .inl (upd (upd (upd (upd (upd (upd (upd (upd (upd (upd (upd (upd (upd (upd (fun _ => 0) 0 277) 1 0) 2 1000) 3 1200) 4 0) 5 0) 6 3) 7 277) 8 0) 9 1000) 10 1200) 11 0) 12 0) 13 3))), (q_15, .inl (cA_16, 2, .inl (upd (upd (fun _ => 0) 0 (-1)) 1 (-1))))] := hD
  refine va_putF (D := (dC, dI)) (ci := 18) (v := .ref q_15) (ty := (.array .int)) (C := R_mShelf) (T := F_mShelf) (N := 20) hx hb hwd i_mShelf t_mShelf to_mShelf no_mShelf hown hK hP hD hS 0 rfl rfl 11 (by decide) (hwd _ wd_9_220) (fun _ h9 => h9) rfl hin rfl (by decide +kernel) rfl rfl (Nat.le_of_ble_eq_true rfl) d_mShelf_init_186 ?_
  clear hP hD hS
  intro H locs hP hD hS
  replace hP : va_P (dC, dI) vcl [(h0, .inr (18, [.int 0, .int 0, .ref q_1, .ref q_3, .ref q_5, .int 0, .ref q_7, .int 0, .ref q_9, .ref q_11, .ref q_13, .ref q_15, .int 0, .int 0, .int 0, .null, .int 0, .int 0, .null, .null])), (q_1, .inl (cA_2, 33, .inl (fun _ => 0))), (q_3, .inl (cA_4, 231, .inl (fun _ => 0))), (q_5, .inl (cA_6, 33, .inl (fun _ => 0))), (q_7, .inl (cA_8, 1799, .inl (fun _ => 0))), (q_9, .inl (cA_10, 20000, .inl (fun _ => 0))), (q_11, .inl (cA_12, 7, .inl (upd (upd (upd (upd (upd (upd (upd (fun _ => 0) 0 277) 1 0) 2 1000) 3 1200) 4 0) 5 0) 6 3))), (q_13, .inl (cA_14, 14, .inl (upd (upd (upd (upd (upd (upd (upd (upd (upd (upd (upd (upd (upd (upd (fun _ => 0) 0 277) 1 0) 2 1000) 3 1200) 4 0) 5 0) 6 3) 7 277) 8 0) 9 1000) 10 1200) 11 0) 12 0) 13 3))), (q_15, .inl (cA_16, 2, .inl (upd (upd (fun _ => 0) 0 (-1)) 1 (-1))))] H := hP
  replace hD : va_D A [(h0, .inr (18, [.int 0, .int 0, .ref q_1, .ref q_3, .ref q_5, .int 0, .ref q_7, .int 0, .ref q_9, .ref q_11, .ref q_13, .ref q_15, .int 0, .int 0, .int 0, .null, .int 0, .int 0, .null, .null])), (q_1, .inl (cA_2, 33, .inl (fun _ => 0))), (q_3, .inl (cA_4, 231, .inl (fun _ => 0))), (q_5, .inl (cA_6, 33, .inl (fun _ => 0))), (q_7, .inl (cA_8, 1799, .inl (fun _ => 0))), (q_9, .inl (cA_10, 20000, .inl (fun _ => 0))), (q_11, .inl (cA_12, 7, .inl (upd (upd (upd (upd (upd (upd (upd (fun _ => 0) 0 277) 1 0) 2 1000) 3 1200) 4 0) 5 0) 6 3))), (q_13, .inl (cA_14, 14, .inl (upd (upd (upd (upd (upd (upd (upd (upd (upd (upd (upd (upd (upd (upd (fun _ => 0) 0 277) 1 0) 2 1000) 3 1200) 4 0) 5 0) 6 3) 7 277) 8 0) 9 1000) 10 1200) 11 0) 12 0) 13 3))), (q_15, .inl (cA_16, 2, .inl (upd (upd (fun _ => 0) 0 (-1)) 1 (-1))))] := hD
  refine lv_aload_n hx hb d_mShelf_init_189 rfl (lv_at hl 0 rfl) ?_
  refine lv_iconst (v := 5) hx hb d_mShelf_init_190 (by decide) ?_
  refine va_newa (atype := .int) (N' := 5) (a0 := (5, .inl (fun _ => 0))) (ty := .int) (n := 5) hx hb (hwd _ wd_1_167) rfl hK hP hD hS hA (fun _ => rfl) (by decide) (by decide) (by decide) (Nat.le_of_ble_eq_true rfl) (Nat.le_of_ble_eq_true rfl) d_mShelf_init_191 ?_
  clear hP hD hS hK
  intro q_17 cA_18 H hK hP hD hS
  replace hP : va_P (dC, dI) vcl [(h0, .inr (18, [.int 0, .int 0, .ref q_1, .ref q_3, .ref q_5, .int 0, .ref q_7, .int 0, .ref q_9, .ref q_11, .ref q_13, .ref q_15, .int 0, .int 0, .int 0, .null, .int 0, .int 0, .null, .null])), (q_1, .inl (cA_2, 33, .inl (fun _ => 0))), (q_3, .inl (cA_4, 231, .inl (fun _ => 0))), (q_5, .inl (cA_6, 33, .inl (fun _ => 0))), (q_7, .inl (cA_8, 1799, .inl (fun _ => 0))), (q_9, .inl (cA_10, 20000, .inl (fun _ => 0))), (q_11, .inl (cA_12, 7, .inl (upd (upd (upd (upd (upd (upd (upd (fun _ => 0) 0 277) 1 0) 2 1000) 3 1200) 4 0) 5 0) 6 3))), (q_13, .inl (cA_14, 14, .inl (upd (upd (upd (upd (upd (upd (upd (upd (upd (upd (upd (upd (upd (upd (fun _ => 0) 0 277) 1 0) 2 1000) 3 1200) 4 0) 5 0) 6 3) 7 277) 8 0) 9 1000) 10 1200) 11 0) 12 0) 13 3))), (q_15, .inl (cA_16, 2, .inl (upd (upd (fun _ => 0) 0 (-1)) 1 (-1)))), (q_17, .inl (cA_18, 5, .inl (fun _ => 0)))] H := hP
  replace hD : va_D A [(h0, .inr (18, [.int 0, .int 0, .ref q_1, .ref q_3, .ref q_5, .int 0, .ref q_7, .int 0, .ref q_9, .ref q_11, .ref q_13, .ref q_15, .int 0, .int 0, .int 0, .null, .int 0, .int 0, .null, .null])), (q_1, .inl (cA_2, 33, .inl (fun _ => 0))), (q_3, .inl (cA_4, 231, .inl (fun _ => 0))), (q_5, .inl (cA_6, 33, .inl (fun _ => 0))), (q_7, .inl (cA_8, 1799, .inl (fun _ => 0))), (q_9, .inl (cA_10, 20000, .inl (fun _ => 0))), (q_11, .inl (cA_12, 7, .inl (upd (upd (upd (upd (upd (upd (upd (fun _ => 0) 0 277) 1 0) 2 1000) 3 1200) 4 0) 5 0) 6 3))), (q_13, .inl (cA_14, 14, .inl (upd (upd (upd (upd (upd (upd (upd (upd (upd (upd (upd (upd (upd (upd (fun _ => 0) 0 277) 1 0) 2 1000) 3 1200) 4 0) 5 0) 6 3) 7 277) 8 0) 9 1000) 10 1200) 11 0) 12 0) 13 3))), (q_15, .inl (cA_16, 2, .inl (upd (upd (fun _ => 0) 0 (-1)) 1 (-1)))), (q_17, .inl (cA_18, 5, .inl (fun _ => 0)))] := hD
  replace hK : va_K (dC, dI) vcl [(cA_2, .int), (cA_4, .int), (cA_6, .boolean), (cA_8, .int), (cA_10, .byte), (cA_12, .int), (cA_14, .int), (cA_16, .int), (cA_18, .int)] s := hK
  refine W.widen (k := 9) (n := 22124) (by decide) (by decide) ?_
  refine va_putF (D := (dC, dI)) (ci := 18) (v := .ref q_17) (ty := (.array .int)) (C := R_mShelf) (T := F_mShelf) (N := 20) hx hb hwd i_mShelf t_mShelf to_mShelf no_mShelf hown hK hP hD hS 0 rfl rfl 15 (by decide) (hwd _ wd_9_224) (fun _ h9 => h9) rfl hin rfl (by decide +kernel) rfl rfl (Nat.le_of_ble_eq_true rfl) d_mShelf_init_193 ?_
  clear hP hD hS
  intro H locs hP hD hS
  replace hP : va_P (dC, dI) vcl [(h0, .inr (18, [.int 0, .int 0, .ref q_1, .ref q_3, .ref q_5, .int 0, .ref q_7, .int 0, .ref q_9, .ref q_11, .ref q_13, .ref q_15, .int 0, .int 0, .int 0, .ref q_17, .int 0, .int 0, .null, .null])), (q_1, .inl (cA_2, 33, .inl (fun _ => 0))), (q_3, .inl (cA_4, 231, .inl (fun _ => 0))), (q_5, .inl (cA_6, 33, .inl (fun _ => 0))), (q_7, .inl (cA_8, 1799, .inl (fun _ => 0))), (q_9, .inl (cA_10, 20000, .inl (fun _ => 0))), (q_11, .inl (cA_12, 7, .inl (upd (upd (upd (upd (upd (upd (upd (fun _ => 0) 0 277) 1 0) 2 1000) 3 1200) 4 0) 5 0) 6 3))), (q_13, .inl (cA_14, 14, .inl (upd (upd (upd (upd (upd (upd (upd (upd (upd (upd (upd (upd (upd (upd (fun _ => 0) 0 277) 1 0) 2 1000) 3 1200) 4 0) 5 0) 6 3) 7 277) 8 0) 9 1000) 10 1200) 11 0) 12 0) 13 3))), (q_15, .inl (cA_16, 2, .inl (upd (upd (fun _ => 0) 0 (-1)) 1 (-1)))), (q_17, .inl (cA_18, 5, .inl (fun _ => 0)))] H := hP
  replace hD : va_D A [(h0, .inr (18, [.int 0, .int 0, .ref q_1, .ref q_3, .ref q_5, .int 0, .ref q_7, .int 0, .ref q_9, .ref q_11, .ref q_13, .ref q_15, .int 0, .int 0, .int 0, .ref q_17, .int 0, .int 0, .null, .null])), (q_1, .inl (cA_2, 33, .inl (fun _ => 0))), (q_3, .inl (cA_4, 231, .inl (fun _ => 0))), (q_5, .inl (cA_6, 33, .inl (fun _ => 0))), (q_7, .inl (cA_8, 1799, .inl (fun _ => 0))), (q_9, .inl (cA_10, 20000, .inl (fun _ => 0))), (q_11, .inl (cA_12, 7, .inl (upd (upd (upd (upd (upd (upd (upd (fun _ => 0) 0 277) 1 0) 2 1000) 3 1200) 4 0) 5 0) 6 3))), (q_13, .inl (cA_14, 14, .inl (upd (upd (upd (upd (upd (upd (upd (upd (upd (upd (upd (upd (upd (upd (fun _ => 0) 0 277) 1 0) 2 1000) 3 1200) 4 0) 5 0) 6 3) 7 277) 8 0) 9 1000) 10 1200) 11 0) 12 0) 13 3))), (q_15, .inl (cA_16, 2, .inl (upd (upd (fun _ => 0) 0 (-1)) 1 (-1)))), (q_17, .inl (cA_18, 5, .inl (fun _ => 0)))] := hD
  refine lv_aload_n hx hb d_mShelf_init_196 rfl (lv_at hl 0 rfl) ?_
  refine lv_sipush (v := 2048) hx hb d_mShelf_init_197 (by decide) ?_
  refine va_newa (atype := .byte) (N' := 2048) (a0 := (2048, .inl (fun _ => 0))) (ty := .byte) (n := 2048) hx hb (hwd _ wd_1_166) rfl hK hP hD hS hA (fun _ => rfl) (by decide) (by decide) (by decide) (Nat.le_of_ble_eq_true rfl) (Nat.le_of_ble_eq_true rfl) d_mShelf_init_200 ?_
  clear hP hD hS hK
  intro q_19 cA_20 H hK hP hD hS
  replace hP : va_P (dC, dI) vcl [(h0, .inr (18, [.int 0, .int 0, .ref q_1, .ref q_3, .ref q_5, .int 0, .ref q_7, .int 0, .ref q_9, .ref q_11, .ref q_13, .ref q_15, .int 0, .int 0, .int 0, .ref q_17, .int 0, .int 0, .null, .null])), (q_1, .inl (cA_2, 33, .inl (fun _ => 0))), (q_3, .inl (cA_4, 231, .inl (fun _ => 0))), (q_5, .inl (cA_6, 33, .inl (fun _ => 0))), (q_7, .inl (cA_8, 1799, .inl (fun _ => 0))), (q_9, .inl (cA_10, 20000, .inl (fun _ => 0))), (q_11, .inl (cA_12, 7, .inl (upd (upd (upd (upd (upd (upd (upd (fun _ => 0) 0 277) 1 0) 2 1000) 3 1200) 4 0) 5 0) 6 3))), (q_13, .inl (cA_14, 14, .inl (upd (upd (upd (upd (upd (upd (upd (upd (upd (upd (upd (upd (upd (upd (fun _ => 0) 0 277) 1 0) 2 1000) 3 1200) 4 0) 5 0) 6 3) 7 277) 8 0) 9 1000) 10 1200) 11 0) 12 0) 13 3))), (q_15, .inl (cA_16, 2, .inl (upd (upd (fun _ => 0) 0 (-1)) 1 (-1)))), (q_17, .inl (cA_18, 5, .inl (fun _ => 0))), (q_19, .inl (cA_20, 2048, .inl (fun _ => 0)))] H := hP
  replace hD : va_D A [(h0, .inr (18, [.int 0, .int 0, .ref q_1, .ref q_3, .ref q_5, .int 0, .ref q_7, .int 0, .ref q_9, .ref q_11, .ref q_13, .ref q_15, .int 0, .int 0, .int 0, .ref q_17, .int 0, .int 0, .null, .null])), (q_1, .inl (cA_2, 33, .inl (fun _ => 0))), (q_3, .inl (cA_4, 231, .inl (fun _ => 0))), (q_5, .inl (cA_6, 33, .inl (fun _ => 0))), (q_7, .inl (cA_8, 1799, .inl (fun _ => 0))), (q_9, .inl (cA_10, 20000, .inl (fun _ => 0))), (q_11, .inl (cA_12, 7, .inl (upd (upd (upd (upd (upd (upd (upd (fun _ => 0) 0 277) 1 0) 2 1000) 3 1200) 4 0) 5 0) 6 3))), (q_13, .inl (cA_14, 14, .inl (upd (upd (upd (upd (upd (upd (upd (upd (upd (upd (upd (upd (upd (upd (fun _ => 0) 0 277) 1 0) 2 1000) 3 1200) 4 0) 5 0) 6 3) 7 277) 8 0) 9 1000) 10 1200) 11 0) 12 0) 13 3))), (q_15, .inl (cA_16, 2, .inl (upd (upd (fun _ => 0) 0 (-1)) 1 (-1)))), (q_17, .inl (cA_18, 5, .inl (fun _ => 0))), (q_19, .inl (cA_20, 2048, .inl (fun _ => 0)))] := hD
  replace hK : va_K (dC, dI) vcl [(cA_2, .int), (cA_4, .int), (cA_6, .boolean), (cA_8, .int), (cA_10, .byte), (cA_12, .int), (cA_14, .int), (cA_16, .int), (cA_18, .int), (cA_20, .byte)] s := hK
  refine W.widen (k := 10) (n := 24172) (by decide) (by decide) ?_
  refine va_putF (D := (dC, dI)) (ci := 18) (v := .ref q_19) (ty := (.array .byte)) (C := R_mShelf) (T := F_mShelf) (N := 20) hx hb hwd i_mShelf t_mShelf to_mShelf no_mShelf hown hK hP hD hS 0 rfl rfl 18 (by decide) (hwd _ wd_9_227) (fun _ h9 => h9) rfl hin rfl (by decide +kernel) rfl rfl (Nat.le_of_ble_eq_true rfl) d_mShelf_init_202 ?_
  clear hP hD hS
  intro H locs hP hD hS
  replace hP : va_P (dC, dI) vcl [(h0, .inr (18, [.int 0, .int 0, .ref q_1, .ref q_3, .ref q_5, .int 0, .ref q_7, .int 0, .ref q_9, .ref q_11, .ref q_13, .ref q_15, .int 0, .int 0, .int 0, .ref q_17, .int 0, .int 0, .ref q_19, .null])), (q_1, .inl (cA_2, 33, .inl (fun _ => 0))), (q_3, .inl (cA_4, 231, .inl (fun _ => 0))), (q_5, .inl (cA_6, 33, .inl (fun _ => 0))), (q_7, .inl (cA_8, 1799, .inl (fun _ => 0))), (q_9, .inl (cA_10, 20000, .inl (fun _ => 0))), (q_11, .inl (cA_12, 7, .inl (upd (upd (upd (upd (upd (upd (upd (fun _ => 0) 0 277) 1 0) 2 1000) 3 1200) 4 0) 5 0) 6 3))), (q_13, .inl (cA_14, 14, .inl (upd (upd (upd (upd (upd (upd (upd (upd (upd (upd (upd (upd (upd (upd (fun _ => 0) 0 277) 1 0) 2 1000) 3 1200) 4 0) 5 0) 6 3) 7 277) 8 0) 9 1000) 10 1200) 11 0) 12 0) 13 3))), (q_15, .inl (cA_16, 2, .inl (upd (upd (fun _ => 0) 0 (-1)) 1 (-1)))), (q_17, .inl (cA_18, 5, .inl (fun _ => 0))), (q_19, .inl (cA_20, 2048, .inl (fun _ => 0)))] H := hP
  replace hD : va_D A [(h0, .inr (18, [.int 0, .int 0, .ref q_1, .ref q_3, .ref q_5, .int 0, .ref q_7, .int 0, .ref q_9, .ref q_11, .ref q_13, .ref q_15, .int 0, .int 0, .int 0, .ref q_17, .int 0, .int 0, .ref q_19, .null])), (q_1, .inl (cA_2, 33, .inl (fun _ => 0))), (q_3, .inl (cA_4, 231, .inl (fun _ => 0))), (q_5, .inl (cA_6, 33, .inl (fun _ => 0))), (q_7, .inl (cA_8, 1799, .inl (fun _ => 0))), (q_9, .inl (cA_10, 20000, .inl (fun _ => 0))), (q_11, .inl (cA_12, 7, .inl (upd (upd (upd (upd (upd (upd (upd (fun _ => 0) 0 277) 1 0) 2 1000) 3 1200) 4 0) 5 0) 6 3))), (q_13, .inl (cA_14, 14, .inl (upd (upd (upd (upd (upd (upd (upd (upd (upd (upd (upd (upd (upd (upd (fun _ => 0) 0 277) 1 0) 2 1000) 3 1200) 4 0) 5 0) 6 3) 7 277) 8 0) 9 1000) 10 1200) 11 0) 12 0) 13 3))), (q_15, .inl (cA_16, 2, .inl (upd (upd (fun _ => 0) 0 (-1)) 1 (-1)))), (q_17, .inl (cA_18, 5, .inl (fun _ => 0))), (q_19, .inl (cA_20, 2048, .inl (fun _ => 0)))] := hD
  refine lv_aload_n hx hb d_mShelf_init_205 rfl (lv_at hl 0 rfl) ?_
  refine lv_bipush (v := 32) hx hb d_mShelf_init_206 (by decide) ?_
  refine va_newa (atype := .boolean) (N' := 32) (a0 := (32, .inl (fun _ => 0))) (ty := .boolean) (n := 32) hx hb (hwd _ wd_2_150) rfl hK hP hD hS hA (fun _ => rfl) (by decide) (by decide) (by decide) (Nat.le_of_ble_eq_true rfl) (Nat.le_of_ble_eq_true rfl) d_mShelf_init_208 ?_
  clear hP hD hS hK
  intro q_21 cA_22 H hK hP hD hS
  replace hP : va_P (dC, dI) vcl [(h0, .inr (18, [.int 0, .int 0, .ref q_1, .ref q_3, .ref q_5, .int 0, .ref q_7, .int 0, .ref q_9, .ref q_11, .ref q_13, .ref q_15, .int 0, .int 0, .int 0, .ref q_17, .int 0, .int 0, .ref q_19, .null])), (q_1, .inl (cA_2, 33, .inl (fun _ => 0))), (q_3, .inl (cA_4, 231, .inl (fun _ => 0))), (q_5, .inl (cA_6, 33, .inl (fun _ => 0))), (q_7, .inl (cA_8, 1799, .inl (fun _ => 0))), (q_9, .inl (cA_10, 20000, .inl (fun _ => 0))), (q_11, .inl (cA_12, 7, .inl (upd (upd (upd (upd (upd (upd (upd (fun _ => 0) 0 277) 1 0) 2 1000) 3 1200) 4 0) 5 0) 6 3))), (q_13, .inl (cA_14, 14, .inl (upd (upd (upd (upd (upd (upd (upd (upd (upd (upd (upd (upd (upd (upd (fun _ => 0) 0 277) 1 0) 2 1000) 3 1200) 4 0) 5 0) 6 3) 7 277) 8 0) 9 1000) 10 1200) 11 0) 12 0) 13 3))), (q_15, .inl (cA_16, 2, .inl (upd (upd (fun _ => 0) 0 (-1)) 1 (-1)))), (q_17, .inl (cA_18, 5, .inl (fun _ => 0))), (q_19, .inl (cA_20, 2048, .inl (fun _ => 0))), (q_21, .inl (cA_22, 32, .inl (fun _ => 0)))] H := hP
  replace hD : va_D A [(h0, .inr (18, [.int 0, .int 0, .ref q_1, .ref q_3, .ref q_5, .int 0, .ref q_7, .int 0, .ref q_9, .ref q_11, .ref q_13, .ref q_15, .int 0, .int 0, .int 0, .ref q_17, .int 0, .int 0, .ref q_19, .null])), (q_1, .inl (cA_2, 33, .inl (fun _ => 0))), (q_3, .inl (cA_4, 231, .inl (fun _ => 0))), (q_5, .inl (cA_6, 33, .inl (fun _ => 0))), (q_7, .inl (cA_8, 1799, .inl (fun _ => 0))), (q_9, .inl (cA_10, 20000, .inl (fun _ => 0))), (q_11, .inl (cA_12, 7, .inl (upd (upd (upd (upd (upd (upd (upd (fun _ => 0) 0 277) 1 0) 2 1000) 3 1200) 4 0) 5 0) 6 3))), (q_13, .inl (cA_14, 14, .inl (upd (upd (upd (upd (upd (upd (upd (upd (upd (upd (upd (upd (upd (upd (fun _ => 0) 0 277) 1 0) 2 1000) 3 1200) 4 0) 5 0) 6 3) 7 277) 8 0) 9 1000) 10 1200) 11 0) 12 0) 13 3))), (q_15, .inl (cA_16, 2, .inl (upd (upd (fun _ => 0) 0 (-1)) 1 (-1)))), (q_17, .inl (cA_18, 5, .inl (fun _ => 0))), (q_19, .inl (cA_20, 2048, .inl (fun _ => 0))), (q_21, .inl (cA_22, 32, .inl (fun _ => 0)))] := hD
  replace hK : va_K (dC, dI) vcl [(cA_2, .int), (cA_4, .int), (cA_6, .boolean), (cA_8, .int), (cA_10, .byte), (cA_12, .int), (cA_14, .int), (cA_16, .int), (cA_18, .int), (cA_20, .byte), (cA_22, .boolean)] s := hK
  refine W.widen (k := 11) (n := 24204) (by decide) (by decide) ?_
  refine va_putF (D := (dC, dI)) (ci := 18) (v := .ref q_21) (ty := (.array .boolean)) (C := R_mShelf) (T := F_mShelf) (N := 20) hx hb hwd i_mShelf t_mShelf to_mShelf no_mShelf hown hK hP hD hS 0 rfl rfl 19 (by decide) (hwd _ wd_9_228) (fun _ h9 => h9) rfl hin rfl (by decide +kernel) rfl rfl (Nat.le_of_ble_eq_true rfl) d_mShelf_init_210 ?_
  clear hP hD hS
  intro H locs hP hD hS
  replace hP : va_P (dC, dI) vcl [(h0, .inr (18, [.int 0, .int 0, .ref q_1, .ref q_3, .ref q_5, .int 0, .ref q_7, .int 0, .ref q_9, .ref q_11, .ref q_13, .ref q_15, .int 0, .int 0, .int 0, .ref q_17, .int 0, .int 0, .ref q_19, .ref q_21])), (q_1, .inl (cA_2, 33, .inl (fun _ => 0))), (q_3, .inl (cA_4, 231, .inl (fun _ => 0))), (q_5, .inl (cA_6, 33, .inl (fun _ => 0))), (q_7, .inl (cA_8, 1799, .inl (fun _ => 0))), (q_9, .inl (cA_10, 20000, .inl (fun _ => 0))), (q_11, .inl (cA_12, 7, .inl (upd (upd (upd (upd (upd (upd (upd (fun _ => 0) 0 277) 1 0) 2 1000) 3 1200) 4 0) 5 0) 6 3))), (q_13, .inl (cA_14, 14, .inl (upd (upd (upd (upd (upd (upd (upd (upd (upd (upd (upd (upd (upd (upd (fun _ => 0) 0 277) 1 0) 2 1000) 3 1200) 4 0) 5 0) 6 3) 7 277) 8 0) 9 1000) 10 1200) 11 0) 12 0) 13 3))), (q_15, .inl (cA_16, 2, .inl (upd (upd (fun _ => 0) 0 (-1)) 1 (-1)))), (q_17, .inl (cA_18, 5, .inl (fun _ => 0))), (q_19, .inl (cA_20, 2048, .inl (fun _ => 0))), (q_21, .inl (cA_22, 32, .inl (fun _ => 0)))] H := hP
  replace hD : va_D A [(h0, .inr (18, [.int 0, .int 0, .ref q_1, .ref q_3, .ref q_5, .int 0, .ref q_7, .int 0, .ref q_9, .ref q_11, .ref q_13, .ref q_15, .int 0, .int 0, .int 0, .ref q_17, .int 0, .int 0, .ref q_19, .ref q_21])), (q_1, .inl (cA_2, 33, .inl (fun _ => 0))), (q_3, .inl (cA_4, 231, .inl (fun _ => 0))), (q_5, .inl (cA_6, 33, .inl (fun _ => 0))), (q_7, .inl (cA_8, 1799, .inl (fun _ => 0))), (q_9, .inl (cA_10, 20000, .inl (fun _ => 0))), (q_11, .inl (cA_12, 7, .inl (upd (upd (upd (upd (upd (upd (upd (fun _ => 0) 0 277) 1 0) 2 1000) 3 1200) 4 0) 5 0) 6 3))), (q_13, .inl (cA_14, 14, .inl (upd (upd (upd (upd (upd (upd (upd (upd (upd (upd (upd (upd (upd (upd (fun _ => 0) 0 277) 1 0) 2 1000) 3 1200) 4 0) 5 0) 6 3) 7 277) 8 0) 9 1000) 10 1200) 11 0) 12 0) 13 3))), (q_15, .inl (cA_16, 2, .inl (upd (upd (fun _ => 0) 0 (-1)) 1 (-1)))), (q_17, .inl (cA_18, 5, .inl (fun _ => 0))), (q_19, .inl (cA_20, 2048, .inl (fun _ => 0))), (q_21, .inl (cA_22, 32, .inl (fun _ => 0)))] := hD
  have hP9 := hP.sub (ws' := [(h0, .inr (18, [.int 0, .int 0, .ref q_1, .ref q_3, .ref q_5, .int 0, .ref q_7, .int 0, .ref q_9, .ref q_11, .ref q_13, .ref q_15, .int 0, .int 0, .int 0, .ref q_17, .int 0, .int 0, .ref q_19, .ref q_21])), (q_1, .inl (cA_2, 33, .inl (fun _ => 0))), (q_3, .inl (cA_4, 231, .inl (fun _ => 0))), (q_5, .inl (cA_6, 33, .inl (fun _ => 0))), (q_7, .inl (cA_8, 1799, .inl (fun _ => 0))), (q_9, .inl (cA_10, 20000, .inl (fun _ => 0))), (q_11, .inl (cA_12, 7, .inl (upd (upd (upd (upd (upd (upd (upd (fun _ => 0) 0 277) 1 0) 2 1000) 3 1200) 4 0) 5 0) 6 3))), (q_13, .inl (cA_14, 14, .inl (upd (upd (upd (upd (upd (upd (upd (upd (upd (upd (upd (upd (upd (upd (fun _ => 0) 0 277) 1 0) 2 1000) 3 1200) 4 0) 5 0) 6 3) 7 277) 8 0) 9 1000) 10 1200) 11 0) 12 0) 13 3))), (q_15, .inl (cA_16, 2, .inl (upd (upd (fun _ => 0) 0 (-1)) 1 (-1)))), (q_17, .inl (cA_18, 5, .inl (fun _ => 0))), (q_19, .inl (cA_20, 2048, .inl (fun _ => 0))), (q_21, .inl (cA_22, 32, .inl (fun _ => 0)))]) [0, 1, 2, 3, 4, 5, 6, 7, 8, 9, 10, 11] rfl
  have hD9 := hD.sub (ws' := [(h0, .inr (18, [.int 0, .int 0, .ref q_1, .ref q_3, .ref q_5, .int 0, .ref q_7, .int 0, .ref q_9, .ref q_11, .ref q_13, .ref q_15, .int 0, .int 0, .int 0, .ref q_17, .int 0, .int 0, .ref q_19, .ref q_21])), (q_1, .inl (cA_2, 33, .inl (fun _ => 0))), (q_3, .inl (cA_4, 231, .inl (fun _ => 0))), (q_5, .inl (cA_6, 33, .inl (fun _ => 0))), (q_7, .inl (cA_8, 1799, .inl (fun _ => 0))), (q_9, .inl (cA_10, 20000, .inl (fun _ => 0))), (q_11, .inl (cA_12, 7, .inl (upd (upd (upd (upd (upd (upd (upd (fun _ => 0) 0 277) 1 0) 2 1000) 3 1200) 4 0) 5 0) 6 3))), (q_13, .inl (cA_14, 14, .inl (upd (upd (upd (upd (upd (upd (upd (upd (upd (upd (upd (upd (upd (upd (fun _ => 0) 0 277) 1 0) 2 1000) 3 1200) 4 0) 5 0) 6 3) 7 277) 8 0) 9 1000) 10 1200) 11 0) 12 0) 13 3))), (q_15, .inl (cA_16, 2, .inl (upd (upd (fun _ => 0) 0 (-1)) 1 (-1)))), (q_17, .inl (cA_18, 5, .inl (fun _ => 0))), (q_19, .inl (cA_20, 2048, .inl (fun _ => 0))), (q_21, .inl (cA_22, 32, .inl (fun _ => 0)))]) [0, 1, 2, 3, 4, 5, 6, 7, 8, 9, 10, 11] (by decide) rfl
  have hK9 := hK.sub (tys' := [(cA_2, .int), (cA_4, .int), (cA_6, .boolean), (cA_8, .int), (cA_10, .byte), (cA_12, .int), (cA_14, .int), (cA_16, .int), (cA_18, .int), (cA_20, .byte), (cA_22, .boolean)]) [0, 1, 2, 3, 4, 5, 6, 7, 8, 9, 10] rfl
  exact W.vret hx hb hr (fun t ht hW => ⟨⟨(), rfl, (trivial), q_1, q_3, q_5, q_7, q_9, q_11, q_13, q_15, q_17, q_19, q_21, cA_2, cA_4, cA_6, cA_8, cA_10, cA_12, cA_14, cA_16, cA_18, cA_20, cA_22, by rw [ht]; exact hP9, va_K.moved hW.alike hK9, hD9⟩, hS.F ht⟩) hS.2.2 d_mShelf_init_213

abbrev at_c_Shelf_drop_0 (dC : Nat → ClassId) (dI : Nat → Nat → Nat) (h0 : Nat) (s_thrown : Int32) (s_ids : Nat) (s_attributes : Nat) (s_permanent : Nat) (s_glyphs : Int32) (s_glyph : Nat) (s_used : Int32) (s_store : Nat) (s_draft : Nat) (s_wishes : Nat) (s_pins : Nat) (s_id : Int32) (s_code : Int32) (s_loading : Int32) (s_coming : Nat) (s_need : Int32) (s_came : Int32) (s_bytes : Nat) (s_left : Nat) (A : Nat → Prop) (u : Unit) (t : State) : Prop := match u with
  | _ => va_P (dC, dI) vcl [(h0, .inr (18, [.int 0, .int 0, .ref s_ids, .ref s_attributes, .ref s_permanent, .int s_glyphs, .ref s_glyph, .int s_used, .ref s_store, .ref s_draft, .ref s_wishes, .ref s_pins, .int s_id, .int s_code, .int 0, .ref s_coming, .int s_need, .int s_came, .ref s_bytes, .ref s_left]))] t.heap ∧ va_K (dC, dI) vcl [] t ∧ va_D A [(h0, .inr (18, [.int 0, .int 0, .ref s_ids, .ref s_attributes, .ref s_permanent, .int s_glyphs, .ref s_glyph, .int s_used, .ref s_store, .ref s_draft, .ref s_wishes, .ref s_pins, .int s_id, .int s_code, .int 0, .ref s_coming, .int s_need, .int s_came, .ref s_bytes, .ref s_left]))]
abbrev po_c_Shelf_drop_0 (h0 : Nat) (s_thrown : Int32) (s_ids : Nat) (s_attributes : Nat) (s_permanent : Nat) (s_glyphs : Int32) (s_glyph : Nat) (s_used : Int32) (s_store : Nat) (s_draft : Nat) (s_wishes : Nat) (s_pins : Nat) (s_id : Int32) (s_code : Int32) (s_loading : Int32) (s_coming : Nat) (s_need : Int32) (s_came : Int32) (s_bytes : Nat) (s_left : Nat) (r : Int32) (u : Unit) : Prop := match u with
  | _ => r = 0
abbrev q_c_Shelf_drop_0 (dC : Nat → ClassId) (dI : Nat → Nat → Nat) (h0 : Nat) (s_thrown : Int32) (s_ids : Nat) (s_attributes : Nat) (s_permanent : Nat) (s_glyphs : Int32) (s_glyph : Nat) (s_used : Int32) (s_store : Nat) (s_draft : Nat) (s_wishes : Nat) (s_pins : Nat) (s_id : Int32) (s_code : Int32) (s_loading : Int32) (s_coming : Nat) (s_need : Int32) (s_came : Int32) (s_bytes : Nat) (s_left : Nat) (A : Nat → Prop) : Array Value → State → Outcome → State → Prop := va_Qi (po_c_Shelf_drop_0 h0 s_thrown s_ids s_attributes s_permanent s_glyphs s_glyph s_used s_store s_draft s_wishes s_pins s_id s_code s_loading s_coming s_need s_came s_bytes s_left) (at_c_Shelf_drop_0 dC dI h0 s_thrown s_ids s_attributes s_permanent s_glyphs s_glyph s_used s_store s_draft s_wishes s_pins s_id s_code s_loading s_coming s_need s_came s_bytes s_left A) A
abbrev rm_c_Shelf_drop_0 : Room := { frames := 0, cells := 0, slots := 0, locals := 0 }
set_option maxHeartbeats 4000000 in
set_option maxRecDepth 100000 in
theorem c_Shelf_drop_0 (l : Launch) (dC : Nat → ClassId) (dI : Nat → Nat → Nat) (tt : Nat → Nat) (h0 : Nat) (s_thrown : Int32) (s_ids : Nat) (s_attributes : Nat) (s_permanent : Nat) (s_glyphs : Int32) (s_glyph : Nat) (s_used : Int32) (s_store : Nat) (s_draft : Nat) (s_wishes : Nat) (s_pins : Nat) (s_id : Int32) (s_code : Int32) (s_loading : Int32) (s_coming : Nat) (s_need : Int32) (s_came : Int32) (s_bytes : Nat) (s_left : Nat) (sz : Nat)  : Met l y_mShelf_drop w_mShelf_drop rm_c_Shelf_drop_0 (va_Pc [.ref h0, .int 1] (fun U => U.heap.size = sz ∧ va_P (dC, dI) vcl [(h0, .inr (18, [.int s_thrown, .int 0, .ref s_ids, .ref s_attributes, .ref s_permanent, .int s_glyphs, .ref s_glyph, .int s_used, .ref s_store, .ref s_draft, .ref s_wishes, .ref s_pins, .int s_id, .int s_code, .int s_loading, .ref s_coming, .int s_need, .int s_came, .ref s_bytes, .ref s_left]))] U.heap ∧ va_K (dC, dI) vcl [] U ∧ va_D (fun _ => True) [(h0, .inr (18, [.int s_thrown, .int 0, .ref s_ids, .ref s_attributes, .ref s_permanent, .int s_glyphs, .ref s_glyph, .int s_used, .ref s_store, .ref s_draft, .ref s_wishes, .ref s_pins, .int s_id, .int s_code, .int s_loading, .ref s_coming, .int s_need, .int s_came, .ref s_bytes, .ref s_left]))] ∧ SF tt (va_A [(h0, .inr (18, [.int s_thrown, .int 0, .ref s_ids, .ref s_attributes, .ref s_permanent, .int s_glyphs, .ref s_glyph, .int s_used, .ref s_store, .ref s_draft, .ref s_wishes, .ref s_pins, .int s_id, .int s_code, .int s_loading, .ref s_coming, .int s_need, .int s_came, .ref s_bytes, .ref s_left]))] sz) U U.heap)) (q_c_Shelf_drop_0 dC dI h0 s_thrown s_ids s_attributes s_permanent s_glyphs s_glyph s_used s_store s_draft s_wishes s_pins s_id s_code s_loading s_coming s_need s_came s_bytes s_left (va_A [(h0, .inr (18, [.int s_thrown, .int 0, .ref s_ids, .ref s_attributes, .ref s_permanent, .int s_glyphs, .ref s_glyph, .int s_used, .ref s_store, .ref s_draft, .ref s_wishes, .ref s_pins, .int s_id, .int s_code, .int s_loading, .ref s_coming, .int s_need, .int s_came, .ref s_bytes, .ref s_left]))] sz)) 0 0 (va_A [(h0, .inr (18, [.int s_thrown, .int 0, .ref s_ids, .ref s_attributes, .ref s_permanent, .int s_glyphs, .ref s_glyph, .int s_used, .ref s_store, .ref s_draft, .ref s_wishes, .ref s_pins, .int s_id, .int s_code, .int s_loading, .ref s_coming, .int s_need, .int s_came, .ref s_bytes, .ref s_left]))] sz) := by
  refine Met.ofW (cc := b_mShelf_drop) (maxL := 4) (ret := (some .int)) (by decide) rfl ?_
  intro p e s m args below meth c s₁ B hml hv
  obtain ⟨rfl, hsz, hP, hK, hD0, hF⟩ := hv
  have hx := B.exec
  have hb := B.bytes
  have hr := B.returns
  have hwd : ∀ w ∈ gT, w.before _ s = true := fun w h => atoms_spec (ws := w_mShelf_drop) B.pre w (List.mem_cons_of_mem _ h)
  have hown : s.vm.findClass R_mShelf = some m.cls := findClass_of_methodNamed B.named
  have hlocks := B.notSynchronized
  subst hsz
  have hD := hD0.self (sz := s.heap.size)
  generalize hAe : va_A [(h0, .inr (18, [.int s_thrown, .int 0, .ref s_ids, .ref s_attributes, .ref s_permanent, .int s_glyphs, .ref s_glyph, .int s_used, .ref s_store, .ref s_draft, .ref s_wishes, .ref s_pins, .int s_id, .int s_code, .int s_loading, .ref s_coming, .int s_need, .int s_came, .ref s_bytes, .ref s_left]))] s.heap.size = A at hD hF ⊢
  have hA : ∀ q : Nat, s.heap.size ≤ q → A q := fun q h => by rw [← hAe]; exact Or.inr h
  have hS : va_S A s.heap s.heap [] := va_S.rf
  have hP : va_P (dC, dI) vcl [(h0, .inr (18, [.int s_thrown, .int 0, .ref s_ids, .ref s_attributes, .ref s_permanent, .int s_glyphs, .ref s_glyph, .int s_used, .ref s_store, .ref s_draft, .ref s_wishes, .ref s_pins, .int s_id, .int s_code, .int s_loading, .ref s_coming, .int s_need, .int s_came, .ref s_bytes, .ref s_left]))] s.heap := hP
  have hl := lv_entry ([.ref h0, .int 1]) (n := 4) (Nat.le_of_ble_eq_true rfl)
  rw [lg_entry_eq]
  generalize (lg_sl ([.ref h0, .int 1]) ++ List.replicate (4 - (lg_sl ([.ref h0, .int 1])).length) Slot.unset).toArray = ls at hl ⊢
  have hl : lv_has ls 4 [(0, .ref h0), (1, .int 1)] := hl
  refine lv_aload_n hx hb d_mShelf_drop_0 rfl (lv_at hl 0 rfl) ?_
  refine lv_iload_n hx hb d_mShelf_drop_1 rfl (lv_at hl 1 rfl) ?_
  refine lv_if_lt (tgt := 10) hx hb d_mShelf_drop_2 (by decide) (fun c2 => absurd c2 (by decide)) (fun _ => ?_)
  refine lv_iload_n hx hb d_mShelf_drop_5 rfl (lv_at hl 1 rfl) ?_
  refine lv_iconst (v := 3) hx hb d_mShelf_drop_6 (by decide) ?_
  refine lv_icmp_le (tgt := 14) hx hb d_mShelf_drop_7 (by decide) (fun _ => ?_) (fun c7 => absurd (by decide) c7)
  refine lv_iconst (v := 0) hx hb d_mShelf_drop_14 (by decide) ?_
  refine va_put (D := (dC, dI)) (ci := 18) (v := .int 0) (ty := .int) (C := R_mShelf) (T := F_mShelf) (N := 20) hx hb hwd i_mShelf t_mShelf to_mShelf no_mShelf hown hK hP hD hS 0 rfl rfl 0 (by decide) (hwd _ wd_9_203) (fun _ h9 => h9) rfl (by decide +kernel) rfl rfl (Nat.le_of_ble_eq_true rfl) d_mShelf_drop_15 ?_
  clear hP hD hS
  intro H locs hP hD hS
  replace hP : va_P (dC, dI) vcl [(h0, .inr (18, [.int 0, .int 0, .ref s_ids, .ref s_attributes, .ref s_permanent, .int s_glyphs, .ref s_glyph, .int s_used, .ref s_store, .ref s_draft, .ref s_wishes, .ref s_pins, .int s_id, .int s_code, .int s_loading, .ref s_coming, .int s_need, .int s_came, .ref s_bytes, .ref s_left]))] H := hP
  replace hD : va_D A [(h0, .inr (18, [.int 0, .int 0, .ref s_ids, .ref s_attributes, .ref s_permanent, .int s_glyphs, .ref s_glyph, .int s_used, .ref s_store, .ref s_draft, .ref s_wishes, .ref s_pins, .int s_id, .int s_code, .int s_loading, .ref s_coming, .int s_need, .int s_came, .ref s_bytes, .ref s_left]))] := hD
  refine lv_aload_n hx hb d_mShelf_drop_18 rfl (lv_at hl 0 rfl) ?_
  refine va_get (D := (dC, dI)) (ci := 18) (v := .int 0) (C := R_mShelf) (T := F_mShelf) (N := 20) hx hb hwd i_mShelf hown hK hP 0 rfl rfl 0 (by decide) (hwd _ wd_9_203) (fun _ h9 => h9) rfl d_mShelf_drop_19 ?_
  refine lv_if_le (tgt := 27) hx hb d_mShelf_drop_22 (by decide) (fun _ => ?_) (fun c22 => absurd (by decide) c22)
  refine lv_aload_n hx hb d_mShelf_drop_27 rfl (lv_at hl 0 rfl) ?_
  refine lv_iconst (v := 0) hx hb d_mShelf_drop_28 (by decide) ?_
  refine va_put (D := (dC, dI)) (ci := 18) (v := .int 0) (ty := .boolean) (C := R_mShelf) (T := F_mShelf) (N := 20) hx hb hwd i_mShelf t_mShelf to_mShelf no_mShelf hown hK hP hD hS 0 rfl rfl 14 (by decide) (hwd _ wd_9_223) (fun _ h9 => h9) rfl (by decide +kernel) (by decide) rfl (Nat.le_of_ble_eq_true rfl) d_mShelf_drop_29 ?_
  clear hP hD hS
  intro H locs hP hD hS
  replace hP : va_P (dC, dI) vcl [(h0, .inr (18, [.int 0, .int 0, .ref s_ids, .ref s_attributes, .ref s_permanent, .int s_glyphs, .ref s_glyph, .int s_used, .ref s_store, .ref s_draft, .ref s_wishes, .ref s_pins, .int s_id, .int s_code, .int 0, .ref s_coming, .int s_need, .int s_came, .ref s_bytes, .ref s_left]))] H := hP
  replace hD : va_D A [(h0, .inr (18, [.int 0, .int 0, .ref s_ids, .ref s_attributes, .ref s_permanent, .int s_glyphs, .ref s_glyph, .int s_used, .ref s_store, .ref s_draft, .ref s_wishes, .ref s_pins, .int s_id, .int s_code, .int 0, .ref s_coming, .int s_need, .int s_came, .ref s_bytes, .ref s_left]))] := hD
  refine lv_iconst (v := 0) hx hb d_mShelf_drop_32 (by decide) ?_
  refine lv_istore_n (lv' := [(2, .int 0), (0, .ref h0), (1, .int 1)]) hx hb d_mShelf_drop_33 rfl hl (by decide) rfl ?_
  clear hl
  intro ls hl
  refine lv_iload_n hx hb d_mShelf_drop_34 rfl (lv_at hl 2 rfl) ?_
  refine lv_iconst (v := 3) hx hb d_mShelf_drop_35 (by decide) ?_
  refine lv_icmp_ne (tgt := 65) hx hb d_mShelf_drop_36 (by decide) (fun _ => ?_) (fun c36 => absurd c36 (by decide))
  refine lv_aload_n hx hb d_mShelf_drop_65 rfl (lv_at hl 1 rfl) ?_
  refine va_get (D := (dC, dI)) (ci := 18) (v := .int 0) (C := R_mShelf) (T := F_mShelf) (N := 20) hx hb hwd i_mShelf hown hK hP 0 rfl rfl 1 (by decide) (hwd _ wd_9_205) (fun _ h9 => h9) rfl d_mShelf_drop_66 ?_
  refine lv_iconst (v := 1) hx hb d_mShelf_drop_69 (by decide) ?_
  refine lv_isub hx hb d_mShelf_drop_70 ?_
  refine lv_topi (fun y_1 ey_1 => ?_)
  obtain rfl : y_1 = ((-1) : Int32) := ey_1.trans (by decide)
  refine lv_istore_n (lv' := [(3, .int (-1)), (2, .int 0), (0, .ref h0), (1, .int 1)]) hx hb d_mShelf_drop_71 rfl hl (by decide) rfl ?_
  clear hl
  intro ls hl
  refine lv_iload_n hx hb d_mShelf_drop_72 rfl (lv_at hl 0 rfl) ?_
  refine lv_if_lt (tgt := 126) hx hb d_mShelf_drop_73 (by decide) (fun _ => ?_) (fun c73 => absurd (by decide) c73)
  refine lv_iload_n hx hb d_mShelf_drop_126 rfl (lv_at hl 1 rfl) ?_
  have hP9 := hP.sub (ws' := [(h0, .inr (18, [.int 0, .int 0, .ref s_ids, .ref s_attributes, .ref s_permanent, .int s_glyphs, .ref s_glyph, .int s_used, .ref s_store, .ref s_draft, .ref s_wishes, .ref s_pins, .int s_id, .int s_code, .int 0, .ref s_coming, .int s_need, .int s_came, .ref s_bytes, .ref s_left]))]) [0] rfl
  have hD9 := hD.sub (ws' := [(h0, .inr (18, [.int 0, .int 0, .ref s_ids, .ref s_attributes, .ref s_permanent, .int s_glyphs, .ref s_glyph, .int s_used, .ref s_store, .ref s_draft, .ref s_wishes, .ref s_pins, .int s_id, .int s_code, .int 0, .ref s_coming, .int s_need, .int s_came, .ref s_bytes, .ref s_left]))]) [0] (by decide) rfl
  have hK9 := hK.sub (tys' := []) [] rfl
  exact W.iret (v := 0) hx hb hr (fun t ht hW => ⟨⟨0, (), rfl, (show (0 : Int32) = 0 from (by first | exact trivial | rfl | simp [*])), by rw [ht]; exact hP9, va_K.moved hW.alike hK9, hD9⟩, hS.F ht⟩) hS.2.2 d_mShelf_drop_127

abbrev at_c_Shelf_restart (dC : Nat → ClassId) (dI : Nat → Nat → Nat) (h0 : Nat) (s_thrown : Int32) (s_fonts : Int32) (s_ids : Nat) (s_attributes : Nat) (s_permanent : Nat) (s_glyphs : Int32) (s_glyph : Nat) (s_used : Int32) (s_store : Nat) (s_draft : Nat) (s_wishes : Nat) (s_pins : Nat) (s_id : Int32) (s_code : Int32) (s_loading : Int32) (s_coming : Nat) (s_need : Int32) (s_came : Int32) (s_bytes : Nat) (s_left : Nat) (c1 : ClassId) (dr : Nat → Int32) (c2 : ClassId) (wi : Nat → Int32) (c3 : ClassId) (pn : Nat → Int32) (A : Nat → Prop) (u : Unit) (t : State) : Prop := match u with
  | _ => va_P (dC, dI) vcl [(h0, .inr (18, [.int s_thrown, .int s_fonts, .ref s_ids, .ref s_attributes, .ref s_permanent, .int s_glyphs, .ref s_glyph, .int s_used, .ref s_store, .ref s_draft, .ref s_wishes, .ref s_pins, .int 0, .int 0, .int 0, .ref s_coming, .int s_need, .int s_came, .ref s_bytes, .ref s_left])), (s_draft, .inl (c1, 7, .inl (upd (upd (upd (upd (upd (upd (upd dr 0 277) 1 0) 2 1000) 3 1200) 4 0) 5 0) 6 3))), (s_wishes, .inl (c2, 14, .inl (upd (upd (upd (upd (upd (upd (upd (upd (upd (upd (upd (upd (upd (upd wi 0 277) 7 277) 1 0) 8 0) 2 1000) 9 1000) 3 1200) 10 1200) 4 0) 11 0) 5 0) 12 0) 6 3) 13 3))), (s_pins, .inl (c3, 2, .inl (upd (upd pn 0 (-1)) 1 (-1))))] t.heap ∧ va_K (dC, dI) vcl [(c1, .int), (c2, .int), (c3, .int)] t ∧ va_D A [(h0, .inr (18, [.int s_thrown, .int s_fonts, .ref s_ids, .ref s_attributes, .ref s_permanent, .int s_glyphs, .ref s_glyph, .int s_used, .ref s_store, .ref s_draft, .ref s_wishes, .ref s_pins, .int 0, .int 0, .int 0, .ref s_coming, .int s_need, .int s_came, .ref s_bytes, .ref s_left])), (s_draft, .inl (c1, 7, .inl (upd (upd (upd (upd (upd (upd (upd dr 0 277) 1 0) 2 1000) 3 1200) 4 0) 5 0) 6 3))), (s_wishes, .inl (c2, 14, .inl (upd (upd (upd (upd (upd (upd (upd (upd (upd (upd (upd (upd (upd (upd wi 0 277) 7 277) 1 0) 8 0) 2 1000) 9 1000) 3 1200) 10 1200) 4 0) 11 0) 5 0) 12 0) 6 3) 13 3))), (s_pins, .inl (c3, 2, .inl (upd (upd pn 0 (-1)) 1 (-1))))]
abbrev po_c_Shelf_restart (h0 : Nat) (s_thrown : Int32) (s_fonts : Int32) (s_ids : Nat) (s_attributes : Nat) (s_permanent : Nat) (s_glyphs : Int32) (s_glyph : Nat) (s_used : Int32) (s_store : Nat) (s_draft : Nat) (s_wishes : Nat) (s_pins : Nat) (s_id : Int32) (s_code : Int32) (s_loading : Int32) (s_coming : Nat) (s_need : Int32) (s_came : Int32) (s_bytes : Nat) (s_left : Nat) (c1 : ClassId) (dr : Nat → Int32) (c2 : ClassId) (wi : Nat → Int32) (c3 : ClassId) (pn : Nat → Int32) (u : Unit) : Prop := match u with
  | _ => True
abbrev q_c_Shelf_restart (dC : Nat → ClassId) (dI : Nat → Nat → Nat) (h0 : Nat) (s_thrown : Int32) (s_fonts : Int32) (s_ids : Nat) (s_attributes : Nat) (s_permanent : Nat) (s_glyphs : Int32) (s_glyph : Nat) (s_used : Int32) (s_store : Nat) (s_draft : Nat) (s_wishes : Nat) (s_pins : Nat) (s_id : Int32) (s_code : Int32) (s_loading : Int32) (s_coming : Nat) (s_need : Int32) (s_came : Int32) (s_bytes : Nat) (s_left : Nat) (c1 : ClassId) (dr : Nat → Int32) (c2 : ClassId) (wi : Nat → Int32) (c3 : ClassId) (pn : Nat → Int32) (A : Nat → Prop) : Array Value → State → Outcome → State → Prop := va_Qv (po_c_Shelf_restart h0 s_thrown s_fonts s_ids s_attributes s_permanent s_glyphs s_glyph s_used s_store s_draft s_wishes s_pins s_id s_code s_loading s_coming s_need s_came s_bytes s_left c1 dr c2 wi c3 pn) (at_c_Shelf_restart dC dI h0 s_thrown s_fonts s_ids s_attributes s_permanent s_glyphs s_glyph s_used s_store s_draft s_wishes s_pins s_id s_code s_loading s_coming s_need s_came s_bytes s_left c1 dr c2 wi c3 pn A) A
abbrev rm_c_Shelf_restart : Room := { frames := 0, cells := 0, slots := 0, locals := 0 }
set_option maxHeartbeats 4000000 in
set_option maxRecDepth 100000 in
theorem c_Shelf_restart (l : Launch) (dC : Nat → ClassId) (dI : Nat → Nat → Nat) (tt : Nat → Nat) (h0 : Nat) (s_thrown : Int32) (s_fonts : Int32) (s_ids : Nat) (s_attributes : Nat) (s_permanent : Nat) (s_glyphs : Int32) (s_glyph : Nat) (s_used : Int32) (s_store : Nat) (s_draft : Nat) (s_wishes : Nat) (s_pins : Nat) (s_id : Int32) (s_code : Int32) (s_loading : Int32) (s_coming : Nat) (s_need : Int32) (s_came : Int32) (s_bytes : Nat) (s_left : Nat) (c1 : ClassId) (dr : Nat → Int32) (c2 : ClassId) (wi : Nat → Int32) (c3 : ClassId) (pn : Nat → Int32) (sz : Nat)  : Met l y_mShelf_restart w_mShelf_restart rm_c_Shelf_restart (va_Pc [.ref h0] (fun U => U.heap.size = sz ∧ va_P (dC, dI) vcl [(h0, .inr (18, [.int s_thrown, .int s_fonts, .ref s_ids, .ref s_attributes, .ref s_permanent, .int s_glyphs, .ref s_glyph, .int s_used, .ref s_store, .ref s_draft, .ref s_wishes, .ref s_pins, .int s_id, .int s_code, .int s_loading, .ref s_coming, .int s_need, .int s_came, .ref s_bytes, .ref s_left])), (s_draft, .inl (c1, 7, .inl dr)), (s_wishes, .inl (c2, 14, .inl wi)), (s_pins, .inl (c3, 2, .inl pn))] U.heap ∧ va_K (dC, dI) vcl [(c1, .int), (c2, .int), (c3, .int)] U ∧ va_D (fun _ => True) [(h0, .inr (18, [.int s_thrown, .int s_fonts, .ref s_ids, .ref s_attributes, .ref s_permanent, .int s_glyphs, .ref s_glyph, .int s_used, .ref s_store, .ref s_draft, .ref s_wishes, .ref s_pins, .int s_id, .int s_code, .int s_loading, .ref s_coming, .int s_need, .int s_came, .ref s_bytes, .ref s_left])), (s_draft, .inl (c1, 7, .inl dr)), (s_wishes, .inl (c2, 14, .inl wi)), (s_pins, .inl (c3, 2, .inl pn))] ∧ SF tt (va_A [(h0, .inr (18, [.int s_thrown, .int s_fonts, .ref s_ids, .ref s_attributes, .ref s_permanent, .int s_glyphs, .ref s_glyph, .int s_used, .ref s_store, .ref s_draft, .ref s_wishes, .ref s_pins, .int s_id, .int s_code, .int s_loading, .ref s_coming, .int s_need, .int s_came, .ref s_bytes, .ref s_left])), (s_draft, .inl (c1, 7, .inl dr)), (s_wishes, .inl (c2, 14, .inl wi)), (s_pins, .inl (c3, 2, .inl pn))] sz) U U.heap)) (q_c_Shelf_restart dC dI h0 s_thrown s_fonts s_ids s_attributes s_permanent s_glyphs s_glyph s_used s_store s_draft s_wishes s_pins s_id s_code s_loading s_coming s_need s_came s_bytes s_left c1 dr c2 wi c3 pn (va_A [(h0, .inr (18, [.int s_thrown, .int s_fonts, .ref s_ids, .ref s_attributes, .ref s_permanent, .int s_glyphs, .ref s_glyph, .int s_used, .ref s_store, .ref s_draft, .ref s_wishes, .ref s_pins, .int s_id, .int s_code, .int s_loading, .ref s_coming, .int s_need, .int s_came, .ref s_bytes, .ref s_left])), (s_draft, .inl (c1, 7, .inl dr)), (s_wishes, .inl (c2, 14, .inl wi)), (s_pins, .inl (c3, 2, .inl pn))] sz)) 0 0 (va_A [(h0, .inr (18, [.int s_thrown, .int s_fonts, .ref s_ids, .ref s_attributes, .ref s_permanent, .int s_glyphs, .ref s_glyph, .int s_used, .ref s_store, .ref s_draft, .ref s_wishes, .ref s_pins, .int s_id, .int s_code, .int s_loading, .ref s_coming, .int s_need, .int s_came, .ref s_bytes, .ref s_left])), (s_draft, .inl (c1, 7, .inl dr)), (s_wishes, .inl (c2, 14, .inl wi)), (s_pins, .inl (c3, 2, .inl pn))] sz) := by
  refine Met.ofW (cc := b_mShelf_restart) (maxL := 2) (ret := none) (by decide) rfl ?_
  intro p e s m args below meth c s₁ B hml hv
  obtain ⟨rfl, hsz, hP, hK, hD0, hF⟩ := hv
  have hx := B.exec
  have hb := B.bytes
  have hr := B.returns
  have hwd : ∀ w ∈ gT, w.before _ s = true := fun w h => atoms_spec (ws := w_mShelf_restart) B.pre w (List.mem_cons_of_mem _ h)
  have hown : s.vm.findClass R_mShelf = some m.cls := findClass_of_methodNamed B.named
  have hlocks := B.notSynchronized
  subst hsz
  have hD := hD0.self (sz := s.heap.size)
  generalize hAe : va_A [(h0, .inr (18, [.int s_thrown, .int s_fonts, .ref s_ids, .ref s_attributes, .ref s_permanent, .int s_glyphs, .ref s_glyph, .int s_used, .ref s_store, .ref s_draft, .ref s_wishes, .ref s_pins, .int s_id, .int s_code, .int s_loading, .ref s_coming, .int s_need, .int s_came, .ref s_bytes, .ref s_left])), (s_draft, .inl (c1, 7, .inl dr)), (s_wishes, .inl (c2, 14, .inl wi)), (s_pins, .inl (c3, 2, .inl pn))] s.heap.size = A at hD hF ⊢
  have hA : ∀ q : Nat, s.heap.size ≤ q → A q := fun q h => by rw [← hAe]; exact Or.inr h
  have hS : va_S A s.heap s.heap [] := va_S.rf
  have hP : va_P (dC, dI) vcl [(h0, .inr (18, [.int s_thrown, .int s_fonts, .ref s_ids, .ref s_attributes, .ref s_permanent, .int s_glyphs, .ref s_glyph, .int s_used, .ref s_store, .ref s_draft, .ref s_wishes, .ref s_pins, .int s_id, .int s_code, .int s_loading, .ref s_coming, .int s_need, .int s_came, .ref s_bytes, .ref s_left])), (s_draft, .inl (c1, 7, .inl dr)), (s_wishes, .inl (c2, 14, .inl wi)), (s_pins, .inl (c3, 2, .inl pn))] s.heap := hP
  have hl := lv_entry ([.ref h0]) (n := 2) (Nat.le_of_ble_eq_true rfl)
  rw [lg_entry_eq]
  generalize (lg_sl ([.ref h0]) ++ List.replicate (2 - (lg_sl ([.ref h0])).length) Slot.unset).toArray = ls at hl ⊢
  have hl : lv_has ls 2 [(0, .ref h0)] := hl
  refine lv_iconst (v := 0) hx hb d_mShelf_restart_0 (by decide) ?_
  refine lv_istore_n (lv' := [(1, .int 0), (0, .ref h0)]) hx hb d_mShelf_restart_1 rfl hl (by decide) rfl ?_
  clear hl
  intro ls hl
  refine lv_iload_n hx hb d_mShelf_restart_2 rfl (lv_at hl 0 rfl) ?_
  refine lv_bipush (v := 7) hx hb d_mShelf_restart_3 (by decide) ?_
  refine lv_icmp_ge (tgt := 90) hx hb d_mShelf_restart_5 (by decide) (fun c5 => absurd c5 (by decide)) (fun _ => ?_)
  refine lv_aload_n hx hb d_mShelf_restart_8 rfl (lv_at hl 1 rfl) ?_
  refine va_get (D := (dC, dI)) (ci := 18) (v := .ref s_draft) (C := R_mShelf) (T := F_mShelf) (N := 20) hx hb hwd i_mShelf hown hK hP 0 rfl rfl 9 (by decide) (hwd _ wd_9_217) (fun _ h9 => h9) rfl d_mShelf_restart_9 ?_
  refine lv_iload_n hx hb d_mShelf_restart_12 rfl (lv_at hl 0 rfl) ?_
  refine lv_iload_n hx hb d_mShelf_restart_13 rfl (lv_at hl 0 rfl) ?_
  refine lv_if_ne (tgt := 23) hx hb d_mShelf_restart_14 (by decide) (fun c14 => absurd c14 (by decide)) (fun _ => ?_)
  refine lv_sipush (v := 277) hx hb d_mShelf_restart_17 (by decide) ?_
  refine lv_goto (tgt := 56) hx hb d_mShelf_restart_20 (by decide) ?_
  refine va_iast hx hb hK hP hD hS 1 0 rfl rfl (show ¬ ((0 : Int32) < 0 ∨ 7 ≤ (0 : Int32).toNatClampNeg) by decide) d_mShelf_restart_56 ?_
  clear hP hD hS
  intro H locs hP hD hS
  rw [show (0 : Int32).toNatClampNeg = 0 by decide] at hP hD
  replace hP : va_P (dC, dI) vcl [(h0, .inr (18, [.int s_thrown, .int s_fonts, .ref s_ids, .ref s_attributes, .ref s_permanent, .int s_glyphs, .ref s_glyph, .int s_used, .ref s_store, .ref s_draft, .ref s_wishes, .ref s_pins, .int s_id, .int s_code, .int s_loading, .ref s_coming, .int s_need, .int s_came, .ref s_bytes, .ref s_left])), (s_draft, .inl (c1, 7, .inl (upd dr 0 277))), (s_wishes, .inl (c2, 14, .inl wi)), (s_pins, .inl (c3, 2, .inl pn))] H := hP
  replace hD : va_D A [(h0, .inr (18, [.int s_thrown, .int s_fonts, .ref s_ids, .ref s_attributes, .ref s_permanent, .int s_glyphs, .ref s_glyph, .int s_used, .ref s_store, .ref s_draft, .ref s_wishes, .ref s_pins, .int s_id, .int s_code, .int s_loading, .ref s_coming, .int s_need, .int s_came, .ref s_bytes, .ref s_left])), (s_draft, .inl (c1, 7, .inl (upd dr 0 277))), (s_wishes, .inl (c2, 14, .inl wi)), (s_pins, .inl (c3, 2, .inl pn))] := hD
  refine lv_aload_n hx hb d_mShelf_restart_57 rfl (lv_at hl 1 rfl) ?_
  refine va_get (D := (dC, dI)) (ci := 18) (v := .ref s_wishes) (C := R_mShelf) (T := F_mShelf) (N := 20) hx hb hwd i_mShelf hown hK hP 0 rfl rfl 10 (by decide) (hwd _ wd_9_219) (fun _ h9 => h9) rfl d_mShelf_restart_58 ?_
  refine lv_iload_n hx hb d_mShelf_restart_61 rfl (lv_at hl 0 rfl) ?_
  refine lv_aload_n hx hb d_mShelf_restart_62 rfl (lv_at hl 1 rfl) ?_
  refine va_get (D := (dC, dI)) (ci := 18) (v := .ref s_draft) (C := R_mShelf) (T := F_mShelf) (N := 20) hx hb hwd i_mShelf hown hK hP 0 rfl rfl 9 (by decide) (hwd _ wd_9_217) (fun _ h9 => h9) rfl d_mShelf_restart_63 ?_
  refine lv_iload_n hx hb d_mShelf_restart_66 rfl (lv_at hl 0 rfl) ?_
  refine va_iald hx hb hK hP 1 0 rfl rfl (show ¬ ((0 : Int32) < 0 ∨ 7 ≤ (0 : Int32).toNatClampNeg) by decide) d_mShelf_restart_67 ?_
  refine lv_topi (fun y_1 ey_1 => ?_)
  obtain rfl : y_1 = 277 := ey_1
  refine va_iast hx hb hK hP hD hS 2 1 rfl rfl (show ¬ ((0 : Int32) < 0 ∨ 14 ≤ (0 : Int32).toNatClampNeg) by decide) d_mShelf_restart_68 ?_
  clear hP hD hS
  intro H locs hP hD hS
  rw [show (0 : Int32).toNatClampNeg = 0 by decide] at hP hD
  replace hP : va_P (dC, dI) vcl [(h0, .inr (18, [.int s_thrown, .int s_fonts, .ref s_ids, .ref s_attributes, .ref s_permanent, .int s_glyphs, .ref s_glyph, .int s_used, .ref s_store, .ref s_draft, .ref s_wishes, .ref s_pins, .int s_id, .int s_code, .int s_loading, .ref s_coming, .int s_need, .int s_came, .ref s_bytes, .ref s_left])), (s_draft, .inl (c1, 7, .inl (upd dr 0 277))), (s_wishes, .inl (c2, 14, .inl (upd wi 0 277))), (s_pins, .inl (c3, 2, .inl pn))] H := hP
  replace hD : va_D A [(h0, .inr (18, [.int s_thrown, .int s_fonts, .ref s_ids, .ref s_attributes, .ref s_permanent, .int s_glyphs, .ref s_glyph, .int s_used, .ref s_store, .ref s_draft, .ref s_wishes, .ref s_pins, .int s_id, .int s_code, .int s_loading, .ref s_coming, .int s_need, .int s_came, .ref s_bytes, .ref s_left])), (s_draft, .inl (c1, 7, .inl (upd dr 0 277))), (s_wishes, .inl (c2, 14, .inl (upd wi 0 277))), (s_pins, .inl (c3, 2, .inl pn))] := hD
  refine lv_aload_n hx hb d_mShelf_restart_69 rfl (lv_at hl 1 rfl) ?_
  refine va_get (D := (dC, dI)) (ci := 18) (v := .ref s_wishes) (C := R_mShelf) (T := F_mShelf) (N := 20) hx hb hwd i_mShelf hown hK hP 0 rfl rfl 10 (by decide) (hwd _ wd_9_219) (fun _ h9 => h9) rfl d_mShelf_restart_70 ?_
  refine lv_bipush (v := 7) hx hb d_mShelf_restart_73 (by decide) ?_
  refine lv_iload_n hx hb d_mShelf_restart_75 rfl (lv_at hl 0 rfl) ?_
  refine lv_iadd hx hb d_mShelf_restart_76 ?_
  refine lv_topi (fun y_2 ey_2 => ?_)
  obtain rfl : y_2 = (7 : Int32) := ey_2.trans (by decide)
  refine lv_aload_n hx hb d_mShelf_restart_77 rfl (lv_at hl 1 rfl) ?_
  refine va_get (D := (dC, dI)) (ci := 18) (v := .ref s_draft) (C := R_mShelf) (T := F_mShelf) (N := 20) hx hb hwd i_mShelf hown hK hP 0 rfl rfl 9 (by decide) (hwd _ wd_9_217) (fun _ h9 => h9) rfl d_mShelf_restart_78 ?_
  refine lv_iload_n hx hb d_mShelf_restart_81 rfl (lv_at hl 0 rfl) ?_
  refine va_iald hx hb hK hP 1 0 rfl rfl (show ¬ ((0 : Int32) < 0 ∨ 7 ≤ (0 : Int32).toNatClampNeg) by decide) d_mShelf_restart_82 ?_
  refine lv_topi (fun y_3 ey_3 => ?_)
  obtain rfl : y_3 = 277 := ey_3
  refine va_iast hx hb hK hP hD hS 2 1 rfl rfl (show ¬ ((7 : Int32) < 0 ∨ 14 ≤ (7 : Int32).toNatClampNeg) by decide) d_mShelf_restart_83 ?_
  clear hP hD hS
  intro H locs hP hD hS
  rw [show (7 : Int32).toNatClampNeg = 7 by decide] at hP hD
  replace hP : va_P (dC, dI) vcl [(h0, .inr (18, [.int s_thrown, .int s_fonts, .ref s_ids, .ref s_attributes, .ref s_permanent, .int s_glyphs, .ref s_glyph, .int s_used, .ref s_store, .ref s_draft, .ref s_wishes, .ref s_pins, .int s_id, .int s_code, .int s_loading, .ref s_coming, .int s_need, .int s_came, .ref s_bytes, .ref s_left])), (s_draft, .inl (c1, 7, .inl (upd dr 0 277))), (s_wishes, .inl (c2, 14, .inl (upd (upd wi 0 277) 7 277))), (s_pins, .inl (c3, 2, .inl pn))] H := hP
  replace hD : va_D A [(h0, .inr (18, [.int s_thrown, .int s_fonts, .ref s_ids, .ref s_attributes, .ref s_permanent, .int s_glyphs, .ref s_glyph, .int s_used, .ref s_store, .ref s_draft, .ref s_wishes, .ref s_pins, .int s_id, .int s_code, .int s_loading, .ref s_coming, .int s_need, .int s_came, .ref s_bytes, .ref s_left])), (s_draft, .inl (c1, 7, .inl (upd dr 0 277))), (s_wishes, .inl (c2, 14, .inl (upd (upd wi 0 277) 7 277))), (s_pins, .inl (c3, 2, .inl pn))] := hD
  refine lv_iinc (v := 1) (lv' := [(1, .int 1), (0, .ref h0)]) hx hb d_mShelf_restart_84 hl (k := 0) rfl (by decide) (by decide) rfl ?_
  clear hl
  intro ls hl
  refine lv_goto (tgt := 2) hx hb d_mShelf_restart_87 (by decide) ?_
  refine lv_iload_n hx hb d_mShelf_restart_2 rfl (lv_at hl 0 rfl) ?_
  refine lv_bipush (v := 7) hx hb d_mShelf_restart_3 (by decide) ?_
  refine lv_icmp_ge (tgt := 90) hx hb d_mShelf_restart_5 (by decide) (fun c5 => absurd c5 (by decide)) (fun _ => ?_)
  refine lv_aload_n hx hb d_mShelf_restart_8 rfl (lv_at hl 1 rfl) ?_
  refine va_get (D := (dC, dI)) (ci := 18) (v := .ref s_draft) (C := R_mShelf) (T := F_mShelf) (N := 20) hx hb hwd i_mShelf hown hK hP 0 rfl rfl 9 (by decide) (hwd _ wd_9_217) (fun _ h9 => h9) rfl d_mShelf_restart_9 ?_
  refine lv_iload_n hx hb d_mShelf_restart_12 rfl (lv_at hl 0 rfl) ?_
  refine lv_iload_n hx hb d_mShelf_restart_13 rfl (lv_at hl 0 rfl) ?_
  refine lv_if_ne (tgt := 23) hx hb d_mShelf_restart_14 (by decide) (fun _ => ?_) (fun c14 => absurd c14 (by decide))
  refine lv_iload_n hx hb d_mShelf_restart_23 rfl (lv_at hl 0 rfl) ?_
  refine lv_iconst (v := 2) hx hb d_mShelf_restart_24 (by decide) ?_
  refine lv_icmp_ne (tgt := 34) hx hb d_mShelf_restart_25 (by decide) (fun _ => ?_) (fun c25 => absurd c25 (by decide))
  refine lv_iload_n hx hb d_mShelf_restart_34 rfl (lv_at hl 0 rfl) ?_
  refine lv_iconst (v := 3) hx hb d_mShelf_restart_35 (by decide) ?_
  refine lv_icmp_ne (tgt := 45) hx hb d_mShelf_restart_36 (by decide) (fun _ => ?_) (fun c36 => absurd c36 (by decide))
  refine lv_iload_n hx hb d_mShelf_restart_45 rfl (lv_at hl 0 rfl) ?_
  refine lv_bipush (v := 6) hx hb d_mShelf_restart_46 (by decide) ?_
  refine lv_icmp_ne (tgt := 55) hx hb d_mShelf_restart_48 (by decide) (fun _ => ?_) (fun c48 => absurd c48 (by decide))
  refine lv_iconst (v := 0) hx hb d_mShelf_restart_55 (by decide) ?_
  refine va_iast hx hb hK hP hD hS 1 0 rfl rfl (show ¬ ((1 : Int32) < 0 ∨ 7 ≤ (1 : Int32).toNatClampNeg) by decide) d_mShelf_restart_56 ?_
  clear hP hD hS
  intro H locs hP hD hS
  rw [show (1 : Int32).toNatClampNeg = 1 by decide] at hP hD
  replace hP : va_P (dC, dI) vcl [(h0, .inr (18, [.int s_thrown, .int s_fonts, .ref s_ids, .ref s_attributes, .ref s_permanent, .int s_glyphs, .ref s_glyph, .int s_used, .ref s_store, .ref s_draft, .ref s_wishes, .ref s_pins, .int s_id, .int s_code, .int s_loading, .ref s_coming, .int s_need, .int s_came, .ref s_bytes, .ref s_left])), (s_draft, .inl (c1, 7, .inl (upd (upd dr 0 277) 1 0))), (s_wishes, .inl (c2, 14, .inl (upd (upd wi 0 277) 7 277))), (s_pins, .inl (c3, 2, .inl pn))] H := hP
  replace hD : va_D A [(h0, .inr (18, [.int s_thrown, .int s_fonts, .ref s_ids, .ref s_attributes, .ref s_permanent, .int s_glyphs, .ref s_glyph, .int s_used, .ref s_store, .ref s_draft, .ref s_wishes, .ref s_pins, .int s_id, .int s_code, .int s_loading, .ref s_coming, .int s_need, .int s_came, .ref s_bytes, .ref s_left])), (s_draft, .inl (c1, 7, .inl (upd (upd dr 0 277) 1 0))), (s_wishes, .inl (c2, 14, .inl (upd (upd wi 0 277) 7 277))), (s_pins, .inl (c3, 2, .inl pn))] := hD
  refine lv_aload_n hx hb d_mShelf_restart_57 rfl (lv_at hl 1 rfl) ?_
  refine va_get (D := (dC, dI)) (ci := 18) (v := .ref s_wishes) (C := R_mShelf) (T := F_mShelf) (N := 20) hx hb hwd i_mShelf hown hK hP 0 rfl rfl 10 (by decide) (hwd _ wd_9_219) (fun _ h9 => h9) rfl d_mShelf_restart_58 ?_
  refine lv_iload_n hx hb d_mShelf_restart_61 rfl (lv_at hl 0 rfl) ?_
  refine lv_aload_n hx hb d_mShelf_restart_62 rfl (lv_at hl 1 rfl) ?_
  refine va_get (D := (dC, dI)) (ci := 18) (v := .ref s_draft) (C := R_mShelf) (T := F_mShelf) (N := 20) hx hb hwd i_mShelf hown hK hP 0 rfl rfl 9 (by decide) (hwd _ wd_9_217) (fun _ h9 => h9) rfl d_mShelf_restart_63 ?_
  refine lv_iload_n hx hb d_mShelf_restart_66 rfl (lv_at hl 0 rfl) ?_
  refine va_iald hx hb hK hP 1 0 rfl rfl (show ¬ ((1 : Int32) < 0 ∨ 7 ≤ (1 : Int32).toNatClampNeg) by decide) d_mShelf_restart_67 ?_
  refine lv_topi (fun y_4 ey_4 => ?_)
  obtain rfl : y_4 = 0 := ey_4
  refine va_iast hx hb hK hP hD hS 2 1 rfl rfl (show ¬ ((1 : Int32) < 0 ∨ 14 ≤ (1 : Int32).toNatClampNeg) by decide) d_mShelf_restart_68 ?_
  clear hP hD hS
  intro H locs hP hD hS
  rw [show (1 : Int32).toNatClampNeg = 1 by decide] at hP hD
  replace hP : va_P (dC, dI) vcl [(h0, .inr (18, [.int s_thrown, .int s_fonts, .ref s_ids, .ref s_attributes, .ref s_permanent, .int s_glyphs, .ref s_glyph, .int s_used, .ref s_store, .ref s_draft, .ref s_wishes, .ref s_pins, .int s_id, .int s_code, .int s_loading, .ref s_coming, .int s_need, .int s_came, .ref s_bytes, .ref s_left])), (s_draft, .inl (c1, 7, .inl (upd (upd dr 0 277) 1 0))), (s_wishes, .inl (c2, 14, .inl (upd (upd (upd wi 0 277) 7 277) 1 0))), (s_pins, .inl (c3, 2, .inl pn))] H := hP
  replace hD : va_D A [(h0, .inr (18, [.int s_thrown, .int s_fonts, .ref s_ids, .ref s_attributes, .ref s_permanent, .int s_glyphs, .ref s_glyph, .int s_used, .ref s_store, .ref s_draft, .ref s_wishes, .ref s_pins, .int s_id, .int s_code, .int s_loading, .ref s_coming, .int s_need, .int s_came, .ref s_bytes, .ref s_left])), (s_draft, .inl (c1, 7, .inl (upd (upd dr 0 277) 1 0))), (s_wishes, .inl (c2, 14, .inl (upd (upd (upd wi 0 277) 7 277) 1 0))), (s_pins, .inl (c3, 2, .inl pn))] := hD
  refine lv_aload_n hx hb d_mShelf_restart_69 rfl (lv_at hl 1 rfl) ?_
  refine va_get (D := (dC, dI)) (ci := 18) (v := .ref s_wishes) (C := R_mShelf) (T := F_mShelf) (N := 20) hx hb hwd i_mShelf hown hK hP 0 rfl rfl 10 (by decide) (hwd _ wd_9_219) (fun _ h9 => h9) rfl d_mShelf_restart_70 ?_
  refine lv_bipush (v := 7) hx hb d_mShelf_restart_73 (by decide) ?_
  refine lv_iload_n hx hb d_mShelf_restart_75 rfl (lv_at hl 0 rfl) ?_
  refine lv_iadd hx hb d_mShelf_restart_76 ?_
  refine lv_topi (fun y_5 ey_5 => ?_)
  obtain rfl : y_5 = (8 : Int32) := ey_5.trans (by decide)
  refine lv_aload_n hx hb d_mShelf_restart_77 rfl (lv_at hl 1 rfl) ?_
  refine va_get (D := (dC, dI)) (ci := 18) (v := .ref s_draft) (C := R_mShelf) (T := F_mShelf) (N := 20) hx hb hwd i_mShelf hown hK hP 0 rfl rfl 9 (by decide) (hwd _ wd_9_217) (fun _ h9 => h9) rfl d_mShelf_restart_78 ?_
  refine lv_iload_n hx hb d_mShelf_restart_81 rfl (lv_at hl 0 rfl) ?_
  refine va_iald hx hb hK hP 1 0 rfl rfl (show ¬ ((1 : Int32) < 0 ∨ 7 ≤ (1 : Int32).toNatClampNeg) by decide) d_mShelf_restart_82 ?_
  refine lv_topi (fun y_6 ey_6 => ?_)
  obtain rfl : y_6 = 0 := ey_6
  refine va_iast hx hb hK hP hD hS 2 1 rfl rfl (show ¬ ((8 : Int32) < 0 ∨ 14 ≤ (8 : Int32).toNatClampNeg) by decide) d_mShelf_restart_83 ?_
  clear hP hD hS
  intro H locs hP hD hS
  rw [show (8 : Int32).toNatClampNeg = 8 by decide] at hP hD
  replace hP : va_P (dC, dI) vcl [(h0, .inr (18, [.int s_thrown, .int s_fonts, .ref s_ids, .ref s_attributes, .ref s_permanent, .int s_glyphs, .ref s_glyph, .int s_used, .ref s_store, .ref s_draft, .ref s_wishes, .ref s_pins, .int s_id, .int s_code, .int s_loading, .ref s_coming, .int s_need, .int s_came, .ref s_bytes, .ref s_left])), (s_draft, .inl (c1, 7, .inl (upd (upd dr 0 277) 1 0))), (s_wishes, .inl (c2, 14, .inl (upd (upd (upd (upd wi 0 277) 7 277) 1 0) 8 0))), (s_pins, .inl (c3, 2, .inl pn))] H := hP
  replace hD : va_D A [(h0, .inr (18, [.int s_thrown, .int s_fonts, .ref s_ids, .ref s_attributes, .ref s_permanent, .int s_glyphs, .ref s_glyph, .int s_used, .ref s_store, .ref s_draft, .ref s_wishes, .ref s_pins, .int s_id, .int s_code, .int s_loading, .ref s_coming, .int s_need, .int s_came, .ref s_bytes, .ref s_left])), (s_draft, .inl (c1, 7, .inl (upd (upd dr 0 277) 1 0))), (s_wishes, .inl (c2, 14, .inl (upd (upd (upd (upd wi 0 277) 7 277) 1 0) 8 0))), (s_pins, .inl (c3, 2, .inl pn))] := hD
  refine lv_iinc (v := 2) (lv' := [(1, .int 2), (0, .ref h0)]) hx hb d_mShelf_restart_84 hl (k := 0) rfl (by decide) (by decide) rfl ?_
  clear hl
  intro ls hl
  refine lv_goto (tgt := 2) hx hb d_mShelf_restart_87 (by decide) ?_
  refine lv_iload_n hx hb d_mShelf_restart_2 rfl (lv_at hl 0 rfl) ?_
  refine lv_bipush (v := 7) hx hb d_mShelf_restart_3 (by decide) ?_
  refine lv_icmp_ge (tgt := 90) hx hb d_mShelf_restart_5 (by decide) (fun c5 => absurd c5 (by decide)) (fun _ => ?_)
  refine lv_aload_n hx hb d_mShelf_restart_8 rfl (lv_at hl 1 rfl) ?_
  refine va_get (D := (dC, dI)) (ci := 18) (v := .ref s_draft) (C := R_mShelf) (T := F_mShelf) (N := 20) hx hb hwd i_mShelf hown hK hP 0 rfl rfl 9 (by decide) (hwd _ wd_9_217) (fun _ h9 => h9) rfl d_mShelf_restart_9 ?_
  refine lv_iload_n hx hb d_mShelf_restart_12 rfl (lv_at hl 0 rfl) ?_
  refine lv_iload_n hx hb d_mShelf_restart_13 rfl (lv_at hl 0 rfl) ?_
  refine lv_if_ne (tgt := 23) hx hb d_mShelf_restart_14 (by decide) (fun _ => ?_) (fun c14 => absurd c14 (by decide))
  refine lv_iload_n hx hb d_mShelf_restart_23 rfl (lv_at hl 0 rfl) ?_
  refine lv_iconst (v := 2) hx hb d_mShelf_restart_24 (by decide) ?_
  refine lv_icmp_ne (tgt := 34) hx hb d_mShelf_restart_25 (by decide) (fun c25 => absurd c25 (by decide)) (fun _ => ?_)
  refine lv_sipush (v := 1000) hx hb d_mShelf_restart_28 (by decide) ?_
  refine lv_goto (tgt := 56) hx hb d_mShelf_restart_31 (by decide) ?_
  refine va_iast hx hb hK hP hD hS 1 0 rfl rfl (show ¬ ((2 : Int32) < 0 ∨ 7 ≤ (2 : Int32).toNatClampNeg) by decide) d_mShelf_restart_56 ?_
  clear hP hD hS
  intro H locs hP hD hS
  rw [show (2 : Int32).toNatClampNeg = 2 by decide] at hP hD
  replace hP : va_P (dC, dI) vcl [(h0, .inr (18, [.int s_thrown, .int s_fonts, .ref s_ids, .ref s_attributes, .ref s_permanent, .int s_glyphs, .ref s_glyph, .int s_used, .ref s_store, .ref s_draft, .ref s_wishes, .ref s_pins, .int s_id, .int s_code, .int s_loading, .ref s_coming, .int s_need, .int s_came, .ref s_bytes, .ref s_left])), (s_draft, .inl (c1, 7, .inl (upd (upd (upd dr 0 277) 1 0) 2 1000))), (s_wishes, .inl (c2, 14, .inl (upd (upd (upd (upd wi 0 277) 7 277) 1 0) 8 0))), (s_pins, .inl (c3, 2, .inl pn))] H := hP
  replace hD : va_D A [(h0, .inr (18, [.int s_thrown, .int s_fonts, .ref s_ids, .ref s_attributes, .ref s_permanent, .int s_glyphs, .ref s_glyph, .int s_used, .ref s_store, .ref s_draft, .ref s_wishes, .ref s_pins, .int s_id, .int s_code, .int s_loading, .ref s_coming, .int s_need, .int s_came, .ref s_bytes, .ref s_left])), (s_draft, .inl (c1, 7, .inl (upd (upd (upd dr 0 277) 1 0) 2 1000))), (s_wishes, .inl (c2, 14, .inl (upd (upd (upd (upd wi 0 277) 7 277) 1 0) 8 0))), (s_pins, .inl (c3, 2, .inl pn))] := hD
  refine lv_aload_n hx hb d_mShelf_restart_57 rfl (lv_at hl 1 rfl) ?_
  refine va_get (D := (dC, dI)) (ci := 18) (v := .ref s_wishes) (C := R_mShelf) (T := F_mShelf) (N := 20) hx hb hwd i_mShelf hown hK hP 0 rfl rfl 10 (by decide) (hwd _ wd_9_219) (fun _ h9 => h9) rfl d_mShelf_restart_58 ?_
  refine lv_iload_n hx hb d_mShelf_restart_61 rfl (lv_at hl 0 rfl) ?_
  refine lv_aload_n hx hb d_mShelf_restart_62 rfl (lv_at hl 1 rfl) ?_
  refine va_get (D := (dC, dI)) (ci := 18) (v := .ref s_draft) (C := R_mShelf) (T := F_mShelf) (N := 20) hx hb hwd i_mShelf hown hK hP 0 rfl rfl 9 (by decide) (hwd _ wd_9_217) (fun _ h9 => h9) rfl d_mShelf_restart_63 ?_
  refine lv_iload_n hx hb d_mShelf_restart_66 rfl (lv_at hl 0 rfl) ?_
  refine va_iald hx hb hK hP 1 0 rfl rfl (show ¬ ((2 : Int32) < 0 ∨ 7 ≤ (2 : Int32).toNatClampNeg) by decide) d_mShelf_restart_67 ?_
  refine lv_topi (fun y_7 ey_7 => ?_)
  obtain rfl : y_7 = 1000 := ey_7
  refine va_iast hx hb hK hP hD hS 2 1 rfl rfl (show ¬ ((2 : Int32) < 0 ∨ 14 ≤ (2 : Int32).toNatClampNeg) by decide) d_mShelf_restart_68 ?_
  clear hP hD hS
  intro H locs hP hD hS
  rw [show (2 : Int32).toNatClampNeg = 2 by decide] at hP hD
  replace hP : va_P (dC, dI) vcl [(h0, .inr (18, [.int s_thrown, .int s_fonts, .ref s_ids, .ref s_attributes, .ref s_permanent, .int s_glyphs, .ref s_glyph, .int s_used, .ref s_store, .ref s_draft, .ref s_wishes, .ref s_pins, .int s_id, .int s_code, .int s_loading, .ref s_coming, .int s_need, .int s_came, .ref s_bytes, .ref s_left])), (s_draft, .inl (c1, 7, .inl (upd (upd (upd dr 0 277) 1 0) 2 1000))), (s_wishes, .inl (c2, 14, .inl (upd (upd (upd (upd (upd wi 0 277) 7 277) 1 0) 8 0) 2 1000))), (s_pins, .inl (c3, 2, .inl pn))] H := hP
  replace hD : va_D A [(h0, .inr (18, [.int s_thrown, .int s_fonts, .ref s_ids, .ref s_attributes, .ref s_permanent, .int s_glyphs, .ref s_glyph, .int s_used, .ref s_store, .ref s_draft, .ref s_wishes, .ref s_pins, .int s_id, .int s_code, .int s_loading, .ref s_coming, .int s_need, .int s_came, .ref s_bytes, .ref s_left])), (s_draft, .inl (c1, 7, .inl (upd (upd (upd dr 0 277) 1 0) 2 1000))), (s_wishes, .inl (c2, 14, .inl (upd (upd (upd (upd (upd wi 0 277) 7 277) 1 0) 8 0) 2 1000))), (s_pins, .inl (c3, 2, .inl pn))] := hD
  refine lv_aload_n hx hb d_mShelf_restart_69 rfl (lv_at hl 1 rfl) ?_
  refine va_get (D := (dC, dI)) (ci := 18) (v := .ref s_wishes) (C := R_mShelf) (T := F_mShelf) (N := 20) hx hb hwd i_mShelf hown hK hP 0 rfl rfl 10 (by decide) (hwd _ wd_9_219) (fun _ h9 => h9) rfl d_mShelf_restart_70 ?_
  refine lv_bipush (v := 7) hx hb d_mShelf_restart_73 (by decide) ?_
  refine lv_iload_n hx hb d_mShelf_restart_75 rfl (lv_at hl 0 rfl) ?_
  refine lv_iadd hx hb d_mShelf_restart_76 ?_
  refine lv_topi (fun y_8 ey_8 => ?_)
  obtain rfl : y_8 = (9 : Int32) := ey_8.trans (by decide)
  refine lv_aload_n hx hb d_mShelf_restart_77 rfl (lv_at hl 1 rfl) ?_
  refine va_get (D := (dC, dI)) (ci := 18) (v := .ref s_draft) (C := R_mShelf) (T := F_mShelf) (N := 20) hx hb hwd i_mShelf hown hK hP 0 rfl rfl 9 (by decide) (hwd _ wd_9_217) (fun _ h9 => h9) rfl d_mShelf_restart_78 ?_
  refine lv_iload_n hx hb d_mShelf_restart_81 rfl (lv_at hl 0 rfl) ?_
  refine va_iald hx hb hK hP 1 0 rfl rfl (show ¬ ((2 : Int32) < 0 ∨ 7 ≤ (2 : Int32).toNatClampNeg) by decide) d_mShelf_restart_82 ?_
  refine lv_topi (fun y_9 ey_9 => ?_)
  obtain rfl : y_9 = 1000 := ey_9
  refine va_iast hx hb hK hP hD hS 2 1 rfl rfl (show ¬ ((9 : Int32) < 0 ∨ 14 ≤ (9 : Int32).toNatClampNeg) by decide) d_mShelf_restart_83 ?_
  clear hP hD hS
  intro H locs hP hD hS
  rw [show (9 : Int32).toNatClampNeg = 9 by decide] at hP hD
  replace hP : va_P (dC, dI) vcl [(h0, .inr (18, [.int s_thrown, .int s_fonts, .ref s_ids, .ref s_attributes, .ref s_permanent, .int s_glyphs, .ref s_glyph, .int s_used, .ref s_store, .ref s_draft, .ref s_wishes, .ref s_pins, .int s_id, .int s_code, .int s_loading, .ref s_coming, .int s_need, .int s_came, .ref s_bytes, .ref s_left])), (s_draft, .inl (c1, 7, .inl (upd (upd (upd dr 0 277) 1 0) 2 1000))), (s_wishes, .inl (c2, 14, .inl (upd (upd (upd (upd (upd (upd wi 0 277) 7 277) 1 0) 8 0) 2 1000) 9 1000))), (s_pins, .inl (c3, 2, .inl pn))] H := hP
  replace hD : va_D A [(h0, .inr (18, [.int s_thrown, .int s_fonts, .ref s_ids, .ref s_attributes, .ref s_permanent, .int s_glyphs, .ref s_glyph, .int s_used, .ref s_store, .ref s_draft, .ref s_wishes, .ref s_pins, .int s_id, .int s_code, .int s_loading, .ref s_coming, .int s_need, .int s_came, .ref s_bytes, .ref s_left])), (s_draft, .inl (c1, 7, .inl (upd (upd (upd dr 0 277) 1 0) 2 1000))), (s_wishes, .inl (c2, 14, .inl (upd (upd (upd (upd (upd (upd wi 0 277) 7 277) 1 0) 8 0) 2 1000) 9 1000))), (s_pins, .inl (c3, 2, .inl pn))] := hD
  refine lv_iinc (v := 3) (lv' := [(1, .int 3), (0, .ref h0)]) hx hb d_mShelf_restart_84 hl (k := 0) rfl (by decide) (by decide) rfl ?_
  clear hl
  intro ls hl
  refine lv_goto (tgt := 2) hx hb d_mShelf_restart_87 (by decide) ?_
  refine lv_iload_n hx hb d_mShelf_restart_2 rfl (lv_at hl 0 rfl) ?_
  refine lv_bipush (v := 7) hx hb d_mShelf_restart_3 (by decide) ?_
  refine lv_icmp_ge (tgt := 90) hx hb d_mShelf_restart_5 (by decide) (fun c5 => absurd c5 (by decide)) (fun _ => ?_)
  refine lv_aload_n hx hb d_mShelf_restart_8 rfl (lv_at hl 1 rfl) ?_
  refine va_get (D := (dC, dI)) (ci := 18) (v := .ref s_draft) (C := R_mShelf) (T := F_mShelf) (N := 20) hx hb hwd i_mShelf hown hK hP 0 rfl rfl 9 (by decide) (hwd _ wd_9_217) (fun _ h9 => h9) rfl d_mShelf_restart_9 ?_
  refine lv_iload_n hx hb d_mShelf_restart_12 rfl (lv_at hl 0 rfl) ?_
  refine lv_iload_n hx hb d_mShelf_restart_13 rfl (lv_at hl 0 rfl) ?_
  refine lv_if_ne (tgt := 23) hx hb d_mShelf_restart_14 (by decide) (fun _ => ?_) (fun c14 => absurd c14 (by decide))
  refine lv_iload_n hx hb d_mShelf_restart_23 rfl (lv_at hl 0 rfl) ?_
  refine lv_iconst (v := 2) hx hb d_mShelf_restart_24 (by decide) ?_
  refine lv_icmp_ne (tgt := 34) hx hb d_mShelf_restart_25 (by decide) (fun _ => ?_) (fun c25 => absurd c25 (by decide))
  refine lv_iload_n hx hb d_mShelf_restart_34 rfl (lv_at hl 0 rfl) ?_
  refine lv_iconst (v := 3) hx hb d_mShelf_restart_35 (by decide) ?_
  refine lv_icmp_ne (tgt := 45) hx hb d_mShelf_restart_36 (by decide) (fun c36 => absurd c36 (by decide)) (fun _ => ?_)
  refine lv_sipush (v := 1200) hx hb d_mShelf_restart_39 (by decide) ?_
  refine lv_goto (tgt := 56) hx hb d_mShelf_restart_42 (by decide) ?_
  refine va_iast hx hb hK hP hD hS 1 0 rfl rfl (show ¬ ((3 : Int32) < 0 ∨ 7 ≤ (3 : Int32).toNatClampNeg) by decide) d_mShelf_restart_56 ?_
  clear hP hD hS
  intro H locs hP hD hS
  rw [show (3 : Int32).toNatClampNeg = 3 by decide] at hP hD
  replace hP : va_P (dC, dI) vcl [(h0, .inr (18, [.int s_thrown, .int s_fonts, .ref s_ids, .ref s_attributes, .ref s_permanent, .int s_glyphs, .ref s_glyph, .int s_used, .ref s_store, .ref s_draft, .ref s_wishes, .ref s_pins, .int s_id, .int s_code, .int s_loading, .ref s_coming, .int s_need, .int s_came, .ref s_bytes, .ref s_left])), (s_draft, .inl (c1, 7, .inl (upd (upd (upd (upd dr 0 277) 1 0) 2 1000) 3 1200))), (s_wishes, .inl (c2, 14, .inl (upd (upd (upd (upd (upd (upd wi 0 277) 7 277) 1 0) 8 0) 2 1000) 9 1000))), (s_pins, .inl (c3, 2, .inl pn))] H := hP
  replace hD : va_D A [(h0, .inr (18, [.int s_thrown, .int s_fonts, .ref s_ids, .ref s_attributes, .ref s_permanent, .int s_glyphs, .ref s_glyph, .int s_used, .ref s_store, .ref s_draft, .ref s_wishes, .ref s_pins, .int s_id, .int s_code, .int s_loading, .ref s_coming, .int s_need, .int s_came, .ref s_bytes, .ref s_left])), (s_draft, .inl (c1, 7, .inl (upd (upd (upd (upd dr 0 277) 1 0) 2 1000) 3 1200))), (s_wishes, .inl (c2, 14, .inl (upd (upd (upd (upd (upd (upd wi 0 277) 7 277) 1 0) 8 0) 2 1000) 9 1000))), (s_pins, .inl (c3, 2, .inl pn))] := hD
  refine lv_aload_n hx hb d_mShelf_restart_57 rfl (lv_at hl 1 rfl) ?_
  refine va_get (D := (dC, dI)) (ci := 18) (v := .ref s_wishes) (C := R_mShelf) (T := F_mShelf) (N := 20) hx hb hwd i_mShelf hown hK hP 0 rfl rfl 10 (by decide) (hwd _ wd_9_219) (fun _ h9 => h9) rfl d_mShelf_restart_58 ?_
  refine lv_iload_n hx hb d_mShelf_restart_61 rfl (lv_at hl 0 rfl) ?_
  refine lv_aload_n hx hb d_mShelf_restart_62 rfl (lv_at hl 1 rfl) ?_
  refine va_get (D := (dC, dI)) (ci := 18) (v := .ref s_draft) (C := R_mShelf) (T := F_mShelf) (N := 20) hx hb hwd i_mShelf hown hK hP 0 rfl rfl 9 (by decide) (hwd _ wd_9_217) (fun _ h9 => h9) rfl d_mShelf_restart_63 ?_
  refine lv_iload_n hx hb d_mShelf_restart_66 rfl (lv_at hl 0 rfl) ?_
  refine va_iald hx hb hK hP 1 0 rfl rfl (show ¬ ((3 : Int32) < 0 ∨ 7 ≤ (3 : Int32).toNatClampNeg) by decide) d_mShelf_restart_67 ?_
  refine lv_topi (fun y_10 ey_10 => ?_)
  obtain rfl : y_10 = 1200 := ey_10
  refine va_iast hx hb hK hP hD hS 2 1 rfl rfl (show ¬ ((3 : Int32) < 0 ∨ 14 ≤ (3 : Int32).toNatClampNeg) by decide) d_mShelf_restart_68 ?_
  clear hP hD hS
  intro H locs hP hD hS
  rw [show (3 : Int32).toNatClampNeg = 3 by decide] at hP hD
  replace hP : va_P (dC, dI) vcl [(h0, .inr (18, [.int s_thrown, .int s_fonts, .ref s_ids, .ref s_attributes, .ref s_permanent, .int s_glyphs, .ref s_glyph, .int s_used, .ref s_store, .ref s_draft, .ref s_wishes, .ref s_pins, .int s_id, .int s_code, .int s_loading, .ref s_coming, .int s_need, .int s_came, .ref s_bytes, .ref s_left])), (s_draft, .inl (c1, 7, .inl (upd (upd (upd (upd dr 0 277) 1 0) 2 1000) 3 1200))), (s_wishes, .inl (c2, 14, .inl (upd (upd (upd (upd (upd (upd (upd wi 0 277) 7 277) 1 0) 8 0) 2 1000) 9 1000) 3 1200))), (s_pins, .inl (c3, 2, .inl pn))] H := hP
  replace hD : va_D A [(h0, .inr (18, [.int s_thrown, .int s_fonts, .ref s_ids, .ref s_attributes, .ref s_permanent, .int s_glyphs, .ref s_glyph, .int s_used, .ref s_store, .ref s_draft, .ref s_wishes, .ref s_pins, .int s_id, .int s_code, .int s_loading, .ref s_coming, .int s_need, .int s_came, .ref s_bytes, .ref s_left])), (s_draft, .inl (c1, 7, .inl (upd (upd (upd (upd dr 0 277) 1 0) 2 1000) 3 1200))), (s_wishes, .inl (c2, 14, .inl (upd (upd (upd (upd (upd (upd (upd wi 0 277) 7 277) 1 0) 8 0) 2 1000) 9 1000) 3 1200))), (s_pins, .inl (c3, 2, .inl pn))] := hD
  refine lv_aload_n hx hb d_mShelf_restart_69 rfl (lv_at hl 1 rfl) ?_
  refine va_get (D := (dC, dI)) (ci := 18) (v := .ref s_wishes) (C := R_mShelf) (T := F_mShelf) (N := 20) hx hb hwd i_mShelf hown hK hP 0 rfl rfl 10 (by decide) (hwd _ wd_9_219) (fun _ h9 => h9) rfl d_mShelf_restart_70 ?_
  refine lv_bipush (v := 7) hx hb d_mShelf_restart_73 (by decide) ?_
  refine lv_iload_n hx hb d_mShelf_restart_75 rfl (lv_at hl 0 rfl) ?_
  refine lv_iadd hx hb d_mShelf_restart_76 ?_
  refine lv_topi (fun y_11 ey_11 => ?_)
  obtain rfl : y_11 = (10 : Int32) := ey_11.trans (by decide)
  refine lv_aload_n hx hb d_mShelf_restart_77 rfl (lv_at hl 1 rfl) ?_
  refine va_get (D := (dC, dI)) (ci := 18) (v := .ref s_draft) (C := R_mShelf) (T := F_mShelf) (N := 20) hx hb hwd i_mShelf hown hK hP 0 rfl rfl 9 (by decide) (hwd _ wd_9_217) (fun _ h9 => h9) rfl d_mShelf_restart_78 ?_
  refine lv_iload_n hx hb d_mShelf_restart_81 rfl (lv_at hl 0 rfl) ?_
  refine va_iald hx hb hK hP 1 0 rfl rfl (show ¬ ((3 : Int32) < 0 ∨ 7 ≤ (3 : Int32).toNatClampNeg) by decide) d_mShelf_restart_82 ?_
  refine lv_topi (fun y_12 ey_12 => ?_)
  obtain rfl : y_12 = 1200 := ey_12
  refine va_iast hx hb hK hP hD hS 2 1 rfl rfl (show ¬ ((10 : Int32) < 0 ∨ 14 ≤ (10 : Int32).toNatClampNeg) by decide) d_mShelf_restart_83 ?_
  clear hP hD hS
  intro H locs hP hD hS
  rw [show (10 : Int32).toNatClampNeg = 10 by decide] at hP hD
  replace hP : va_P (dC, dI) vcl [(h0, .inr (18, [.int s_thrown, .int s_fonts, .ref s_ids, .ref s_attributes, .ref s_permanent, .int s_glyphs, .ref s_glyph, .int s_used, .ref s_store, .ref s_draft, .ref s_wishes, .ref s_pins, .int s_id, .int s_code, .int s_loading, .ref s_coming, .int s_need, .int s_came, .ref s_bytes, .ref s_left])), (s_draft, .inl (c1, 7, .inl (upd (upd (upd (upd dr 0 277) 1 0) 2 1000) 3 1200))), (s_wishes, .inl (c2, 14, .inl (upd (upd (upd (upd (upd (upd (upd (upd wi 0 277) 7 277) 1 0) 8 0) 2 1000) 9 1000) 3 1200) 10 1200))), (s_pins, .inl (c3, 2, .inl pn))] H := hP
  replace hD : va_D A [(h0, .inr (18, [.int s_thrown, .int s_fonts, .ref s_ids, .ref s_attributes, .ref s_permanent, .int s_glyphs, .ref s_glyph, .int s_used, .ref s_store, .ref s_draft, .ref s_wishes, .ref s_pins, .int s_id, .int s_code, .int s_loading, .ref s_coming, .int s_need, .int s_came, .ref s_bytes, .ref s_left])), (s_draft, .inl (c1, 7, .inl (upd (upd (upd (upd dr 0 277) 1 0) 2 1000) 3 1200))), (s_wishes, .inl (c2, 14, .inl (upd (upd (upd (upd (upd (upd (upd (upd wi 0 277) 7 277) 1 0) 8 0) 2 1000) 9 1000) 3 1200) 10 1200))), (s_pins, .inl (c3, 2, .inl pn))] := hD
  refine lv_iinc (v := 4) (lv' := [(1, .int 4), (0, .ref h0)]) hx hb d_mShelf_restart_84 hl (k := 0) rfl (by decide) (by decide) rfl ?_
  clear hl
  intro ls hl
  refine lv_goto (tgt := 2) hx hb d_mShelf_restart_87 (by decide) ?_
  refine lv_iload_n hx hb d_mShelf_restart_2 rfl (lv_at hl 0 rfl) ?_
  refine lv_bipush (v := 7) hx hb d_mShelf_restart_3 (by decide) ?_
  refine lv_icmp_ge (tgt := 90) hx hb d_mShelf_restart_5 (by decide) (fun c5 => absurd c5 (by decide)) (fun _ => ?_)
  refine lv_aload_n hx hb d_mShelf_restart_8 rfl (lv_at hl 1 rfl) ?_
  refine va_get (D := (dC, dI)) (ci := 18) (v := .ref s_draft) (C := R_mShelf) (T := F_mShelf) (N := 20) hx hb hwd i_mShelf hown hK hP 0 rfl rfl 9 (by decide) (hwd _ wd_9_217) (fun _ h9 => h9) rfl d_mShelf_restart_9 ?_
  refine lv_iload_n hx hb d_mShelf_restart_12 rfl (lv_at hl 0 rfl) ?_
  refine lv_iload_n hx hb d_mShelf_restart_13 rfl (lv_at hl 0 rfl) ?_
  refine lv_if_ne (tgt := 23) hx hb d_mShelf_restart_14 (by decide) (fun _ => ?_) (fun c14 => absurd c14 (by decide))
  refine lv_iload_n hx hb d_mShelf_restart_23 rfl (lv_at hl 0 rfl) ?_
  refine lv_iconst (v := 2) hx hb d_mShelf_restart_24 (by decide) ?_
  refine lv_icmp_ne (tgt := 34) hx hb d_mShelf_restart_25 (by decide) (fun _ => ?_) (fun c25 => absurd c25 (by decide))
  refine lv_iload_n hx hb d_mShelf_restart_34 rfl (lv_at hl 0 rfl) ?_
  refine lv_iconst (v := 3) hx hb d_mShelf_restart_35 (by decide) ?_
  refine lv_icmp_ne (tgt := 45) hx hb d_mShelf_restart_36 (by decide) (fun _ => ?_) (fun c36 => absurd c36 (by decide))
  refine lv_iload_n hx hb d_mShelf_restart_45 rfl (lv_at hl 0 rfl) ?_
  refine lv_bipush (v := 6) hx hb d_mShelf_restart_46 (by decide) ?_
  refine lv_icmp_ne (tgt := 55) hx hb d_mShelf_restart_48 (by decide) (fun _ => ?_) (fun c48 => absurd c48 (by decide))
  refine lv_iconst (v := 0) hx hb d_mShelf_restart_55 (by decide) ?_
  refine va_iast hx hb hK hP hD hS 1 0 rfl rfl (show ¬ ((4 : Int32) < 0 ∨ 7 ≤ (4 : Int32).toNatClampNeg) by decide) d_mShelf_restart_56 ?_
  clear hP hD hS
  intro H locs hP hD hS
  rw [show (4 : Int32).toNatClampNeg = 4 by decide] at hP hD
  replace hP : va_P (dC, dI) vcl [(h0, .inr (18, [.int s_thrown, .int s_fonts, .ref s_ids, .ref s_attributes, .ref s_permanent, .int s_glyphs, .ref s_glyph, .int s_used, .ref s_store, .ref s_draft, .ref s_wishes, .ref s_pins, .int s_id, .int s_code, .int s_loading, .ref s_coming, .int s_need, .int s_came, .ref s_bytes, .ref s_left])), (s_draft, .inl (c1, 7, .inl (upd (upd (upd (upd (upd dr 0 277) 1 0) 2 1000) 3 1200) 4 0))), (s_wishes, .inl (c2, 14, .inl (upd (upd (upd (upd (upd (upd (upd (upd wi 0 277) 7 277) 1 0) 8 0) 2 1000) 9 1000) 3 1200) 10 1200))), (s_pins, .inl (c3, 2, .inl pn))] H := hP
  replace hD : va_D A [(h0, .inr (18, [.int s_thrown, .int s_fonts, .ref s_ids, .ref s_attributes, .ref s_permanent, .int s_glyphs, .ref s_glyph, .int s_used, .ref s_store, .ref s_draft, .ref s_wishes, .ref s_pins, .int s_id, .int s_code, .int s_loading, .ref s_coming, .int s_need, .int s_came, .ref s_bytes, .ref s_left])), (s_draft, .inl (c1, 7, .inl (upd (upd (upd (upd (upd dr 0 277) 1 0) 2 1000) 3 1200) 4 0))), (s_wishes, .inl (c2, 14, .inl (upd (upd (upd (upd (upd (upd (upd (upd wi 0 277) 7 277) 1 0) 8 0) 2 1000) 9 1000) 3 1200) 10 1200))), (s_pins, .inl (c3, 2, .inl pn))] := hD
  refine lv_aload_n hx hb d_mShelf_restart_57 rfl (lv_at hl 1 rfl) ?_
  refine va_get (D := (dC, dI)) (ci := 18) (v := .ref s_wishes) (C := R_mShelf) (T := F_mShelf) (N := 20) hx hb hwd i_mShelf hown hK hP 0 rfl rfl 10 (by decide) (hwd _ wd_9_219) (fun _ h9 => h9) rfl d_mShelf_restart_58 ?_
  refine lv_iload_n hx hb d_mShelf_restart_61 rfl (lv_at hl 0 rfl) ?_
  refine lv_aload_n hx hb d_mShelf_restart_62 rfl (lv_at hl 1 rfl) ?_
  refine va_get (D := (dC, dI)) (ci := 18) (v := .ref s_draft) (C := R_mShelf) (T := F_mShelf) (N := 20) hx hb hwd i_mShelf hown hK hP 0 rfl rfl 9 (by decide) (hwd _ wd_9_217) (fun _ h9 => h9) rfl d_mShelf_restart_63 ?_
  refine lv_iload_n hx hb d_mShelf_restart_66 rfl (lv_at hl 0 rfl) ?_
  refine va_iald hx hb hK hP 1 0 rfl rfl (show ¬ ((4 : Int32) < 0 ∨ 7 ≤ (4 : Int32).toNatClampNeg) by decide) d_mShelf_restart_67 ?_
  refine lv_topi (fun y_13 ey_13 => ?_)
  obtain rfl : y_13 = 0 := ey_13
  refine va_iast hx hb hK hP hD hS 2 1 rfl rfl (show ¬ ((4 : Int32) < 0 ∨ 14 ≤ (4 : Int32).toNatClampNeg) by decide) d_mShelf_restart_68 ?_
  clear hP hD hS
  intro H locs hP hD hS
  rw [show (4 : Int32).toNatClampNeg = 4 by decide] at hP hD
  replace hP : va_P (dC, dI) vcl [(h0, .inr (18, [.int s_thrown, .int s_fonts, .ref s_ids, .ref s_attributes, .ref s_permanent, .int s_glyphs, .ref s_glyph, .int s_used, .ref s_store, .ref s_draft, .ref s_wishes, .ref s_pins, .int s_id, .int s_code, .int s_loading, .ref s_coming, .int s_need, .int s_came, .ref s_bytes, .ref s_left])), (s_draft, .inl (c1, 7, .inl (upd (upd (upd (upd (upd dr 0 277) 1 0) 2 1000) 3 1200) 4 0))), (s_wishes, .inl (c2, 14, .inl (upd (upd (upd (upd (upd (upd (upd (upd (upd wi 0 277) 7 277) 1 0) 8 0) 2 1000) 9 1000) 3 1200) 10 1200) 4 0))), (s_pins, .inl (c3, 2, .inl pn))] H := hP
  replace hD : va_D A [(h0, .inr (18, [.int s_thrown, .int s_fonts, .ref s_ids, .ref s_attributes, .ref s_permanent, .int s_glyphs, .ref s_glyph, .int s_used, .ref s_store, .ref s_draft, .ref s_wishes, .ref s_pins, .int s_id, .int s_code, .int s_loading, .ref s_coming, .int s_need, .int s_came, .ref s_bytes, .ref s_left])), (s_draft, .inl (c1, 7, .inl (upd (upd (upd (upd (upd dr 0 277) 1 0) 2 1000) 3 1200) 4 0))), (s_wishes, .inl (c2, 14, .inl (upd (upd (upd (upd (upd (upd (upd (upd (upd wi 0 277) 7 277) 1 0) 8 0) 2 1000) 9 1000) 3 1200) 10 1200) 4 0))), (s_pins, .inl (c3, 2, .inl pn))] := hD
  refine lv_aload_n hx hb d_mShelf_restart_69 rfl (lv_at hl 1 rfl) ?_
  refine va_get (D := (dC, dI)) (ci := 18) (v := .ref s_wishes) (C := R_mShelf) (T := F_mShelf) (N := 20) hx hb hwd i_mShelf hown hK hP 0 rfl rfl 10 (by decide) (hwd _ wd_9_219) (fun _ h9 => h9) rfl d_mShelf_restart_70 ?_
  refine lv_bipush (v := 7) hx hb d_mShelf_restart_73 (by decide) ?_
  refine lv_iload_n hx hb d_mShelf_restart_75 rfl (lv_at hl 0 rfl) ?_
  refine lv_iadd hx hb d_mShelf_restart_76 ?_
  refine lv_topi (fun y_14 ey_14 => ?_)
  obtain rfl : y_14 = (11 : Int32) := ey_14.trans (by decide)
  refine lv_aload_n hx hb d_mShelf_restart_77 rfl (lv_at hl 1 rfl) ?_
  refine va_get (D := (dC, dI)) (ci := 18) (v := .ref s_draft) (C := R_mShelf) (T := F_mShelf) (N := 20) hx hb hwd i_mShelf hown hK hP 0 rfl rfl 9 (by decide) (hwd _ wd_9_217) (fun _ h9 => h9) rfl d_mShelf_restart_78 ?_
  refine lv_iload_n hx hb d_mShelf_restart_81 rfl (lv_at hl 0 rfl) ?_
  refine va_iald hx hb hK hP 1 0 rfl rfl (show ¬ ((4 : Int32) < 0 ∨ 7 ≤ (4 : Int32).toNatClampNeg) by decide) d_mShelf_restart_82 ?_
  refine lv_topi (fun y_15 ey_15 => ?_)
  obtain rfl : y_15 = 0 := ey_15
  refine va_iast hx hb hK hP hD hS 2 1 rfl rfl (show ¬ ((11 : Int32) < 0 ∨ 14 ≤ (11 : Int32).toNatClampNeg) by decide) d_mShelf_restart_83 ?_
  clear hP hD hS
  intro H locs hP hD hS
  rw [show (11 : Int32).toNatClampNeg = 11 by decide] at hP hD
  replace hP : va_P (dC, dI) vcl [(h0, .inr (18, [.int s_thrown, .int s_fonts, .ref s_ids, .ref s_attributes, .ref s_permanent, .int s_glyphs, .ref s_glyph, .int s_used, .ref s_store, .ref s_draft, .ref s_wishes, .ref s_pins, .int s_id, .int s_code, .int s_loading, .ref s_coming, .int s_need, .int s_came, .ref s_bytes, .ref s_left])), (s_draft, .inl (c1, 7, .inl (upd (upd (upd (upd (upd dr 0 277) 1 0) 2 1000) 3 1200) 4 0))), (s_wishes, .inl (c2, 14, .inl (upd (upd (upd (upd (upd (upd (upd (upd (upd (upd wi 0 277) 7 277) 1 0) 8 0) 2 1000) 9 1000) 3 1200) 10 1200) 4 0) 11 0))), (s_pins, .inl (c3, 2, .inl pn))] H := hP
  replace hD : va_D A [(h0, .inr (18, [.int s_thrown, .int s_fonts, .ref s_ids, .ref s_attributes, .ref s_permanent, .int s_glyphs, .ref s_glyph, .int s_used, .ref s_store, .ref s_draft, .ref s_wishes, .ref s_pins, .int s_id, .int s_code, .int s_loading, .ref s_coming, .int s_need, .int s_came, .ref s_bytes, .ref s_left])), (s_draft, .inl (c1, 7, .inl (upd (upd (upd (upd (upd dr 0 277) 1 0) 2 1000) 3 1200) 4 0))), (s_wishes, .inl (c2, 14, .inl (upd (upd (upd (upd (upd (upd (upd (upd (upd (upd wi 0 277) 7 277) 1 0) 8 0) 2 1000) 9 1000) 3 1200) 10 1200) 4 0) 11 0))), (s_pins, .inl (c3, 2, .inl pn))] := hD
  refine lv_iinc (v := 5) (lv' := [(1, .int 5), (0, .ref h0)]) hx hb d_mShelf_restart_84 hl (k := 0) rfl (by decide) (by decide) rfl ?_
  clear hl
  intro ls hl
  refine lv_goto (tgt := 2) hx hb d_mShelf_restart_87 (by decide) ?_
  refine lv_iload_n hx hb d_mShelf_restart_2 rfl (lv_at hl 0 rfl) ?_
  refine lv_bipush (v := 7) hx hb d_mShelf_restart_3 (by decide) ?_
  refine lv_icmp_ge (tgt := 90) hx hb d_mShelf_restart_5 (by decide) (fun c5 => absurd c5 (by decide)) (fun _ => ?_)
  refine lv_aload_n hx hb d_mShelf_restart_8 rfl (lv_at hl 1 rfl) ?_
  refine va_get (D := (dC, dI)) (ci := 18) (v := .ref s_draft) (C := R_mShelf) (T := F_mShelf) (N := 20) hx hb hwd i_mShelf hown hK hP 0 rfl rfl 9 (by decide) (hwd _ wd_9_217) (fun _ h9 => h9) rfl d_mShelf_restart_9 ?_
  refine lv_iload_n hx hb d_mShelf_restart_12 rfl (lv_at hl 0 rfl) ?_
  refine lv_iload_n hx hb d_mShelf_restart_13 rfl (lv_at hl 0 rfl) ?_
  refine lv_if_ne (tgt := 23) hx hb d_mShelf_restart_14 (by decide) (fun _ => ?_) (fun c14 => absurd c14 (by decide))
  refine lv_iload_n hx hb d_mShelf_restart_23 rfl (lv_at hl 0 rfl) ?_
  refine lv_iconst (v := 2) hx hb d_mShelf_restart_24 (by decide) ?_
  refine lv_icmp_ne (tgt := 34) hx hb d_mShelf_restart_25 (by decide) (fun _ => ?_) (fun c25 => absurd c25 (by decide))
  refine lv_iload_n hx hb d_mShelf_restart_34 rfl (lv_at hl 0 rfl) ?_
  refine lv_iconst (v := 3) hx hb d_mShelf_restart_35 (by decide) ?_
  refine lv_icmp_ne (tgt := 45) hx hb d_mShelf_restart_36 (by decide) (fun _ => ?_) (fun c36 => absurd c36 (by decide))
  refine lv_iload_n hx hb d_mShelf_restart_45 rfl (lv_at hl 0 rfl) ?_
  refine lv_bipush (v := 6) hx hb d_mShelf_restart_46 (by decide) ?_
  refine lv_icmp_ne (tgt := 55) hx hb d_mShelf_restart_48 (by decide) (fun _ => ?_) (fun c48 => absurd c48 (by decide))
  refine lv_iconst (v := 0) hx hb d_mShelf_restart_55 (by decide) ?_
  refine va_iast hx hb hK hP hD hS 1 0 rfl rfl (show ¬ ((5 : Int32) < 0 ∨ 7 ≤ (5 : Int32).toNatClampNeg) by decide) d_mShelf_restart_56 ?_
  clear hP hD hS
  intro H locs hP hD hS
  rw [show (5 : Int32).toNatClampNeg = 5 by decide] at hP hD
  replace hP : va_P (dC, dI) vcl [(h0, .inr (18, [.int s_thrown, .int s_fonts, .ref s_ids, .ref s_attributes, .ref s_permanent, .int s_glyphs, .ref s_glyph, .int s_used, .ref s_store, .ref s_draft, .ref s_wishes, .ref s_pins, .int s_id, .int s_code, .int s_loading, .ref s_coming, .int s_need, .int s_came, .ref s_bytes, .ref s_left])), (s_draft, .inl (c1, 7, .inl (upd (upd (upd (upd (upd (upd dr 0 277) 1 0) 2 1000) 3 1200) 4 0) 5 0))), (s_wishes, .inl (c2, 14, .inl (upd (upd (upd (upd (upd (upd (upd (upd (upd (upd wi 0 277) 7 277) 1 0) 8 0) 2 1000) 9 1000) 3 1200) 10 1200) 4 0) 11 0))), (s_pins, .inl (c3, 2, .inl pn))] H := hP
  replace hD : va_D A [(h0, .inr (18, [.int s_thrown, .int s_fonts, .ref s_ids, .ref s_attributes, .ref s_permanent, .int s_glyphs, .ref s_glyph, .int s_used, .ref s_store, .ref s_draft, .ref s_wishes, .ref s_pins, .int s_id, .int s_code, .int s_loading, .ref s_coming, .int s_need, .int s_came, .ref s_bytes, .ref s_left])), (s_draft, .inl (c1, 7, .inl (upd (upd (upd (upd (upd (upd dr 0 277) 1 0) 2 1000) 3 1200) 4 0) 5 0))), (s_wishes, .inl (c2, 14, .inl (upd (upd (upd (upd (upd (upd (upd (upd (upd (upd wi 0 277) 7 277) 1 0) 8 0) 2 1000) 9 1000) 3 1200) 10 1200) 4 0) 11 0))), (s_pins, .inl (c3, 2, .inl pn))] := hD
  refine lv_aload_n hx hb d_mShelf_restart_57 rfl (lv_at hl 1 rfl) ?_
  refine va_get (D := (dC, dI)) (ci := 18) (v := .ref s_wishes) (C := R_mShelf) (T := F_mShelf) (N := 20) hx hb hwd i_mShelf hown hK hP 0 rfl rfl 10 (by decide) (hwd _ wd_9_219) (fun _ h9 => h9) rfl d_mShelf_restart_58 ?_
  refine lv_iload_n hx hb d_mShelf_restart_61 rfl (lv_at hl 0 rfl) ?_
  refine lv_aload_n hx hb d_mShelf_restart_62 rfl (lv_at hl 1 rfl) ?_
  refine va_get (D := (dC, dI)) (ci := 18) (v := .ref s_draft) (C := R_mShelf) (T := F_mShelf) (N := 20) hx hb hwd i_mShelf hown hK hP 0 rfl rfl 9 (by decide) (hwd _ wd_9_217) (fun _ h9 => h9) rfl d_mShelf_restart_63 ?_
  refine lv_iload_n hx hb d_mShelf_restart_66 rfl (lv_at hl 0 rfl) ?_
  refine va_iald hx hb hK hP 1 0 rfl rfl (show ¬ ((5 : Int32) < 0 ∨ 7 ≤ (5 : Int32).toNatClampNeg) by decide) d_mShelf_restart_67 ?_
  refine lv_topi (fun y_16 ey_16 => ?_)
  obtain rfl : y_16 = 0 := ey_16
  refine va_iast hx hb hK hP hD hS 2 1 rfl rfl (show ¬ ((5 : Int32) < 0 ∨ 14 ≤ (5 : Int32).toNatClampNeg) by decide) d_mShelf_restart_68 ?_
  clear hP hD hS
  intro H locs hP hD hS
  rw [show (5 : Int32).toNatClampNeg = 5 by decide] at hP hD
  replace hP : va_P (dC, dI) vcl [(h0, .inr (18, [.int s_thrown, .int s_fonts, .ref s_ids, .ref s_attributes, .ref s_permanent, .int s_glyphs, .ref s_glyph, .int s_used, .ref s_store, .ref s_draft, .ref s_wishes, .ref s_pins, .int s_id, .int s_code, .int s_loading, .ref s_coming, .int s_need, .int s_came, .ref s_bytes, .ref s_left])), (s_draft, .inl (c1, 7, .inl (upd (upd (upd (upd (upd (upd dr 0 277) 1 0) 2 1000) 3 1200) 4 0) 5 0))), (s_wishes, .inl (c2, 14, .inl (upd (upd (upd (upd (upd (upd (upd (upd (upd (upd (upd wi 0 277) 7 277) 1 0) 8 0) 2 1000) 9 1000) 3 1200) 10 1200) 4 0) 11 0) 5 0))), (s_pins, .inl (c3, 2, .inl pn))] H := hP
  replace hD : va_D A [(h0, .inr (18, [.int s_thrown, .int s_fonts, .ref s_ids, .ref s_attributes, .ref s_permanent, .int s_glyphs, .ref s_glyph, .int s_used, .ref s_store, .ref s_draft, .ref s_wishes, .ref s_pins, .int s_id, .int s_code, .int s_loading, .ref s_coming, .int s_need, .int s_came, .ref s_bytes, .ref s_left])), (s_draft, .inl (c1, 7, .inl (upd (upd (upd (upd (upd (upd dr 0 277) 1 0) 2 1000) 3 1200) 4 0) 5 0))), (s_wishes, .inl (c2, 14, .inl (upd (upd (upd (upd (upd (upd (upd (upd (upd (upd (upd wi 0 277) 7 277) 1 0) 8 0) 2 1000) 9 1000) 3 1200) 10 1200) 4 0) 11 0) 5 0))), (s_pins, .inl (c3, 2, .inl pn))] := hD
  refine lv_aload_n hx hb d_mShelf_restart_69 rfl (lv_at hl 1 rfl) ?_
  refine va_get (D := (dC, dI)) (ci := 18) (v := .ref s_wishes) (C := R_mShelf) (T := F_mShelf) (N := 20) hx hb hwd i_mShelf hown hK hP 0 rfl rfl 10 (by decide) (hwd _ wd_9_219) (fun _ h9 => h9) rfl d_mShelf_restart_70 ?_
  refine lv_bipush (v := 7) hx hb d_mShelf_restart_73 (by decide) ?_
  refine lv_iload_n hx hb d_mShelf_restart_75 rfl (lv_at hl 0 rfl) ?_
  refine lv_iadd hx hb d_mShelf_restart_76 ?_
  refine lv_topi (fun y_17 ey_17 => ?_)
  obtain rfl : y_17 = (12 : Int32) := ey_17.trans (by decide)
  refine lv_aload_n hx hb d_mShelf_restart_77 rfl (lv_at hl 1 rfl) ?_
  refine va_get (D := (dC, dI)) (ci := 18) (v := .ref s_draft) (C := R_mShelf) (T := F_mShelf) (N := 20) hx hb hwd i_mShelf hown hK hP 0 rfl rfl 9 (by decide) (hwd _ wd_9_217) (fun _ h9 => h9) rfl d_mShelf_restart_78 ?_
  refine lv_iload_n hx hb d_mShelf_restart_81 rfl (lv_at hl 0 rfl) ?_
  refine va_iald hx hb hK hP 1 0 rfl rfl (show ¬ ((5 : Int32) < 0 ∨ 7 ≤ (5 : Int32).toNatClampNeg) by decide) d_mShelf_restart_82 ?_
  refine lv_topi (fun y_18 ey_18 => ?_)
  obtain rfl : y_18 = 0 := ey_18
  refine va_iast hx hb hK hP hD hS 2 1 rfl rfl (show ¬ ((12 : Int32) < 0 ∨ 14 ≤ (12 : Int32).toNatClampNeg) by decide) d_mShelf_restart_83 ?_
  clear hP hD hS
  intro H locs hP hD hS
  rw [show (12 : Int32).toNatClampNeg = 12 by decide] at hP hD
  replace hP : va_P (dC, dI) vcl [(h0, .inr (18, [.int s_thrown, .int s_fonts, .ref s_ids, .ref s_attributes, .ref s_permanent, .int s_glyphs, .ref s_glyph, .int s_used, .ref s_store, .ref s_draft, .ref s_wishes, .ref s_pins, .int s_id, .int s_code, .int s_loading, .ref s_coming, .int s_need, .int s_came, .ref s_bytes, .ref s_left])), (s_draft, .inl (c1, 7, .inl (upd (upd (upd (upd (upd (upd dr 0 277) 1 0) 2 1000) 3 1200) 4 0) 5 0))), (s_wishes, .inl (c2, 14, .inl (upd (upd (upd (upd (upd (upd (upd (upd (upd (upd (upd (upd wi 0 277) 7 277) 1 0) 8 0) 2 1000) 9 1000) 3 1200) 10 1200) 4 0) 11 0) 5 0) 12 0))), (s_pins, .inl (c3, 2, .inl pn))] H := hP
  replace hD : va_D A [(h0, .inr (18, [.int s_thrown, .int s_fonts, .ref s_ids, .ref s_attributes, .ref s_permanent, .int s_glyphs, .ref s_glyph, .int s_used, .ref s_store, .ref s_draft, .ref s_wishes, .ref s_pins, .int s_id, .int s_code, .int s_loading, .ref s_coming, .int s_need, .int s_came, .ref s_bytes, .ref s_left])), (s_draft, .inl (c1, 7, .inl (upd (upd (upd (upd (upd (upd dr 0 277) 1 0) 2 1000) 3 1200) 4 0) 5 0))), (s_wishes, .inl (c2, 14, .inl (upd (upd (upd (upd (upd (upd (upd (upd (upd (upd (upd (upd wi 0 277) 7 277) 1 0) 8 0) 2 1000) 9 1000) 3 1200) 10 1200) 4 0) 11 0) 5 0) 12 0))), (s_pins, .inl (c3, 2, .inl pn))] := hD
  refine lv_iinc (v := 6) (lv' := [(1, .int 6), (0, .ref h0)]) hx hb d_mShelf_restart_84 hl (k := 0) rfl (by decide) (by decide) rfl ?_
  clear hl
  intro ls hl
  refine lv_goto (tgt := 2) hx hb d_mShelf_restart_87 (by decide) ?_
  refine lv_iload_n hx hb d_mShelf_restart_2 rfl (lv_at hl 0 rfl) ?_
  refine lv_bipush (v := 7) hx hb d_mShelf_restart_3 (by decide) ?_
  refine lv_icmp_ge (tgt := 90) hx hb d_mShelf_restart_5 (by decide) (fun c5 => absurd c5 (by decide)) (fun _ => ?_)
  refine lv_aload_n hx hb d_mShelf_restart_8 rfl (lv_at hl 1 rfl) ?_
  refine va_get (D := (dC, dI)) (ci := 18) (v := .ref s_draft) (C := R_mShelf) (T := F_mShelf) (N := 20) hx hb hwd i_mShelf hown hK hP 0 rfl rfl 9 (by decide) (hwd _ wd_9_217) (fun _ h9 => h9) rfl d_mShelf_restart_9 ?_
  refine lv_iload_n hx hb d_mShelf_restart_12 rfl (lv_at hl 0 rfl) ?_
  refine lv_iload_n hx hb d_mShelf_restart_13 rfl (lv_at hl 0 rfl) ?_
  refine lv_if_ne (tgt := 23) hx hb d_mShelf_restart_14 (by decide) (fun _ => ?_) (fun c14 => absurd c14 (by decide))
  refine lv_iload_n hx hb d_mShelf_restart_23 rfl (lv_at hl 0 rfl) ?_
  refine lv_iconst (v := 2) hx hb d_mShelf_restart_24 (by decide) ?_
  refine lv_icmp_ne (tgt := 34) hx hb d_mShelf_restart_25 (by decide) (fun _ => ?_) (fun c25 => absurd c25 (by decide))
  refine lv_iload_n hx hb d_mShelf_restart_34 rfl (lv_at hl 0 rfl) ?_
  refine lv_iconst (v := 3) hx hb d_mShelf_restart_35 (by decide) ?_
  refine lv_icmp_ne (tgt := 45) hx hb d_mShelf_restart_36 (by decide) (fun _ => ?_) (fun c36 => absurd c36 (by decide))
  refine lv_iload_n hx hb d_mShelf_restart_45 rfl (lv_at hl 0 rfl) ?_
  refine lv_bipush (v := 6) hx hb d_mShelf_restart_46 (by decide) ?_
  refine lv_icmp_ne (tgt := 55) hx hb d_mShelf_restart_48 (by decide) (fun c48 => absurd c48 (by decide)) (fun _ => ?_)
  refine lv_iconst (v := 3) hx hb d_mShelf_restart_51 (by decide) ?_
  refine lv_goto (tgt := 56) hx hb d_mShelf_restart_52 (by decide) ?_
  refine va_iast hx hb hK hP hD hS 1 0 rfl rfl (show ¬ ((6 : Int32) < 0 ∨ 7 ≤ (6 : Int32).toNatClampNeg) by decide) d_mShelf_restart_56 ?_
  clear hP hD hS
  intro H locs hP hD hS
  rw [show (6 : Int32).toNatClampNeg = 6 by decide] at hP hD
  replace hP : va_P (dC, dI) vcl [(h0, .inr (18, [.int s_thrown, .int s_fonts, .ref s_ids, .ref s_attributes, .ref s_permanent, .int s_glyphs, .ref s_glyph, .int s_used, .ref s_store, .ref s_draft, .ref s_wishes, .ref s_pins, .int s_id, .int s_code, .int s_loading, .ref s_coming, .int s_need, .int s_came, .ref s_bytes, .ref s_left])), (s_draft, .inl (c1, 7, .inl (upd (upd (upd (upd (upd (upd (upd dr 0 277) 1 0) 2 1000) 3 1200) 4 0) 5 0) 6 3))), (s_wishes, .inl (c2, 14, .inl (upd (upd (upd (upd (upd (upd (upd (upd (upd (upd (upd (upd wi 0 277) 7 277) 1 0) 8 0) 2 1000) 9 1000) 3 1200) 10 1200) 4 0) 11 0) 5 0) 12 0))), (s_pins, .inl (c3, 2, .inl pn))] H := hP
  replace hD : va_D A [(h0, .inr (18, [.int s_thrown, .int s_fonts, .ref s_ids, .ref s_attributes, .ref s_permanent, .int s_glyphs, .ref s_glyph, .int s_used, .ref s_store, .ref s_draft, .ref s_wishes, .ref s_pins, .int s_id, .int s_code, .int s_loading, .ref s_coming, .int s_need, .int s_came, .ref s_bytes, .ref s_left])), (s_draft, .inl (c1, 7, .inl (upd (upd (upd (upd (upd (upd (upd dr 0 277) 1 0) 2 1000) 3 1200) 4 0) 5 0) 6 3))), (s_wishes, .inl (c2, 14, .inl (upd (upd (upd (upd (upd (upd (upd (upd (upd (upd (upd (upd wi 0 277) 7 277) 1 0) 8 0) 2 1000) 9 1000) 3 1200) 10 1200) 4 0) 11 0) 5 0) 12 0))), (s_pins, .inl (c3, 2, .inl pn))] := hD
  refine lv_aload_n hx hb d_mShelf_restart_57 rfl (lv_at hl 1 rfl) ?_
  refine va_get (D := (dC, dI)) (ci := 18) (v := .ref s_wishes) (C := R_mShelf) (T := F_mShelf) (N := 20) hx hb hwd i_mShelf hown hK hP 0 rfl rfl 10 (by decide) (hwd _ wd_9_219) (fun _ h9 => h9) rfl d_mShelf_restart_58 ?_
  refine lv_iload_n hx hb d_mShelf_restart_61 rfl (lv_at hl 0 rfl) ?_
  refine lv_aload_n hx hb d_mShelf_restart_62 rfl (lv_at hl 1 rfl) ?_
  refine va_get (D := (dC, dI)) (ci := 18) (v := .ref s_draft) (C := R_mShelf) (T := F_mShelf) (N := 20) hx hb hwd i_mShelf hown hK hP 0 rfl rfl 9 (by decide) (hwd _ wd_9_217) (fun _ h9 => h9) rfl d_mShelf_restart_63 ?_
  refine lv_iload_n hx hb d_mShelf_restart_66 rfl (lv_at hl 0 rfl) ?_
  refine va_iald hx hb hK hP 1 0 rfl rfl (show ¬ ((6 : Int32) < 0 ∨ 7 ≤ (6 : Int32).toNatClampNeg) by decide) d_mShelf_restart_67 ?_
  refine lv_topi (fun y_19 ey_19 => ?_)
  obtain rfl : y_19 = 3 := ey_19
  refine va_iast hx hb hK hP hD hS 2 1 rfl rfl (show ¬ ((6 : Int32) < 0 ∨ 14 ≤ (6 : Int32).toNatClampNeg) by decide) d_mShelf_restart_68 ?_
  clear hP hD hS
  intro H locs hP hD hS
  rw [show (6 : Int32).toNatClampNeg = 6 by decide] at hP hD
  replace hP : va_P (dC, dI) vcl [(h0, .inr (18, [.int s_thrown, .int s_fonts, .ref s_ids, .ref s_attributes, .ref s_permanent, .int s_glyphs, .ref s_glyph, .int s_used, .ref s_store, .ref s_draft, .ref s_wishes, .ref s_pins, .int s_id, .int s_code, .int s_loading, .ref s_coming, .int s_need, .int s_came, .ref s_bytes, .ref s_left])), (s_draft, .inl (c1, 7, .inl (upd (upd (upd (upd (upd (upd (upd dr 0 277) 1 0) 2 1000) 3 1200) 4 0) 5 0) 6 3))), (s_wishes, .inl (c2, 14, .inl (upd (upd (upd (upd (upd (upd (upd (upd (upd (upd (upd (upd (upd wi 0 277) 7 277) 1 0) 8 0) 2 1000) 9 1000) 3 1200) 10 1200) 4 0) 11 0) 5 0) 12 0) 6 3))), (s_pins, .inl (c3, 2, .inl pn))] H := hP
  replace hD : va_D A [(h0, .inr (18, [.int s_thrown, .int s_fonts, .ref s_ids, .ref s_attributes, .ref s_permanent, .int s_glyphs, .ref s_glyph, .int s_used, .ref s_store, .ref s_draft, .ref s_wishes, .ref s_pins, .int s_id, .int s_code, .int s_loading, .ref s_coming, .int s_need, .int s_came, .ref s_bytes, .ref s_left])), (s_draft, .inl (c1, 7, .inl (upd (upd (upd (upd (upd (upd (upd dr 0 277) 1 0) 2 1000) 3 1200) 4 0) 5 0) 6 3))), (s_wishes, .inl (c2, 14, .inl (upd (upd (upd (upd (upd (upd (upd (upd (upd (upd (upd (upd (upd wi 0 277) 7 277) 1 0) 8 0) 2 1000) 9 1000) 3 1200) 10 1200) 4 0) 11 0) 5 0) 12 0) 6 3))), (s_pins, .inl (c3, 2, .inl pn))] := hD
  refine lv_aload_n hx hb d_mShelf_restart_69 rfl (lv_at hl 1 rfl) ?_
  refine va_get (D := (dC, dI)) (ci := 18) (v := .ref s_wishes) (C := R_mShelf) (T := F_mShelf) (N := 20) hx hb hwd i_mShelf hown hK hP 0 rfl rfl 10 (by decide) (hwd _ wd_9_219) (fun _ h9 => h9) rfl d_mShelf_restart_70 ?_
  refine lv_bipush (v := 7) hx hb d_mShelf_restart_73 (by decide) ?_
  refine lv_iload_n hx hb d_mShelf_restart_75 rfl (lv_at hl 0 rfl) ?_
  refine lv_iadd hx hb d_mShelf_restart_76 ?_
  refine lv_topi (fun y_20 ey_20 => ?_)
  obtain rfl : y_20 = (13 : Int32) := ey_20.trans (by decide)
  refine lv_aload_n hx hb d_mShelf_restart_77 rfl (lv_at hl 1 rfl) ?_
  refine va_get (D := (dC, dI)) (ci := 18) (v := .ref s_draft) (C := R_mShelf) (T := F_mShelf) (N := 20) hx hb hwd i_mShelf hown hK hP 0 rfl rfl 9 (by decide) (hwd _ wd_9_217) (fun _ h9 => h9) rfl d_mShelf_restart_78 ?_
  refine lv_iload_n hx hb d_mShelf_restart_81 rfl (lv_at hl 0 rfl) ?_
  refine va_iald hx hb hK hP 1 0 rfl rfl (show ¬ ((6 : Int32) < 0 ∨ 7 ≤ (6 : Int32).toNatClampNeg) by decide) d_mShelf_restart_82 ?_
  refine lv_topi (fun y_21 ey_21 => ?_)
  obtain rfl : y_21 = 3 := ey_21
  refine va_iast hx hb hK hP hD hS 2 1 rfl rfl (show ¬ ((13 : Int32) < 0 ∨ 14 ≤ (13 : Int32).toNatClampNeg) by decide) d_mShelf_restart_83 ?_
  clear hP hD hS
  intro H locs hP hD hS
  rw [show (13 : Int32).toNatClampNeg = 13 by decide] at hP hD
  replace hP : va_P (dC, dI) vcl [(h0, .inr (18, [.int s_thrown, .int s_fonts, .ref s_ids, .ref s_attributes, .ref s_permanent, .int s_glyphs, .ref s_glyph, .int s_used, .ref s_store, .ref s_draft, .ref s_wishes, .ref s_pins, .int s_id, .int s_code, .int s_loading, .ref s_coming, .int s_need, .int s_came, .ref s_bytes, .ref s_left])), (s_draft, .inl (c1, 7, .inl (upd (upd (upd (upd (upd (upd (upd dr 0 277) 1 0) 2 1000) 3 1200) 4 0) 5 0) 6 3))), (s_wishes, .inl (c2, 14, .inl (upd (upd (upd (upd (upd (upd (upd (upd (upd (upd (upd (upd (upd (upd wi 0 277) 7 277) 1 0) 8 0) 2 1000) 9 1000) 3 1200) 10 1200) 4 0) 11 0) 5 0) 12 0) 6 3) 13 3))), (s_pins, .inl (c3, 2, .inl pn))] H := hP
  replace hD : va_D A [(h0, .inr (18, [.int s_thrown, .int s_fonts, .ref s_ids, .ref s_attributes, .ref s_permanent, .int s_glyphs, .ref s_glyph, .int s_used, .ref s_store, .ref s_draft, .ref s_wishes, .ref s_pins, .int s_id, .int s_code, .int s_loading, .ref s_coming, .int s_need, .int s_came, .ref s_bytes, .ref s_left])), (s_draft, .inl (c1, 7, .inl (upd (upd (upd (upd (upd (upd (upd dr 0 277) 1 0) 2 1000) 3 1200) 4 0) 5 0) 6 3))), (s_wishes, .inl (c2, 14, .inl (upd (upd (upd (upd (upd (upd (upd (upd (upd (upd (upd (upd (upd (upd wi 0 277) 7 277) 1 0) 8 0) 2 1000) 9 1000) 3 1200) 10 1200) 4 0) 11 0) 5 0) 12 0) 6 3) 13 3))), (s_pins, .inl (c3, 2, .inl pn))] := hD
  refine lv_iinc (v := 7) (lv' := [(1, .int 7), (0, .ref h0)]) hx hb d_mShelf_restart_84 hl (k := 0) rfl (by decide) (by decide) rfl ?_
  clear hl
  intro ls hl
  refine lv_goto (tgt := 2) hx hb d_mShelf_restart_87 (by decide) ?_
  refine lv_iload_n hx hb d_mShelf_restart_2 rfl (lv_at hl 0 rfl) ?_
  refine lv_bipush (v := 7) hx hb d_mShelf_restart_3 (by decide) ?_
  refine lv_icmp_ge (tgt := 90) hx hb d_mShelf_restart_5 (by decide) (fun _ => ?_) (fun c5 => absurd (by decide) c5)
  refine lv_aload_n hx hb d_mShelf_restart_90 rfl (lv_at hl 1 rfl) ?_
  refine va_get (D := (dC, dI)) (ci := 18) (v := .ref s_pins) (C := R_mShelf) (T := F_mShelf) (N := 20) hx hb hwd i_mShelf hown hK hP 0 rfl rfl 11 (by decide) (hwd _ wd_9_220) (fun _ h9 => h9) rfl d_mShelf_restart_91 ?_
  refine lv_iconst (v := 0) hx hb d_mShelf_restart_94 (by decide) ?_
  refine lv_iconst (v := (-1)) hx hb d_mShelf_restart_95 (by decide) ?_
  refine va_iast hx hb hK hP hD hS 3 2 rfl rfl (show ¬ ((0 : Int32) < 0 ∨ 2 ≤ (0 : Int32).toNatClampNeg) by decide) d_mShelf_restart_96 ?_
  clear hP hD hS
  intro H locs hP hD hS
  rw [show (0 : Int32).toNatClampNeg = 0 by decide] at hP hD
  replace hP : va_P (dC, dI) vcl [(h0, .inr (18, [.int s_thrown, .int s_fonts, .ref s_ids, .ref s_attributes, .ref s_permanent, .int s_glyphs, .ref s_glyph, .int s_used, .ref s_store, .ref s_draft, .ref s_wishes, .ref s_pins, .int s_id, .int s_code, .int s_loading, .ref s_coming, .int s_need, .int s_came, .ref s_bytes, .ref s_left])), (s_draft, .inl (c1, 7, .inl (upd (upd (upd (upd (upd (upd (upd dr 0 277) 1 0) 2 1000) 3 1200) 4 0) 5 0) 6 3))), (s_wishes, .inl (c2, 14, .inl (upd (upd (upd (upd (upd (upd (upd (upd (upd (upd (upd (upd (upd (upd wi 0 277) 7 277) 1 0) 8 0) 2 1000) 9 1000) 3 1200) 10 1200) 4 0) 11 0) 5 0) 12 0) 6 3) 13 3))), (s_pins, .inl (c3, 2, .inl (upd pn 0 (-1))))] H := hP
  replace hD : va_D A [(h0, .inr (18, [.int s_thrown, .int s_fonts, .ref s_ids, .ref s_attributes, .ref s_permanent, .int s_glyphs, .ref s_glyph, .int s_used, .ref s_store, .ref s_draft, .ref s_wishes, .ref s_pins, .int s_id, .int s_code, .int s_loading, .ref s_coming, .int s_need, .int s_came, .ref s_bytes, .ref s_left])), (s_draft, .inl (c1, 7, .inl (upd (upd (upd (upd (upd (upd (upd dr 0 277) 1 0) 2 1000) 3 1200) 4 0) 5 0) 6 3))), (s_wishes, .inl (c2, 14, .inl (upd (upd (upd (upd (upd (upd (upd (upd (upd (upd (upd (upd (upd (upd wi 0 277) 7 277) 1 0) 8 0) 2 1000) 9 1000) 3 1200) 10 1200) 4 0) 11 0) 5 0) 12 0) 6 3) 13 3))), (s_pins, .inl (c3, 2, .inl (upd pn 0 (-1))))] := hD
  refine lv_aload_n hx hb d_mShelf_restart_97 rfl (lv_at hl 1 rfl) ?_
  refine va_get (D := (dC, dI)) (ci := 18) (v := .ref s_pins) (C := R_mShelf) (T := F_mShelf) (N := 20) hx hb hwd i_mShelf hown hK hP 0 rfl rfl 11 (by decide) (hwd _ wd_9_220) (fun _ h9 => h9) rfl d_mShelf_restart_98 ?_
  refine lv_iconst (v := 1) hx hb d_mShelf_restart_101 (by decide) ?_
  refine lv_iconst (v := (-1)) hx hb d_mShelf_restart_102 (by decide) ?_
  refine va_iast hx hb hK hP hD hS 3 2 rfl rfl (show ¬ ((1 : Int32) < 0 ∨ 2 ≤ (1 : Int32).toNatClampNeg) by decide) d_mShelf_restart_103 ?_
  clear hP hD hS
  intro H locs hP hD hS
  rw [show (1 : Int32).toNatClampNeg = 1 by decide] at hP hD
  replace hP : va_P (dC, dI) vcl [(h0, .inr (18, [.int s_thrown, .int s_fonts, .ref s_ids, .ref s_attributes, .ref s_permanent, .int s_glyphs, .ref s_glyph, .int s_used, .ref s_store, .ref s_draft, .ref s_wishes, .ref s_pins, .int s_id, .int s_code, .int s_loading, .ref s_coming, .int s_need, .int s_came, .ref s_bytes, .ref s_left])), (s_draft, .inl (c1, 7, .inl (upd (upd (upd (upd (upd (upd (upd dr 0 277) 1 0) 2 1000) 3 1200) 4 0) 5 0) 6 3))), (s_wishes, .inl (c2, 14, .inl (upd (upd (upd (upd (upd (upd (upd (upd (upd (upd (upd (upd (upd (upd wi 0 277) 7 277) 1 0) 8 0) 2 1000) 9 1000) 3 1200) 10 1200) 4 0) 11 0) 5 0) 12 0) 6 3) 13 3))), (s_pins, .inl (c3, 2, .inl (upd (upd pn 0 (-1)) 1 (-1))))] H := hP
  replace hD : va_D A [(h0, .inr (18, [.int s_thrown, .int s_fonts, .ref s_ids, .ref s_attributes, .ref s_permanent, .int s_glyphs, .ref s_glyph, .int s_used, .ref s_store, .ref s_draft, .ref s_wishes, .ref s_pins, .int s_id, .int s_code, .int s_loading, .ref s_coming, .int s_need, .int s_came, .ref s_bytes, .ref s_left])), (s_draft, .inl (c1, 7, .inl (upd (upd (upd (upd (upd (upd (upd dr 0 277) 1 0) 2 1000) 3 1200) 4 0) 5 0) 6 3))), (s_wishes, .inl (c2, 14, .inl (upd (upd (upd (upd (upd (upd (upd (upd (upd (upd (upd (upd (upd (upd wi 0 277) 7 277) 1 0) 8 0) 2 1000) 9 1000) 3 1200) 10 1200) 4 0) 11 0) 5 0) 12 0) 6 3) 13 3))), (s_pins, .inl (c3, 2, .inl (upd (upd pn 0 (-1)) 1 (-1))))] := hD
  refine lv_aload_n hx hb d_mShelf_restart_104 rfl (lv_at hl 1 rfl) ?_
  refine lv_iconst (v := 0) hx hb d_mShelf_restart_105 (by decide) ?_
  refine va_put (D := (dC, dI)) (ci := 18) (v := .int 0) (ty := .int) (C := R_mShelf) (T := F_mShelf) (N := 20) hx hb hwd i_mShelf t_mShelf to_mShelf no_mShelf hown hK hP hD hS 0 rfl rfl 12 (by decide) (hwd _ wd_9_221) (fun _ h9 => h9) rfl (by decide +kernel) rfl rfl (Nat.le_of_ble_eq_true rfl) d_mShelf_restart_106 ?_
  clear hP hD hS
  intro H locs hP hD hS
  replace hP : va_P (dC, dI) vcl [(h0, .inr (18, [.int s_thrown, .int s_fonts, .ref s_ids, .ref s_attributes, .ref s_permanent, .int s_glyphs, .ref s_glyph, .int s_used, .ref s_store, .ref s_draft, .ref s_wishes, .ref s_pins, .int 0, .int s_code, .int s_loading, .ref s_coming, .int s_need, .int s_came, .ref s_bytes, .ref s_left])), (s_draft, .inl (c1, 7, .inl (upd (upd (upd (upd (upd (upd (upd dr 0 277) 1 0) 2 1000) 3 1200) 4 0) 5 0) 6 3))), (s_wishes, .inl (c2, 14, .inl (upd (upd (upd (upd (upd (upd (upd (upd (upd (upd (upd (upd (upd (upd wi 0 277) 7 277) 1 0) 8 0) 2 1000) 9 1000) 3 1200) 10 1200) 4 0) 11 0) 5 0) 12 0) 6 3) 13 3))), (s_pins, .inl (c3, 2, .inl (upd (upd pn 0 (-1)) 1 (-1))))] H := hP
  replace hD : va_D A [(h0, .inr (18, [.int s_thrown, .int s_fonts, .ref s_ids, .ref s_attributes, .ref s_permanent, .int s_glyphs, .ref s_glyph, .int s_used, .ref s_store, .ref s_draft, .ref s_wishes, .ref s_pins, .int 0, .int s_code, .int s_loading, .ref s_coming, .int s_need, .int s_came, .ref s_bytes, .ref s_left])), (s_draft, .inl (c1, 7, .inl (upd (upd (upd (upd (upd (upd (upd dr 0 277) 1 0) 2 1000) 3 1200) 4 0) 5 0) 6 3))), (s_wishes, .inl (c2, 14, .inl (upd (upd (upd (upd (upd (upd (upd (upd (upd (upd (upd (upd (upd (upd wi 0 277) 7 277) 1 0) 8 0) 2 1000) 9 1000) 3 1200) 10 1200) 4 0) 11 0) 5 0) 12 0) 6 3) 13 3))), (s_pins, .inl (c3, 2, .inl (upd (upd pn 0 (-1)) 1 (-1))))] := hD
  refine lv_aload_n hx hb d_mShelf_restart_109 rfl (lv_at hl 1 rfl) ?_
  refine lv_iconst (v := 0) hx hb d_mShelf_restart_110 (by decide) ?_
  refine va_put (D := (dC, dI)) (ci := 18) (v := .int 0) (ty := .int) (C := R_mShelf) (T := F_mShelf) (N := 20) hx hb hwd i_mShelf t_mShelf to_mShelf no_mShelf hown hK hP hD hS 0 rfl rfl 13 (by decide) (hwd _ wd_9_222) (fun _ h9 => h9) rfl (by decide +kernel) rfl rfl (Nat.le_of_ble_eq_true rfl) d_mShelf_restart_111 ?_
  clear hP hD hS
  intro H locs hP hD hS
  replace hP : va_P (dC, dI) vcl [(h0, .inr (18, [.int s_thrown, .int s_fonts, .ref s_ids, .ref s_attributes, .ref s_permanent, .int s_glyphs, .ref s_glyph, .int s_used, .ref s_store, .ref s_draft, .ref s_wishes, .ref s_pins, .int 0, .int 0, .int s_loading, .ref s_coming, .int s_need, .int s_came, .ref s_bytes, .ref s_left])), (s_draft, .inl (c1, 7, .inl (upd (upd (upd (upd (upd (upd (upd dr 0 277) 1 0) 2 1000) 3 1200) 4 0) 5 0) 6 3))), (s_wishes, .inl (c2, 14, .inl (upd (upd (upd (upd (upd (upd (upd (upd (upd (upd (upd (upd (upd (upd wi 0 277) 7 277) 1 0) 8 0) 2 1000) 9 1000) 3 1200) 10 1200) 4 0) 11 0) 5 0) 12 0) 6 3) 13 3))), (s_pins, .inl (c3, 2, .inl (upd (upd pn 0 (-1)) 1 (-1))))] H := hP
  replace hD : va_D A [(h0, .inr (18, [.int s_thrown, .int s_fonts, .ref s_ids, .ref s_attributes, .ref s_permanent, .int s_glyphs, .ref s_glyph, .int s_used, .ref s_store, .ref s_draft, .ref s_wishes, .ref s_pins, .int 0, .int 0, .int s_loading, .ref s_coming, .int s_need, .int s_came, .ref s_bytes, .ref s_left])), (s_draft, .inl (c1, 7, .inl (upd (upd (upd (upd (upd (upd (upd dr 0 277) 1 0) 2 1000) 3 1200) 4 0) 5 0) 6 3))), (s_wishes, .inl (c2, 14, .inl (upd (upd (upd (upd (upd (upd (upd (upd (upd (upd (upd (upd (upd (upd wi 0 277) 7 277) 1 0) 8 0) 2 1000) 9 1000) 3 1200) 10 1200) 4 0) 11 0) 5 0) 12 0) 6 3) 13 3))), (s_pins, .inl (c3, 2, .inl (upd (upd pn 0 (-1)) 1 (-1))))] := hD
  refine lv_aload_n hx hb d_mShelf_restart_114 rfl (lv_at hl 1 rfl) ?_
  refine lv_iconst (v := 0) hx hb d_mShelf_restart_115 (by decide) ?_
  refine va_put (D := (dC, dI)) (ci := 18) (v := .int 0) (ty := .boolean) (C := R_mShelf) (T := F_mShelf) (N := 20) hx hb hwd i_mShelf t_mShelf to_mShelf no_mShelf hown hK hP hD hS 0 rfl rfl 14 (by decide) (hwd _ wd_9_223) (fun _ h9 => h9) rfl (by decide +kernel) (by decide) rfl (Nat.le_of_ble_eq_true rfl) d_mShelf_restart_116 ?_
  clear hP hD hS
  intro H locs hP hD hS
  replace hP : va_P (dC, dI) vcl [(h0, .inr (18, [.int s_thrown, .int s_fonts, .ref s_ids, .ref s_attributes, .ref s_permanent, .int s_glyphs, .ref s_glyph, .int s_used, .ref s_store, .ref s_draft, .ref s_wishes, .ref s_pins, .int 0, .int 0, .int 0, .ref s_coming, .int s_need, .int s_came, .ref s_bytes, .ref s_left])), (s_draft, .inl (c1, 7, .inl (upd (upd (upd (upd (upd (upd (upd dr 0 277) 1 0) 2 1000) 3 1200) 4 0) 5 0) 6 3))), (s_wishes, .inl (c2, 14, .inl (upd (upd (upd (upd (upd (upd (upd (upd (upd (upd (upd (upd (upd (upd wi 0 277) 7 277) 1 0) 8 0) 2 1000) 9 1000) 3 1200) 10 1200) 4 0) 11 0) 5 0) 12 0) 6 3) 13 3))), (s_pins, .inl (c3, 2, .inl (upd (upd pn 0 (-1)) 1 (-1))))] H := hP
  replace hD : va_D A [(h0, .inr (18, [.int s_thrown, .int s_fonts, .ref s_ids, .ref s_attributes, .ref s_permanent, .int s_glyphs, .ref s_glyph, .int s_used, .ref s_store, .ref s_draft, .ref s_wishes, .ref s_pins, .int 0, .int 0, .int 0, .ref s_coming, .int s_need, .int s_came, .ref s_bytes, .ref s_left])), (s_draft, .inl (c1, 7, .inl (upd (upd (upd (upd (upd (upd (upd dr 0 277) 1 0) 2 1000) 3 1200) 4 0) 5 0) 6 3))), (s_wishes, .inl (c2, 14, .inl (upd (upd (upd (upd (upd (upd (upd (upd (upd (upd (upd (upd (upd (upd wi 0 277) 7 277) 1 0) 8 0) 2 1000) 9 1000) 3 1200) 10 1200) 4 0) 11 0) 5 0) 12 0) 6 3) 13 3))), (s_pins, .inl (c3, 2, .inl (upd (upd pn 0 (-1)) 1 (-1))))] := hD
  have hP9 := hP.sub (ws' := [(h0, .inr (18, [.int s_thrown, .int s_fonts, .ref s_ids, .ref s_attributes, .ref s_permanent, .int s_glyphs, .ref s_glyph, .int s_used, .ref s_store, .ref s_draft, .ref s_wishes, .ref s_pins, .int 0, .int 0, .int 0, .ref s_coming, .int s_need, .int s_came, .ref s_bytes, .ref s_left])), (s_draft, .inl (c1, 7, .inl (upd (upd (upd (upd (upd (upd (upd dr 0 277) 1 0) 2 1000) 3 1200) 4 0) 5 0) 6 3))), (s_wishes, .inl (c2, 14, .inl (upd (upd (upd (upd (upd (upd (upd (upd (upd (upd (upd (upd (upd (upd wi 0 277) 7 277) 1 0) 8 0) 2 1000) 9 1000) 3 1200) 10 1200) 4 0) 11 0) 5 0) 12 0) 6 3) 13 3))), (s_pins, .inl (c3, 2, .inl (upd (upd pn 0 (-1)) 1 (-1))))]) [0, 1, 2, 3] rfl
  have hD9 := hD.sub (ws' := [(h0, .inr (18, [.int s_thrown, .int s_fonts, .ref s_ids, .ref s_attributes, .ref s_permanent, .int s_glyphs, .ref s_glyph, .int s_used, .ref s_store, .ref s_draft, .ref s_wishes, .ref s_pins, .int 0, .int 0, .int 0, .ref s_coming, .int s_need, .int s_came, .ref s_bytes, .ref s_left])), (s_draft, .inl (c1, 7, .inl (upd (upd (upd (upd (upd (upd (upd dr 0 277) 1 0) 2 1000) 3 1200) 4 0) 5 0) 6 3))), (s_wishes, .inl (c2, 14, .inl (upd (upd (upd (upd (upd (upd (upd (upd (upd (upd (upd (upd (upd (upd wi 0 277) 7 277) 1 0) 8 0) 2 1000) 9 1000) 3 1200) 10 1200) 4 0) 11 0) 5 0) 12 0) 6 3) 13 3))), (s_pins, .inl (c3, 2, .inl (upd (upd pn 0 (-1)) 1 (-1))))]) [0, 1, 2, 3] (by decide) rfl
  have hK9 := hK.sub (tys' := [(c1, .int), (c2, .int), (c3, .int)]) [0, 1, 2] rfl
  exact W.vret hx hb hr (fun t ht hW => ⟨⟨(), rfl, (trivial), by rw [ht]; exact hP9, va_K.moved hW.alike hK9, hD9⟩, hS.F ht⟩) hS.2.2 d_mShelf_restart_119

abbrev at_c_mMacros_init (dC : Nat → ClassId) (dI : Nat → Nat → Nat) (h0 : Nat) (A : Nat → Prop) (u : Unit) (t : State) : Prop := match u with
  | _ => ∃ (q_1 : Nat) (q_3 : Nat) (q_5 : Nat) (q_7 : Nat) (q_9 : Nat) (cA_2 : ClassId) (cA_4 : ClassId) (cA_6 : ClassId) (cA_8 : ClassId) (cA_10 : ClassId), va_P (dC, dI) vcl [(h0, .inr (15, [.int 0, .ref q_1, .ref q_3, .ref q_5, .int 0, .ref q_7, .int 0, .int 0, .int 0, .int 0, .ref q_9])), (q_1, .inl (cA_2, 32, .inl (fun _ => 0))), (q_3, .inl (cA_4, 32, .inl (fun _ => 0))), (q_5, .inl (cA_6, 32, .inl (fun _ => 0))), (q_7, .inl (cA_8, 16384, .inl (fun _ => 0))), (q_9, .inl (cA_10, 16384, .inl (fun _ => 0)))] t.heap ∧ va_K (dC, dI) vcl [(cA_2, .int), (cA_4, .boolean), (cA_6, .int), (cA_8, .byte), (cA_10, .byte)] t ∧ va_D A [(h0, .inr (15, [.int 0, .ref q_1, .ref q_3, .ref q_5, .int 0, .ref q_7, .int 0, .int 0, .int 0, .int 0, .ref q_9])), (q_1, .inl (cA_2, 32, .inl (fun _ => 0))), (q_3, .inl (cA_4, 32, .inl (fun _ => 0))), (q_5, .inl (cA_6, 32, .inl (fun _ => 0))), (q_7, .inl (cA_8, 16384, .inl (fun _ => 0))), (q_9, .inl (cA_10, 16384, .inl (fun _ => 0)))]
abbrev po_c_mMacros_init (h0 : Nat) (u : Unit) : Prop := match u with
  | _ => True
abbrev q_c_mMacros_init (dC : Nat → ClassId) (dI : Nat → Nat → Nat) (h0 : Nat) (A : Nat → Prop) : Array Value → State → Outcome → State → Prop := va_Qv (po_c_mMacros_init h0) (at_c_mMacros_init dC dI h0 A) A
abbrev rm_c_mMacros_init : Room := { frames := 1, cells := 5, slots := 32864, locals := 12 }
set_option maxHeartbeats 4000000 in
set_option maxRecDepth 100000 in
theorem c_mMacros_init (l : Launch) (dC : Nat → ClassId) (dI : Nat → Nat → Nat) (tt : Nat → Nat) (h0 : Nat) (sz : Nat)  : Met l y_mMacros_init w_mMacros_init rm_c_mMacros_init (va_Pc [.ref h0] (fun U => U.heap.size = sz ∧ va_P (dC, dI) vcl [(h0, .inr (15, [.int 0, .null, .null, .null, .int 0, .null, .int 0, .int 0, .int 0, .int 0, .null]))] U.heap ∧ va_K (dC, dI) vcl [] U ∧ va_D (fun _ => True) [(h0, .inr (15, [.int 0, .null, .null, .null, .int 0, .null, .int 0, .int 0, .int 0, .int 0, .null]))] ∧ SF tt (va_A [(h0, .inr (15, [.int 0, .null, .null, .null, .int 0, .null, .int 0, .int 0, .int 0, .int 0, .null]))] sz) U U.heap)) (q_c_mMacros_init dC dI h0 (va_A [(h0, .inr (15, [.int 0, .null, .null, .null, .int 0, .null, .int 0, .int 0, .int 0, .int 0, .null]))] sz)) 5 32864 (va_A [(h0, .inr (15, [.int 0, .null, .null, .null, .int 0, .null, .int 0, .int 0, .int 0, .int 0, .null]))] sz) := by
  refine Met.ofW (cc := b_mMacros_init) (maxL := 1) (ret := none) (by decide) rfl ?_
  intro p e s m args below meth c s₁ B hml hv
  obtain ⟨rfl, hsz, hP, hK, hD0, hF⟩ := hv
  have hx := B.exec
  have hb := B.bytes
  have hr := B.returns
  have hwd : ∀ w ∈ gT, w.before _ s = true := fun w h => atoms_spec (ws := w_mMacros_init) B.pre w (List.mem_cons_of_mem _ h)
  have hown : s.vm.findClass R_mMacros = some m.cls := findClass_of_methodNamed B.named
  have hlocks := B.notSynchronized
  have hin : meth.name = "<init>" := (name_of_methodNamed B.named B.method).1
  subst hsz
  have hD := hD0.self (sz := s.heap.size)
  generalize hAe : va_A [(h0, .inr (15, [.int 0, .null, .null, .null, .int 0, .null, .int 0, .int 0, .int 0, .int 0, .null]))] s.heap.size = A at hD hF ⊢
  have hA : ∀ q : Nat, s.heap.size ≤ q → A q := fun q h => by rw [← hAe]; exact Or.inr h
  have hS : va_S A s.heap s.heap [] := va_S.rf
  have hP : va_P (dC, dI) vcl [(h0, .inr (15, [.int 0, .null, .null, .null, .int 0, .null, .int 0, .int 0, .int 0, .int 0, .null]))] s.heap := hP
  have hl := lv_entry ([.ref h0]) (n := 1) (Nat.le_of_ble_eq_true rfl)
  rw [lg_entry_eq]
  generalize (lg_sl ([.ref h0]) ++ List.replicate (1 - (lg_sl ([.ref h0])).length) Slot.unset).toArray = ls at hl ⊢
  have hl : lv_has ls 1 [(0, .ref h0)] := hl
  refine lv_aload_n hx hb d_mMacros_init_0 rfl (lv_at hl 0 rfl) ?_
  refine W.objInit hx hb hown (hwd _ wd_10_35) (hwd _ wd_1_35) (hwd _ wd_1_36) rfl (by rw [hml]; exact hl.1) rfl d_mMacros_init_1 (Nat.le_of_ble_eq_true rfl) (Nat.le_of_ble_eq_true rfl) ?_
  refine W.eq (g2 := F0 m 4 ls []) rfl ?_
  refine lv_aload_n hx hb d_mMacros_init_4 rfl (lv_at hl 0 rfl) ?_
  refine lv_bipush (v := 32) hx hb d_mMacros_init_5 (by decide) ?_
  refine va_newa (atype := .int) (N' := 32) (a0 := (32, .inl (fun _ => 0))) (ty := .int) (n := 32) hx hb (hwd _ wd_1_167) rfl hK hP hD hS hA (fun _ => rfl) (by decide) (by decide) (by decide) (Nat.le_of_ble_eq_true rfl) (Nat.le_of_ble_eq_true rfl) d_mMacros_init_7 ?_
  clear hP hD hS hK
  intro q_1 cA_2 H hK hP hD hS
  replace hP : va_P (dC, dI) vcl [(h0, .inr (15, [.int 0, .null, .null, .null, .int 0, .null, .int 0, .int 0, .int 0, .int 0, .null])), (q_1, .inl (cA_2, 32, .inl (fun _ => 0)))] H := hP
  replace hD : va_D A [(h0, .inr (15, [.int 0, .null, .null, .null, .int 0, .null, .int 0, .int 0, .int 0, .int 0, .null])), (q_1, .inl (cA_2, 32, .inl (fun _ => 0)))] := hD
  replace hK : va_K (dC, dI) vcl [(cA_2, .int)] s := hK
  refine W.widen (k := 1) (n := 32) (by decide) (by decide) ?_
  refine va_putF (D := (dC, dI)) (ci := 15) (v := .ref q_1) (ty := (.array .int)) (C := R_mMacros) (T := F_mMacros) (N := 11) hx hb hwd i_mMacros t_mMacros to_mMacros no_mMacros hown hK hP hD hS 0 rfl rfl 1 (by decide) (hwd _ wd_10_38) (fun _ h9 => h9) rfl hin rfl (by decide +kernel) rfl rfl (Nat.le_of_ble_eq_true rfl) d_mMacros_init_9 ?_
  clear hP hD hS
  intro H locs hP hD hS
  replace hP : va_P (dC, dI) vcl [(h0, .inr (15, [.int 0, .ref q_1, .null, .null, .int 0, .null, .int 0, .int 0, .int 0, .int 0, .null])), (q_1, .inl (cA_2, 32, .inl (fun _ => 0)))] H := hP
  replace hD : va_D A [(h0, .inr (15, [.int 0, .ref q_1, .null, .null, .int 0, .null, .int 0, .int 0, .int 0, .int 0, .null])), (q_1, .inl (cA_2, 32, .inl (fun _ => 0)))] := hD
  refine lv_aload_n hx hb d_mMacros_init_12 rfl (lv_at hl 0 rfl) ?_
  refine lv_bipush (v := 32) hx hb d_mMacros_init_13 (by decide) ?_
  refine va_newa (atype := .boolean) (N' := 32) (a0 := (32, .inl (fun _ => 0))) (ty := .boolean) (n := 32) hx hb (hwd _ wd_2_150) rfl hK hP hD hS hA (fun _ => rfl) (by decide) (by decide) (by decide) (Nat.le_of_ble_eq_true rfl) (Nat.le_of_ble_eq_true rfl) d_mMacros_init_15 ?_
  clear hP hD hS hK
  intro q_3 cA_4 H hK hP hD hS
  replace hP : va_P (dC, dI) vcl [(h0, .inr (15, [.int 0, .ref q_1, .null, .null, .int 0, .null, .int 0, .int 0, .int 0, .int 0, .null])), (q_1, .inl (cA_2, 32, .inl (fun _ => 0))), (q_3, .inl (cA_4, 32, .inl (fun _ => 0)))] H := hP
  replace hD : va_D A [(h0, .inr (15, [.int 0, .ref q_1, .null, .null, .int 0, .null, .int 0, .int 0, .int 0, .int 0, .null])), (q_1, .inl (cA_2, 32, .inl (fun _ => 0))), (q_3, .inl (cA_4, 32, .inl (fun _ => 0)))] := hD
  replace hK : va_K (dC, dI) vcl [(cA_2, .int), (cA_4, .boolean)] s := hK
  refine W.widen (k := 2) (n := 64) (by decide) (by decide) ?_
  refine va_putF (D := (dC, dI)) (ci := 15) (v := .ref q_3) (ty := (.array .boolean)) (C := R_mMacros) (T := F_mMacros) (N := 11) hx hb hwd i_mMacros t_mMacros to_mMacros no_mMacros hown hK hP hD hS 0 rfl rfl 2 (by decide) (hwd _ wd_10_39) (fun _ h9 => h9) rfl hin rfl (by decide +kernel) rfl rfl (Nat.le_of_ble_eq_true rfl) d_mMacros_init_17 ?_
  clear hP hD hS
  intro H locs hP hD hS
  replace hP : va_P (dC, dI) vcl [(h0, .inr (15, [.int 0, .ref q_1, .ref q_3, .null, .int 0, .null, .int 0, .int 0, .int 0, .int 0, .null])), (q_1, .inl (cA_2, 32, .inl (fun _ => 0))), (q_3, .inl (cA_4, 32, .inl (fun _ => 0)))] H := hP
  replace hD : va_D A [(h0, .inr (15, [.int 0, .ref q_1, .ref q_3, .null, .int 0, .null, .int 0, .int 0, .int 0, .int 0, .null])), (q_1, .inl (cA_2, 32, .inl (fun _ => 0))), (q_3, .inl (cA_4, 32, .inl (fun _ => 0)))] := hD
  refine lv_aload_n hx hb d_mMacros_init_20 rfl (lv_at hl 0 rfl) ?_
  refine lv_bipush (v := 32) hx hb d_mMacros_init_21 (by decide) ?_
  refine va_newa (atype := .int) (N' := 32) (a0 := (32, .inl (fun _ => 0))) (ty := .int) (n := 32) hx hb (hwd _ wd_1_167) rfl hK hP hD hS hA (fun _ => rfl) (by decide) (by decide) (by decide) (Nat.le_of_ble_eq_true rfl) (Nat.le_of_ble_eq_true rfl) d_mMacros_init_23 ?_
  clear hP hD hS hK
  intro q_5 cA_6 H hK hP hD hS
  replace hP : va_P (dC, dI) vcl [(h0, .inr (15, [.int 0, .ref q_1, .ref q_3, .null, .int 0, .null, .int 0, .int 0, .int 0, .int 0, .null])), (q_1, .inl (cA_2, 32, .inl (fun _ => 0))), (q_3, .inl (cA_4, 32, .inl (fun _ => 0))), (q_5, .inl (cA_6, 32, .inl (fun _ => 0)))] H := hP
  replace hD : va_D A [(h0, .inr (15, [.int 0, .ref q_1, .ref q_3, .null, .int 0, .null, .int 0, .int 0, .int 0, .int 0, .null])), (q_1, .inl (cA_2, 32, .inl (fun _ => 0))), (q_3, .inl (cA_4, 32, .inl (fun _ => 0))), (q_5, .inl (cA_6, 32, .inl (fun _ => 0)))] := hD
  replace hK : va_K (dC, dI) vcl [(cA_2, .int), (cA_4, .boolean), (cA_6, .int)] s := hK
  refine W.widen (k := 3) (n := 96) (by decide) (by decide) ?_
  refine va_putF (D := (dC, dI)) (ci := 15) (v := .ref q_5) (ty := (.array .int)) (C := R_mMacros) (T := F_mMacros) (N := 11) hx hb hwd i_mMacros t_mMacros to_mMacros no_mMacros hown hK hP hD hS 0 rfl rfl 3 (by decide) (hwd _ wd_10_41) (fun _ h9 => h9) rfl hin rfl (by decide +kernel) rfl rfl (Nat.le_of_ble_eq_true rfl) d_mMacros_init_25 ?_
  clear hP hD hS
  intro H locs hP hD hS
  replace hP : va_P (dC, dI) vcl [(h0, .inr (15, [.int 0, .ref q_1, .ref q_3, .ref q_5, .int 0, .null, .int 0, .int 0, .int 0, .int 0, .null])), (q_1, .inl (cA_2, 32, .inl (fun _ => 0))), (q_3, .inl (cA_4, 32, .inl (fun _ => 0))), (q_5, .inl (cA_6, 32, .inl (fun _ => 0)))] H := hP
  replace hD : va_D A [(h0, .inr (15, [.int 0, .ref q_1, .ref q_3, .ref q_5, .int 0, .null, .int 0, .int 0, .int 0, .int 0, .null])), (q_1, .inl (cA_2, 32, .inl (fun _ => 0))), (q_3, .inl (cA_4, 32, .inl (fun _ => 0))), (q_5, .inl (cA_6, 32, .inl (fun _ => 0)))] := hD
  refine lv_aload_n hx hb d_mMacros_init_28 rfl (lv_at hl 0 rfl) ?_
  refine lv_sipush (v := 16384) hx hb d_mMacros_init_29 (by decide) ?_
  refine va_newa (atype := .byte) (N' := 16384) (a0 := (16384, .inl (fun _ => 0))) (ty := .byte) (n := 16384) hx hb (hwd _ wd_1_166) rfl hK hP hD hS hA (fun _ => rfl) (by decide) (by decide) (by decide) (Nat.le_of_ble_eq_true rfl) (Nat.le_of_ble_eq_true rfl) d_mMacros_init_32 ?_
  clear hP hD hS hK
  intro q_7 cA_8 H hK hP hD hS
  replace hP : va_P (dC, dI) vcl [(h0, .inr (15, [.int 0, .ref q_1, .ref q_3, .ref q_5, .int 0, .null, .int 0, .int 0, .int 0, .int 0, .null])), (q_1, .inl (cA_2, 32, .inl (fun _ => 0))), (q_3, .inl (cA_4, 32, .inl (fun _ => 0))), (q_5, .inl (cA_6, 32, .inl (fun _ => 0))), (q_7, .inl (cA_8, 16384, .inl (fun _ => 0)))] H := hP
  replace hD : va_D A [(h0, .inr (15, [.int 0, .ref q_1, .ref q_3, .ref q_5, .int 0, .null, .int 0, .int 0, .int 0, .int 0, .null])), (q_1, .inl (cA_2, 32, .inl (fun _ => 0))), (q_3, .inl (cA_4, 32, .inl (fun _ => 0))), (q_5, .inl (cA_6, 32, .inl (fun _ => 0))), (q_7, .inl (cA_8, 16384, .inl (fun _ => 0)))] := hD
  replace hK : va_K (dC, dI) vcl [(cA_2, .int), (cA_4, .boolean), (cA_6, .int), (cA_8, .byte)] s := hK
  refine W.widen (k := 4) (n := 16480) (by decide) (by decide) ?_
  refine va_putF (D := (dC, dI)) (ci := 15) (v := .ref q_7) (ty := (.array .byte)) (C := R_mMacros) (T := F_mMacros) (N := 11) hx hb hwd i_mMacros t_mMacros to_mMacros no_mMacros hown hK hP hD hS 0 rfl rfl 5 (by decide) (hwd _ wd_10_45) (fun _ h9 => h9) rfl hin rfl (by decide +kernel) rfl rfl (Nat.le_of_ble_eq_true rfl) d_mMacros_init_34 ?_
  clear hP hD hS
  intro H locs hP hD hS
  replace hP : va_P (dC, dI) vcl [(h0, .inr (15, [.int 0, .ref q_1, .ref q_3, .ref q_5, .int 0, .ref q_7, .int 0, .int 0, .int 0, .int 0, .null])), (q_1, .inl (cA_2, 32, .inl (fun _ => 0))), (q_3, .inl (cA_4, 32, .inl (fun _ => 0))), (q_5, .inl (cA_6, 32, .inl (fun _ => 0))), (q_7, .inl (cA_8, 16384, .inl (fun _ => 0)))] H := hP
  replace hD : va_D A [(h0, .inr (15, [.int 0, .ref q_1, .ref q_3, .ref q_5, .int 0, .ref q_7, .int 0, .int 0, .int 0, .int 0, .null])), (q_1, .inl (cA_2, 32, .inl (fun _ => 0))), (q_3, .inl (cA_4, 32, .inl (fun _ => 0))), (q_5, .inl (cA_6, 32, .inl (fun _ => 0))), (q_7, .inl (cA_8, 16384, .inl (fun _ => 0)))] := hD
  refine lv_aload_n hx hb d_mMacros_init_37 rfl (lv_at hl 0 rfl) ?_
  refine lv_sipush (v := 16384) hx hb d_mMacros_init_38 (by decide) ?_
  refine va_newa (atype := .byte) (N' := 16384) (a0 := (16384, .inl (fun _ => 0))) (ty := .byte) (n := 16384) hx hb (hwd _ wd_1_166) rfl hK hP hD hS hA (fun _ => rfl) (by decide) (by decide) (by decide) (Nat.le_of_ble_eq_true rfl) (Nat.le_of_ble_eq_true rfl) d_mMacros_init_41 ?_
  clear hP hD hS hK
  intro q_9 cA_10 H hK hP hD hS
  replace hP : va_P (dC, dI) vcl [(h0, .inr (15, [.int 0, .ref q_1, .ref q_3, .ref q_5, .int 0, .ref q_7, .int 0, .int 0, .int 0, .int 0, .null])), (q_1, .inl (cA_2, 32, .inl (fun _ => 0))), (q_3, .inl (cA_4, 32, .inl (fun _ => 0))), (q_5, .inl (cA_6, 32, .inl (fun _ => 0))), (q_7, .inl (cA_8, 16384, .inl (fun _ => 0))), (q_9, .inl (cA_10, 16384, .inl (fun _ => 0)))] H := hP
  replace hD : va_D A [(h0, .inr (15, [.int 0, .ref q_1, .ref q_3, .ref q_5, .int 0, .ref q_7, .int 0, .int 0, .int 0, .int 0, .null])), (q_1, .inl (cA_2, 32, .inl (fun _ => 0))), (q_3, .inl (cA_4, 32, .inl (fun _ => 0))), (q_5, .inl (cA_6, 32, .inl (fun _ => 0))), (q_7, .inl (cA_8, 16384, .inl (fun _ => 0))), (q_9, .inl (cA_10, 16384, .inl (fun _ => 0)))] := hD
  replace hK : va_K (dC, dI) vcl [(cA_2, .int), (cA_4, .boolean), (cA_6, .int), (cA_8, .byte), (cA_10, .byte)] s := hK
  refine W.widen (k := 5) (n := 32864) (by decide) (by decide) ?_
  refine va_putF (D := (dC, dI)) (ci := 15) (v := .ref q_9) (ty := (.array .byte)) (C := R_mMacros) (T := F_mMacros) (N := 11) hx hb hwd i_mMacros t_mMacros to_mMacros no_mMacros hown hK hP hD hS 0 rfl rfl 10 (by decide) (hwd _ wd_10_52) (fun _ h9 => h9) rfl hin rfl (by decide +kernel) rfl rfl (Nat.le_of_ble_eq_true rfl) d_mMacros_init_43 ?_
  clear hP hD hS
  intro H locs hP hD hS
  replace hP : va_P (dC, dI) vcl [(h0, .inr (15, [.int 0, .ref q_1, .ref q_3, .ref q_5, .int 0, .ref q_7, .int 0, .int 0, .int 0, .int 0, .ref q_9])), (q_1, .inl (cA_2, 32, .inl (fun _ => 0))), (q_3, .inl (cA_4, 32, .inl (fun _ => 0))), (q_5, .inl (cA_6, 32, .inl (fun _ => 0))), (q_7, .inl (cA_8, 16384, .inl (fun _ => 0))), (q_9, .inl (cA_10, 16384, .inl (fun _ => 0)))] H := hP
  replace hD : va_D A [(h0, .inr (15, [.int 0, .ref q_1, .ref q_3, .ref q_5, .int 0, .ref q_7, .int 0, .int 0, .int 0, .int 0, .ref q_9])), (q_1, .inl (cA_2, 32, .inl (fun _ => 0))), (q_3, .inl (cA_4, 32, .inl (fun _ => 0))), (q_5, .inl (cA_6, 32, .inl (fun _ => 0))), (q_7, .inl (cA_8, 16384, .inl (fun _ => 0))), (q_9, .inl (cA_10, 16384, .inl (fun _ => 0)))] := hD
  have hP9 := hP.sub (ws' := [(h0, .inr (15, [.int 0, .ref q_1, .ref q_3, .ref q_5, .int 0, .ref q_7, .int 0, .int 0, .int 0, .int 0, .ref q_9])), (q_1, .inl (cA_2, 32, .inl (fun _ => 0))), (q_3, .inl (cA_4, 32, .inl (fun _ => 0))), (q_5, .inl (cA_6, 32, .inl (fun _ => 0))), (q_7, .inl (cA_8, 16384, .inl (fun _ => 0))), (q_9, .inl (cA_10, 16384, .inl (fun _ => 0)))]) [0, 1, 2, 3, 4, 5] rfl
  have hD9 := hD.sub (ws' := [(h0, .inr (15, [.int 0, .ref q_1, .ref q_3, .ref q_5, .int 0, .ref q_7, .int 0, .int 0, .int 0, .int 0, .ref q_9])), (q_1, .inl (cA_2, 32, .inl (fun _ => 0))), (q_3, .inl (cA_4, 32, .inl (fun _ => 0))), (q_5, .inl (cA_6, 32, .inl (fun _ => 0))), (q_7, .inl (cA_8, 16384, .inl (fun _ => 0))), (q_9, .inl (cA_10, 16384, .inl (fun _ => 0)))]) [0, 1, 2, 3, 4, 5] (by decide) rfl
  have hK9 := hK.sub (tys' := [(cA_2, .int), (cA_4, .boolean), (cA_6, .int), (cA_8, .byte), (cA_10, .byte)]) [0, 1, 2, 3, 4] rfl
  exact W.vret hx hb hr (fun t ht hW => ⟨⟨(), rfl, (trivial), q_1, q_3, q_5, q_7, q_9, cA_2, cA_4, cA_6, cA_8, cA_10, by rw [ht]; exact hP9, va_K.moved hW.alike hK9, hD9⟩, hS.F ht⟩) hS.2.2 d_mMacros_init_46

abbrev at_c_mMacros_removeAll_0 (dC : Nat → ClassId) (dI : Nat → Nat → Nat) (h0 : Nat) (m_ids : Nat) (m_permanent : Nat) (m_lengths : Nat) (m_used : Int32) (m_store : Nat) (m_reading : Int32) (m_id : Int32) (m_length : Int32) (m_matched : Int32) (m_buffer : Nat) (A : Nat → Prop) (u : Unit) (t : State) : Prop := match u with
  | _ => va_P (dC, dI) vcl [(h0, .inr (15, [.int 0, .ref m_ids, .ref m_permanent, .ref m_lengths, .int m_used, .ref m_store, .int m_reading, .int m_id, .int m_length, .int m_matched, .ref m_buffer]))] t.heap ∧ va_K (dC, dI) vcl [] t ∧ va_D A [(h0, .inr (15, [.int 0, .ref m_ids, .ref m_permanent, .ref m_lengths, .int m_used, .ref m_store, .int m_reading, .int m_id, .int m_length, .int m_matched, .ref m_buffer]))]
abbrev po_c_mMacros_removeAll_0 (h0 : Nat) (m_ids : Nat) (m_permanent : Nat) (m_lengths : Nat) (m_used : Int32) (m_store : Nat) (m_reading : Int32) (m_id : Int32) (m_length : Int32) (m_matched : Int32) (m_buffer : Nat) (u : Unit) : Prop := match u with
  | _ => True
abbrev q_c_mMacros_removeAll_0 (dC : Nat → ClassId) (dI : Nat → Nat → Nat) (h0 : Nat) (m_ids : Nat) (m_permanent : Nat) (m_lengths : Nat) (m_used : Int32) (m_store : Nat) (m_reading : Int32) (m_id : Int32) (m_length : Int32) (m_matched : Int32) (m_buffer : Nat) (A : Nat → Prop) : Array Value → State → Outcome → State → Prop := va_Qv (po_c_mMacros_removeAll_0 h0 m_ids m_permanent m_lengths m_used m_store m_reading m_id m_length m_matched m_buffer) (at_c_mMacros_removeAll_0 dC dI h0 m_ids m_permanent m_lengths m_used m_store m_reading m_id m_length m_matched m_buffer A) A
abbrev rm_c_mMacros_removeAll_0 : Room := { frames := 0, cells := 0, slots := 0, locals := 0 }
set_option maxHeartbeats 4000000 in
set_option maxRecDepth 100000 in
theorem c_mMacros_removeAll_0 (l : Launch) (dC : Nat → ClassId) (dI : Nat → Nat → Nat) (tt : Nat → Nat) (h0 : Nat) (m_ids : Nat) (m_permanent : Nat) (m_lengths : Nat) (m_used : Int32) (m_store : Nat) (m_reading : Int32) (m_id : Int32) (m_length : Int32) (m_matched : Int32) (m_buffer : Nat) (sz : Nat)  : Met l y_mMacros_removeAll w_mMacros_removeAll rm_c_mMacros_removeAll_0 (va_Pc [.ref h0, .int 0] (fun U => U.heap.size = sz ∧ va_P (dC, dI) vcl [(h0, .inr (15, [.int 0, .ref m_ids, .ref m_permanent, .ref m_lengths, .int m_used, .ref m_store, .int m_reading, .int m_id, .int m_length, .int m_matched, .ref m_buffer]))] U.heap ∧ va_K (dC, dI) vcl [] U ∧ va_D (fun _ => True) [(h0, .inr (15, [.int 0, .ref m_ids, .ref m_permanent, .ref m_lengths, .int m_used, .ref m_store, .int m_reading, .int m_id, .int m_length, .int m_matched, .ref m_buffer]))] ∧ SF tt (va_A [(h0, .inr (15, [.int 0, .ref m_ids, .ref m_permanent, .ref m_lengths, .int m_used, .ref m_store, .int m_reading, .int m_id, .int m_length, .int m_matched, .ref m_buffer]))] sz) U U.heap)) (q_c_mMacros_removeAll_0 dC dI h0 m_ids m_permanent m_lengths m_used m_store m_reading m_id m_length m_matched m_buffer (va_A [(h0, .inr (15, [.int 0, .ref m_ids, .ref m_permanent, .ref m_lengths, .int m_used, .ref m_store, .int m_reading, .int m_id, .int m_length, .int m_matched, .ref m_buffer]))] sz)) 0 0 (va_A [(h0, .inr (15, [.int 0, .ref m_ids, .ref m_permanent, .ref m_lengths, .int m_used, .ref m_store, .int m_reading, .int m_id, .int m_length, .int m_matched, .ref m_buffer]))] sz) := by
  refine Met.ofW (cc := b_mMacros_removeAll) (maxL := 3) (ret := none) (by decide) rfl ?_
  intro p e s m args below meth c s₁ B hml hv
  obtain ⟨rfl, hsz, hP, hK, hD0, hF⟩ := hv
  have hx := B.exec
  have hb := B.bytes
  have hr := B.returns
  have hwd : ∀ w ∈ gT, w.before _ s = true := fun w h => atoms_spec (ws := w_mMacros_removeAll) B.pre w (List.mem_cons_of_mem _ h)
  have hown : s.vm.findClass R_mMacros = some m.cls := findClass_of_methodNamed B.named
  have hlocks := B.notSynchronized
  subst hsz
  have hD := hD0.self (sz := s.heap.size)
  generalize hAe : va_A [(h0, .inr (15, [.int 0, .ref m_ids, .ref m_permanent, .ref m_lengths, .int m_used, .ref m_store, .int m_reading, .int m_id, .int m_length, .int m_matched, .ref m_buffer]))] s.heap.size = A at hD hF ⊢
  have hA : ∀ q : Nat, s.heap.size ≤ q → A q := fun q h => by rw [← hAe]; exact Or.inr h
  have hS : va_S A s.heap s.heap [] := va_S.rf
  have hP : va_P (dC, dI) vcl [(h0, .inr (15, [.int 0, .ref m_ids, .ref m_permanent, .ref m_lengths, .int m_used, .ref m_store, .int m_reading, .int m_id, .int m_length, .int m_matched, .ref m_buffer]))] s.heap := hP
  have hl := lv_entry ([.ref h0, .int 0]) (n := 3) (Nat.le_of_ble_eq_true rfl)
  rw [lg_entry_eq]
  generalize (lg_sl ([.ref h0, .int 0]) ++ List.replicate (3 - (lg_sl ([.ref h0, .int 0])).length) Slot.unset).toArray = ls at hl ⊢
  have hl : lv_has ls 3 [(0, .ref h0), (1, .int 0)] := hl
  refine lv_aload_n hx hb d_mMacros_removeAll_0 rfl (lv_at hl 0 rfl) ?_
  refine va_get (D := (dC, dI)) (ci := 15) (v := .int 0) (C := R_mMacros) (T := F_mMacros) (N := 11) hx hb hwd i_mMacros hown hK hP 0 rfl rfl 0 (by decide) (hwd _ wd_10_36) (fun _ h9 => h9) rfl d_mMacros_removeAll_1 ?_
  refine lv_iconst (v := 1) hx hb d_mMacros_removeAll_4 (by decide) ?_
  refine lv_isub hx hb d_mMacros_removeAll_5 ?_
  refine lv_topi (fun y_1 ey_1 => ?_)
  obtain rfl : y_1 = ((-1) : Int32) := ey_1.trans (by decide)
  refine lv_istore_n (lv' := [(2, .int (-1)), (0, .ref h0), (1, .int 0)]) hx hb d_mMacros_removeAll_6 rfl hl (by decide) rfl ?_
  clear hl
  intro ls hl
  refine lv_iload_n hx hb d_mMacros_removeAll_7 rfl (lv_at hl 0 rfl) ?_
  refine lv_if_lt (tgt := 35) hx hb d_mMacros_removeAll_8 (by decide) (fun _ => ?_) (fun c8 => absurd (by decide) c8)
  have hP9 := hP.sub (ws' := [(h0, .inr (15, [.int 0, .ref m_ids, .ref m_permanent, .ref m_lengths, .int m_used, .ref m_store, .int m_reading, .int m_id, .int m_length, .int m_matched, .ref m_buffer]))]) [0] rfl
  have hD9 := hD.sub (ws' := [(h0, .inr (15, [.int 0, .ref m_ids, .ref m_permanent, .ref m_lengths, .int m_used, .ref m_store, .int m_reading, .int m_id, .int m_length, .int m_matched, .ref m_buffer]))]) [0] (by decide) rfl
  have hK9 := hK.sub (tys' := []) [] rfl
  exact W.vret hx hb hr (fun t ht hW => ⟨⟨(), rfl, (trivial), by rw [ht]; exact hP9, va_K.moved hW.alike hK9, hD9⟩, hS.F ht⟩) hS.2.2 d_mMacros_removeAll_35

abbrev at_c_Pictures_init (dC : Nat → ClassId) (dI : Nat → Nat → Nat) (h0 : Nat) (A : Nat → Prop) (u : Unit) (t : State) : Prop := match u with
  | _ => ∃ (q_1 : Nat) (q_3 : Nat) (q_5 : Nat) (q_7 : Nat) (q_9 : Nat) (q_11 : Nat) (q_13 : Nat) (q_15 : Nat) (cA_2 : ClassId) (cA_4 : ClassId) (cA_6 : ClassId) (cA_8 : ClassId) (cA_10 : ClassId) (cA_12 : ClassId) (cA_14 : ClassId) (cA_16 : ClassId), va_P (dC, dI) vcl [(h0, .inr (16, [.int 0, .ref q_1, .int 0, .int 0, .int 0, .int 0, .int 0, .int 0, .int 0, .int 0, .int 0, .int 0, .int 0, .int 0, .int 0, .int 0, .int 0, .ref q_3, .ref q_5, .int 0, .int 0, .ref q_7, .ref q_9, .ref q_11, .ref q_13, .int 0, .int 0, .int 0, .int 0, .ref q_15])), (q_1, .inl (cA_2, 65536, .inl (fun _ => 0))), (q_3, .inl (cA_4, 512, .inl (fun _ => 0))), (q_5, .inl (cA_6, 512, .inl (fun _ => 0))), (q_7, .inl (cA_8, 520, .inr (.inl (fun _ => 0)))), (q_9, .inl (cA_10, 41, .inl (fun _ => 0))), (q_11, .inl (cA_12, 8192, .inl (fun _ => 0))), (q_13, .inl (cA_14, 8192, .inl (fun _ => 0))), (q_15, .inl (cA_16, 11, .inl (fun _ => 0)))] t.heap ∧ va_K (dC, dI) vcl [(cA_2, .byte), (cA_4, .int), (cA_6, .int), (cA_8, .long), (cA_10, .int), (cA_12, .int), (cA_14, .int), (cA_16, .int)] t ∧ va_D A [(h0, .inr (16, [.int 0, .ref q_1, .int 0, .int 0, .int 0, .int 0, .int 0, .int 0, .int 0, .int 0, .int 0, .int 0, .int 0, .int 0, .int 0, .int 0, .int 0, .ref q_3, .ref q_5, .int 0, .int 0, .ref q_7, .ref q_9, .ref q_11, .ref q_13, .int 0, .int 0, .int 0, .int 0, .ref q_15])), (q_1, .inl (cA_2, 65536, .inl (fun _ => 0))), (q_3, .inl (cA_4, 512, .inl (fun _ => 0))), (q_5, .inl (cA_6, 512, .inl (fun _ => 0))), (q_7, .inl (cA_8, 520, .inr (.inl (fun _ => 0)))), (q_9, .inl (cA_10, 41, .inl (fun _ => 0))), (q_11, .inl (cA_12, 8192, .inl (fun _ => 0))), (q_13, .inl (cA_14, 8192, .inl (fun _ => 0))), (q_15, .inl (cA_16, 11, .inl (fun _ => 0)))]
abbrev po_c_Pictures_init (h0 : Nat) (u : Unit) : Prop := match u with
  | _ => True
abbrev q_c_Pictures_init (dC : Nat → ClassId) (dI : Nat → Nat → Nat) (h0 : Nat) (A : Nat → Prop) : Array Value → State → Outcome → State → Prop := va_Qv (po_c_Pictures_init h0) (at_c_Pictures_init dC dI h0 A) A
abbrev rm_c_Pictures_init : Room := { frames := 1, cells := 8, slots := 83516, locals := 12 }
set_option maxHeartbeats 4000000 in
set_option maxRecDepth 100000 in
theorem c_Pictures_init (l : Launch) (dC : Nat → ClassId) (dI : Nat → Nat → Nat) (tt : Nat → Nat) (h0 : Nat) (sz : Nat)  : Met l y_mPictures_init w_mPictures_init rm_c_Pictures_init (va_Pc [.ref h0] (fun U => U.heap.size = sz ∧ va_P (dC, dI) vcl [(h0, .inr (16, [.int 0, .null, .int 0, .int 0, .int 0, .int 0, .int 0, .int 0, .int 0, .int 0, .int 0, .int 0, .int 0, .int 0, .int 0, .int 0, .int 0, .null, .null, .int 0, .int 0, .null, .null, .null, .null, .int 0, .int 0, .int 0, .int 0, .null]))] U.heap ∧ va_K (dC, dI) vcl [] U ∧ va_D (fun _ => True) [(h0, .inr (16, [.int 0, .null, .int 0, .int 0, .int 0, .int 0, .int 0, .int 0, .int 0, .int 0, .int 0, .int 0, .int 0, .int 0, .int 0, .int 0, .int 0, .null, .null, .int 0, .int 0, .null, .null, .null, .null, .int 0, .int 0, .int 0, .int 0, .null]))] ∧ SF tt (va_A [(h0, .inr (16, [.int 0, .null, .int 0, .int 0, .int 0, .int 0, .int 0, .int 0, .int 0, .int 0, .int 0, .int 0, .int 0, .int 0, .int 0, .int 0, .int 0, .null, .null, .int 0, .int 0, .null, .null, .null, .null, .int 0, .int 0, .int 0, .int 0, .null]))] sz) U U.heap)) (q_c_Pictures_init dC dI h0 (va_A [(h0, .inr (16, [.int 0, .null, .int 0, .int 0, .int 0, .int 0, .int 0, .int 0, .int 0, .int 0, .int 0, .int 0, .int 0, .int 0, .int 0, .int 0, .int 0, .null, .null, .int 0, .int 0, .null, .null, .null, .null, .int 0, .int 0, .int 0, .int 0, .null]))] sz)) 8 83516 (va_A [(h0, .inr (16, [.int 0, .null, .int 0, .int 0, .int 0, .int 0, .int 0, .int 0, .int 0, .int 0, .int 0, .int 0, .int 0, .int 0, .int 0, .int 0, .int 0, .null, .null, .int 0, .int 0, .null, .null, .null, .null, .int 0, .int 0, .int 0, .int 0, .null]))] sz) := by
  refine Met.ofW (cc := b_mPictures_init) (maxL := 1) (ret := none) (by decide) rfl ?_
  intro p e s m args below meth c s₁ B hml hv
  obtain ⟨rfl, hsz, hP, hK, hD0, hF⟩ := hv
  have hx := B.exec
  have hb := B.bytes
  have hr := B.returns
  have hwd : ∀ w ∈ gT, w.before _ s = true := fun w h => atoms_spec (ws := w_mPictures_init) B.pre w (List.mem_cons_of_mem _ h)
  have hown : s.vm.findClass R_mPictures = some m.cls := findClass_of_methodNamed B.named
  have hlocks := B.notSynchronized
  have hin : meth.name = "<init>" := (name_of_methodNamed B.named B.method).1
  subst hsz
  have hD := hD0.self (sz := s.heap.size)
  generalize hAe : va_A [(h0, .inr (16, [.int 0, .null, .int 0, .int 0, .int 0, .int 0, .int 0, .int 0, .int 0, .int 0, .int 0, .int 0, .int 0, .int 0, .int 0, .int 0, .int 0, .null, .null, .int 0, .int 0, .null, .null, .null, .null, .int 0, .int 0, .int 0, .int 0, .null]))] s.heap.size = A at hD hF ⊢
  have hA : ∀ q : Nat, s.heap.size ≤ q → A q := fun q h => by rw [← hAe]; exact Or.inr h
  have hS : va_S A s.heap s.heap [] := va_S.rf
  have hP : va_P (dC, dI) vcl [(h0, .inr (16, [.int 0, .null, .int 0, .int 0, .int 0, .int 0, .int 0, .int 0, .int 0, .int 0, .int 0, .int 0, .int 0, .int 0, .int 0, .int 0, .int 0, .null, .null, .int 0, .int 0, .null, .null, .null, .null, .int 0, .int 0, .int 0, .int 0, .null]))] s.heap := hP
  have hl := lv_entry ([.ref h0]) (n := 1) (Nat.le_of_ble_eq_true rfl)
  rw [lg_entry_eq]
  generalize (lg_sl ([.ref h0]) ++ List.replicate (1 - (lg_sl ([.ref h0])).length) Slot.unset).toArray = ls at hl ⊢
  have hl : lv_has ls 1 [(0, .ref h0)] := hl
  refine lv_aload_n hx hb d_mPictures_init_0 rfl (lv_at hl 0 rfl) ?_
  refine W.objInit hx hb hown (hwd _ wd_10_156) (hwd _ wd_1_35) (hwd _ wd_1_36) rfl (by rw [hml]; exact hl.1) rfl d_mPictures_init_1 (Nat.le_of_ble_eq_true rfl) (Nat.le_of_ble_eq_true rfl) ?_
  refine W.eq (g2 := F0 m 4 ls []) rfl ?_
  refine lv_aload_n hx hb d_mPictures_init_4 rfl (lv_at hl 0 rfl) ?_
  refine lv_ldc hx hb hown (hwd _ wd_10_157) d_mPictures_init_5 ?_
  refine va_newa (atype := .byte) (N' := 65536) (a0 := (65536, .inl (fun _ => 0))) (ty := .byte) (n := 65536) hx hb (hwd _ wd_1_166) rfl hK hP hD hS hA (fun _ => rfl) (by decide) (by decide) (by decide) (Nat.le_of_ble_eq_true rfl) (Nat.le_of_ble_eq_true rfl) d_mPictures_init_7 ?_
  clear hP hD hS hK
  intro q_1 cA_2 H hK hP hD hS
  replace hP : va_P (dC, dI) vcl [(h0, .inr (16, [.int 0, .null, .int 0, .int 0, .int 0, .int 0, .int 0, .int 0, .int 0, .int 0, .int 0, .int 0, .int 0, .int 0, .int 0, .int 0, .int 0, .null, .null, .int 0, .int 0, .null, .null, .null, .null, .int 0, .int 0, .int 0, .int 0, .null])), (q_1, .inl (cA_2, 65536, .inl (fun _ => 0)))] H := hP
  replace hD : va_D A [(h0, .inr (16, [.int 0, .null, .int 0, .int 0, .int 0, .int 0, .int 0, .int 0, .int 0, .int 0, .int 0, .int 0, .int 0, .int 0, .int 0, .int 0, .int 0, .null, .null, .int 0, .int 0, .null, .null, .null, .null, .int 0, .int 0, .int 0, .int 0, .null])), (q_1, .inl (cA_2, 65536, .inl (fun _ => 0)))] := hD
  replace hK : va_K (dC, dI) vcl [(cA_2, .byte)] s := hK
  refine W.widen (k := 1) (n := 65536) (by decide) (by decide) ?_
  refine va_putF (D := (dC, dI)) (ci := 16) (v := .ref q_1) (ty := (.array .byte)) (C := R_mPictures) (T := F_mPictures) (N := 30) hx hb hwd i_mPictures t_mPictures to_mPictures no_mPictures hown hK hP hD hS 0 rfl rfl 1 (by decide) (hwd _ wd_10_159) (fun _ h9 => h9) rfl hin rfl (by decide +kernel) rfl rfl (Nat.le_of_ble_eq_true rfl) d_mPictures_init_9 ?_
  clear hP hD hS
  intro H locs hP hD hS
  replace hP : va_P (dC, dI) vcl [(h0, .inr (16, [.int 0, .ref q_1, .int 0, .int 0, .int 0, .int 0, .int 0, .int 0, .int 0, .int 0, .int 0, .int 0, .int 0, .int 0, .int 0, .int 0, .int 0, .null, .null, .int 0, .int 0, .null, .null, .null, .null, .int 0, .int 0, .int 0, .int 0, .null])), (q_1, .inl (cA_2, 65536, .inl (fun _ => 0)))] H := hP
  replace hD : va_D A [(h0, .inr (16, [.int 0, .ref q_1, .int 0, .int 0, .int 0, .int 0, .int 0, .int 0, .int 0, .int 0, .int 0, .int 0, .int 0, .int 0, .int 0, .int 0, .int 0, .null, .null, .int 0, .int 0, .null, .null, .null, .null, .int 0, .int 0, .int 0, .int 0, .null])), (q_1, .inl (cA_2, 65536, .inl (fun _ => 0)))] := hD
  refine lv_aload_n hx hb d_mPictures_init_12 rfl (lv_at hl 0 rfl) ?_
  refine lv_sipush (v := 512) hx hb d_mPictures_init_13 (by decide) ?_
  refine va_newa (atype := .int) (N' := 512) (a0 := (512, .inl (fun _ => 0))) (ty := .int) (n := 512) hx hb (hwd _ wd_1_167) rfl hK hP hD hS hA (fun _ => rfl) (by decide) (by decide) (by decide) (Nat.le_of_ble_eq_true rfl) (Nat.le_of_ble_eq_true rfl) d_mPictures_init_16 ?_
  clear hP hD hS hK
  intro q_3 cA_4 H hK hP hD hS
  replace hP : va_P (dC, dI) vcl [(h0, .inr (16, [.int 0, .ref q_1, .int 0, .int 0, .int 0, .int 0, .int 0, .int 0, .int 0, .int 0, .int 0, .int 0, .int 0, .int 0, .int 0, .int 0, .int 0, .null, .null, .int 0, .int 0, .null, .null, .null, .null, .int 0, .int 0, .int 0, .int 0, .null])), (q_1, .inl (cA_2, 65536, .inl (fun _ => 0))), (q_3, .inl (cA_4, 512, .inl (fun _ => 0)))] H := hP
  replace hD : va_D A [(h0, .inr (16, [.int 0, .ref q_1, .int 0, .int 0, .int 0, .int 0, .int 0, .int 0, .int 0, .int 0, .int 0, .int 0, .int 0, .int 0, .int 0, .int 0, .int 0, .null, .null, .int 0, .int 0, .null, .null, .null, .null, .int 0, .int 0, .int 0, .int 0, .null])), (q_1, .inl (cA_2, 65536, .inl (fun _ => 0))), (q_3, .inl (cA_4, 512, .inl (fun _ => 0)))] := hD
  replace hK : va_K (dC, dI) vcl [(cA_2, .byte), (cA_4, .int)] s := hK
  refine W.widen (k := 2) (n := 66048) (by decide) (by decide) ?_
  refine va_putF (D := (dC, dI)) (ci := 16) (v := .ref q_3) (ty := (.array .int)) (C := R_mPictures) (T := F_mPictures) (N := 30) hx hb hwd i_mPictures t_mPictures to_mPictures no_mPictures hown hK hP hD hS 0 rfl rfl 17 (by decide) (hwd _ wd_10_179) (fun _ h9 => h9) rfl hin rfl (by decide +kernel) rfl rfl (Nat.le_of_ble_eq_true rfl) d_mPictures_init_18 ?_
  clear hP hD hS
  intro H locs hP hD hS
  replace hP : va_P (dC, dI) vcl [(h0, .inr (16, [.int 0, .ref q_1, .int 0, .int 0, .int 0, .int 0, .int 0, .int 0, .int 0, .int 0, .int 0, .int 0, .int 0, .int 0, .int 0, .int 0, .int 0, .ref q_3, .null, .int 0, .int 0, .null, .null, .null, .null, .int 0, .int 0, .int 0, .int 0, .null])), (q_1, .inl (cA_2, 65536, .inl (fun _ => 0))), (q_3, .inl (cA_4, 512, .inl (fun _ => 0)))] H := hP
  replace hD : va_D A [(h0, .inr (16, [.int 0, .ref q_1, .int 0, .int 0, .int 0, .int 0, .int 0, .int 0, .int 0, .int 0, .int 0, .int 0, .int 0, .int 0, .int 0, .int 0, .int 0, .ref q_3, .null, .int 0, .int 0, .null, .null, .null, .null, .int 0, .int 0, .int 0, .int 0, .null])), (q_1, .inl (cA_2, 65536, .inl (fun _ => 0))), (q_3, .inl (cA_4, 512, .inl (fun _ => 0)))] := hD
  refine lv_aload_n hx hb d_mPictures_init_21 rfl (lv_at hl 0 rfl) ?_
  refine lv_sipush (v := 512) hx hb d_mPictures_init_22 (by decide) ?_
  refine va_newa (atype := .int) (N' := 512) (a0 := (512, .inl (fun _ => 0))) (ty := .int) (n := 512) hx hb (hwd _ wd_1_167) rfl hK hP hD hS hA (fun _ => rfl) (by decide) (by decide) (by decide) (Nat.le_of_ble_eq_true rfl) (Nat.le_of_ble_eq_true rfl) d_mPictures_init_25 ?_
  clear hP hD hS hK
  intro q_5 cA_6 H hK hP hD hS
  replace hP : va_P (dC, dI) vcl [(h0, .inr (16, [.int 0, .ref q_1, .int 0, .int 0, .int 0, .int 0, .int 0, .int 0, .int 0, .int 0, .int 0, .int 0, .int 0, .int 0, .int 0, .int 0, .int 0, .ref q_3, .null, .int 0, .int 0, .null, .null, .null, .null, .int 0, .int 0, .int 0, .int 0, .null])), (q_1, .inl (cA_2, 65536, .inl (fun _ => 0))), (q_3, .inl (cA_4, 512, .inl (fun _ => 0))), (q_5, .inl (cA_6, 512, .inl (fun _ => 0)))] H := hP
  replace hD : va_D A [(h0, .inr (16, [.int 0, .ref q_1, .int 0, .int 0, .int 0, .int 0, .int 0, .int 0, .int 0, .int 0, .int 0, .int 0, .int 0, .int 0, .int 0, .int 0, .int 0, .ref q_3, .null, .int 0, .int 0, .null, .null, .null, .null, .int 0, .int 0, .int 0, .int 0, .null])), (q_1, .inl (cA_2, 65536, .inl (fun _ => 0))), (q_3, .inl (cA_4, 512, .inl (fun _ => 0))), (q_5, .inl (cA_6, 512, .inl (fun _ => 0)))] := hD
  replace hK : va_K (dC, dI) vcl [(cA_2, .byte), (cA_4, .int), (cA_6, .int)] s := hK
  refine W.widen (k := 3) (n := 66560) (by decide) (by decide) ?_
  refine va_putF (D := (dC, dI)) (ci := 16) (v := .ref q_5) (ty := (.array .int)) (C := R_mPictures) (T := F_mPictures) (N := 30) hx hb hwd i_mPictures t_mPictures to_mPictures no_mPictures hown hK hP hD hS 0 rfl rfl 18 (by decide) (hwd _ wd_10_180) (fun _ h9 => h9) rfl hin rfl (by decide +kernel) rfl rfl (Nat.le_of_ble_eq_true rfl) d_mPictures_init_27 ?_
  clear hP hD hS
  intro H locs hP hD hS
  replace hP : va_P (dC, dI) vcl [(h0, .inr (16, [.int 0, .ref q_1, .int 0, .int 0, .int 0, .int 0, .int 0, .int 0, .int 0, .int 0, .int 0, .int 0, .int 0, .int 0, .int 0, .int 0, .int 0, .ref q_3, .ref q_5, .int 0, .int 0, .null, .null, .null, .null, .int 0, .int 0, .int 0, .int 0, .null])), (q_1, .inl (cA_2, 65536, .inl (fun _ => 0))), (q_3, .inl (cA_4, 512, .inl (fun _ => 0))), (q_5, .inl (cA_6, 512, .inl (fun _ => 0)))] H := hP
  replace hD : va_D A [(h0, .inr (16, [.int 0, .ref q_1, .int 0, .int 0, .int 0, .int 0, .int 0, .int 0, .int 0, .int 0, .int 0, .int 0, .int 0, .int 0, .int 0, .int 0, .int 0, .ref q_3, .ref q_5, .int 0, .int 0, .null, .null, .null, .null, .int 0, .int 0, .int 0, .int 0, .null])), (q_1, .inl (cA_2, 65536, .inl (fun _ => 0))), (q_3, .inl (cA_4, 512, .inl (fun _ => 0))), (q_5, .inl (cA_6, 512, .inl (fun _ => 0)))] := hD
  refine lv_aload_n hx hb d_mPictures_init_30 rfl (lv_at hl 0 rfl) ?_
  refine lv_sipush (v := 520) hx hb d_mPictures_init_31 (by decide) ?_
  refine va_newa (atype := .long) (N' := 520) (a0 := (520, .inr (.inl (fun _ => 0)))) (ty := .long) (n := 520) hx hb (hwd _ wd_2_5) rfl hK hP hD hS hA (fun _ => rfl) (by decide) (by decide) (by decide) (Nat.le_of_ble_eq_true rfl) (Nat.le_of_ble_eq_true rfl) d_mPictures_init_34 ?_
  clear hP hD hS hK
  intro q_7 cA_8 H hK hP hD hS
  replace hP : va_P (dC, dI) vcl [(h0, .inr (16, [.int 0, .ref q_1, .int 0, .int 0, .int 0, .int 0, .int 0, .int 0, .int 0, .int 0, .int 0, .int 0, .int 0, .int 0, .int 0, .int 0, .int 0, .ref q_3, .ref q_5, .int 0, .int 0, .null, .null, .null, .null, .int 0, .int 0, .int 0, .int 0, .null])), (q_1, .inl (cA_2, 65536, .inl (fun _ => 0))), (q_3, .inl (cA_4, 512, .inl (fun _ => 0))), (q_5, .inl (cA_6, 512, .inl (fun _ => 0))), (q_7, .inl (cA_8, 520, .inr (.inl (fun _ => 0))))] H := hP
  replace hD : va_D A [(h0, .inr (16, [.int 0, .ref q_1, .int 0, .int 0, .int 0, .int 0, .int 0, .int 0, .int 0, .int 0, .int 0, .int 0, .int 0, .int 0, .int 0, .int 0, .int 0, .ref q_3, .ref q_5, .int 0, .int 0, .null, .null, .null, .null, .int 0, .int 0, .int 0, .int 0, .null])), (q_1, .inl (cA_2, 65536, .inl (fun _ => 0))), (q_3, .inl (cA_4, 512, .inl (fun _ => 0))), (q_5, .inl (cA_6, 512, .inl (fun _ => 0))), (q_7, .inl (cA_8, 520, .inr (.inl (fun _ => 0))))] := hD
  replace hK : va_K (dC, dI) vcl [(cA_2, .byte), (cA_4, .int), (cA_6, .int), (cA_8, .long)] s := hK
  refine W.widen (k := 4) (n := 67080) (by decide) (by decide) ?_
  refine va_putF (D := (dC, dI)) (ci := 16) (v := .ref q_7) (ty := (.array .long)) (C := R_mPictures) (T := F_mPictures) (N := 30) hx hb hwd i_mPictures t_mPictures to_mPictures no_mPictures hown hK hP hD hS 0 rfl rfl 21 (by decide) (hwd _ wd_10_183) (fun _ h9 => h9) rfl hin rfl (by decide +kernel) rfl rfl (Nat.le_of_ble_eq_true rfl) d_mPictures_init_36 ?_
  clear hP hD hS
  intro H locs hP hD hS
  replace hP : va_P (dC, dI) vcl [(h0, .inr (16, [.int 0, .ref q_1, .int 0, .int 0, .int 0, .int 0, .int 0, .int 0, .int 0, .int 0, .int 0, .int 0, .int 0, .int 0, .int 0, .int 0, .int 0, .ref q_3, .ref q_5, .int 0, .int 0, .ref q_7, .null, .null, .null, .int 0, .int 0, .int 0, .int 0, .null])), (q_1, .inl (cA_2, 65536, .inl (fun _ => 0))), (q_3, .inl (cA_4, 512, .inl (fun _ => 0))), (q_5, .inl (cA_6, 512, .inl (fun _ => 0))), (q_7, .inl (cA_8, 520, .inr (.inl (fun _ => 0))))] H := hP
  replace hD : va_D A [(h0, .inr (16, [.int 0, .ref q_1, .int 0, .int 0, .int 0, .int 0, .int 0, .int 0, .int 0, .int 0, .int 0, .int 0, .int 0, .int 0, .int 0, .int 0, .int 0, .ref q_3, .ref q_5, .int 0, .int 0, .ref q_7, .null, .null, .null, .int 0, .int 0, .int 0, .int 0, .null])), (q_1, .inl (cA_2, 65536, .inl (fun _ => 0))), (q_3, .inl (cA_4, 512, .inl (fun _ => 0))), (q_5, .inl (cA_6, 512, .inl (fun _ => 0))), (q_7, .inl (cA_8, 520, .inr (.inl (fun _ => 0))))] := hD
  refine lv_aload_n hx hb d_mPictures_init_39 rfl (lv_at hl 0 rfl) ?_
  refine lv_bipush (v := 41) hx hb d_mPictures_init_40 (by decide) ?_
  refine va_newa (atype := .int) (N' := 41) (a0 := (41, .inl (fun _ => 0))) (ty := .int) (n := 41) hx hb (hwd _ wd_1_167) rfl hK hP hD hS hA (fun _ => rfl) (by decide) (by decide) (by decide) (Nat.le_of_ble_eq_true rfl) (Nat.le_of_ble_eq_true rfl) d_mPictures_init_42 ?_
  clear hP hD hS hK
  intro q_9 cA_10 H hK hP hD hS
  replace hP : va_P (dC, dI) vcl [(h0, .inr (16, [.int 0, .ref q_1, .int 0, .int 0, .int 0, .int 0, .int 0, .int 0, .int 0, .int 0, .int 0, .int 0, .int 0, .int 0, .int 0, .int 0, .int 0, .ref q_3, .ref q_5, .int 0, .int 0, .ref q_7, .null, .null, .null, .int 0, .int 0, .int 0, .int 0, .null])), (q_1, .inl (cA_2, 65536, .inl (fun _ => 0))), (q_3, .inl (cA_4, 512, .inl (fun _ => 0))), (q_5, .inl (cA_6, 512, .inl (fun _ => 0))), (q_7, .inl (cA_8, 520, .inr (.inl (fun _ => 0)))), (q_9, .inl (cA_10, 41, .inl (fun _ => 0)))] H := hP
  replace hD : va_D A [(h0, .inr (16, [.int 0, .ref q_1, .int 0, .int 0, .int 0, .int 0, .int 0, .int 0, .int 0, .int 0, .int 0, .int 0, .int 0, .int 0, .int 0, .int 0, .int 0, .ref q_3, .ref q_5, .int 0, .int 0, .ref q_7, .null, .null, .null, .int 0, .int 0, .int 0, .int 0, .null])), (q_1, .inl (cA_2, 65536, .inl (fun _ => 0))), (q_3, .inl (cA_4, 512, .inl (fun _ => 0))), (q_5, .inl (cA_6, 512, .inl (fun _ => 0))), (q_7, .inl (cA_8, 520, .inr (.inl (fun _ => 0)))), (q_9, .inl (cA_10, 41, .inl (fun _ => 0)))] := hD
  replace hK : va_K (dC, dI) vcl [(cA_2, .byte), (cA_4, .int), (cA_6, .int), (cA_8, .long), (cA_10, .int)] s := hK
  refine W.widen (k := 5) (n := 67121) (by decide) (by decide) ?_
  refine va_putF (D := (dC, dI)) (ci := 16) (v := .ref q_9) (ty := (.array .int)) (C := R_mPictures) (T := F_mPictures) (N := 30) hx hb hwd i_mPictures t_mPictures to_mPictures no_mPictures hown hK hP hD hS 0 rfl rfl 22 (by decide) (hwd _ wd_10_184) (fun _ h9 => h9) rfl hin rfl (by decide +kernel) rfl rfl (Nat.le_of_ble_eq_true rfl) d_mPictures_init_44 ?_
  clear hP hD hS
  intro H locs hP hD hS
  replace hP : va_P (dC, dI) vcl [(h0, .inr (16, [.int 0, .ref q_1, .int 0, .int 0, .int 0, .int 0, .int 0, .int 0, .int 0, .int 0, .int 0, .int 0, .int 0, .int 0, .int 0, .int 0, .int 0, .ref q_3, .ref q_5, .int 0, .int 0, .ref q_7, .ref q_9, .null, .null, .int 0, .int 0, .int 0, .int 0, .null])), (q_1, .inl (cA_2, 65536, .inl (fun _ => 0))), (q_3, .inl (cA_4, 512, .inl (fun _ => 0))), (q_5, .inl (cA_6, 512, .inl (fun _ => 0))), (q_7, .inl (cA_8, 520, .inr (.inl (fun _ => 0)))), (q_9, .inl (cA_10, 41, .inl (fun _ => 0)))] H := hP
  replace hD : va_D A [(h0, .inr (16, [.int 0, .ref q_1, .int 0, .int 0, .int 0, .int 0, .int 0, .int 0, .int 0, .int 0, .int 0, .int 0, .int 0, .int 0, .int 0, .int 0, .int 0, .ref q_3, .ref q_5, .int 0, .int 0, .ref q_7, .ref q_9, .null, .null, .int 0, .int 0, .int 0, .int 0, .null])), (q_1, .inl (cA_2, 65536, .inl (fun _ => 0))), (q_3, .inl (cA_4, 512, .inl (fun _ => 0))), (q_5, .inl (cA_6, 512, .inl (fun _ => 0))), (q_7, .inl (cA_8, 520, .inr (.inl (fun _ => 0)))), (q_9, .inl (cA_10, 41, .inl (fun _ => 0)))] := hD
  refine lv_aload_n hx hb d_mPictures_init_47 rfl (lv_at hl 0 rfl) ?_
  refine lv_sipush (v := 8192) hx hb d_mPictures_init_48 (by decide) ?_
  refine va_newa (atype := .int) (N' := 8192) (a0 := (8192, .inl (fun _ => 0))) (ty := .int) (n := 8192) hx hb (hwd _ wd_1_167) rfl hK hP hD hS hA (fun _ => rfl) (by decide) (by decide) (by decide) (Nat.le_of_ble_eq_true rfl) (Nat.le_of_ble_eq_true rfl) d_mPictures_init_51 ?_
  clear hP hD hS hK
  intro q_11 cA_12 H hK hP hD hS
  replace hP : va_P (dC, dI) vcl [(h0, .inr (16, [.int 0, .ref q_1, .int 0, .int 0, .int 0, .int 0, .int 0, .int 0, .int 0, .int 0, .int 0, .int 0, .int 0, .int 0, .int 0, .int 0, .int 0, .ref q_3, .ref q_5, .int 0, .int 0, .ref q_7, .ref q_9, .null, .null, .int 0, .int 0, .int 0, .int 0, .null])), (q_1, .inl (cA_2, 65536, .inl (fun _ => 0))), (q_3, .inl (cA_4, 512, .inl (fun _ => 0))), (q_5, .inl (cA_6, 512, .inl (fun _ => 0))), (q_7, .inl (cA_8, 520, .inr (.inl (fun _ => 0)))), (q_9, .inl (cA_10, 41, .inl (fun _ => 0))), (q_11, .inl (cA_12, 8192, .inl (fun _ => 0)))] H := hP
  replace hD : va_D A [(h0, .inr (16, [.int 0, .ref q_1, .int 0, .int 0, .int 0, .int 0, .int 0, .int 0, .int 0, .int 0, .int 0, .int 0, .int 0, .int 0, .int 0, .int 0, .int 0, .ref q_3, .ref q_5, .int 0, .int 0, .ref q_7, .ref q_9, .null, .null, .int 0, .int 0, .int 0, .int 0, .null])), (q_1, .inl (cA_2, 65536, .inl (fun _ => 0))), (q_3, .inl (cA_4, 512, .inl (fun _ => 0))), (q_5, .inl (cA_6, 512, .inl (fun _ => 0))), (q_7, .inl (cA_8, 520, .inr (.inl (fun _ => 0)))), (q_9, .inl (cA_10, 41, .inl (fun _ => 0))), (q_11, .inl (cA_12, 8192, .inl (fun _ => 0)))] := hD
  replace hK : va_K (dC, dI) vcl [(cA_2, .byte), (cA_4, .int), (cA_6, .int), (cA_8, .long), (cA_10, .int), (cA_12, .int)] s := hK
  refine W.widen (k := 6) (n := 75313) (by decide) (by decide) ?_
  refine va_putF (D := (dC, dI)) (ci := 16) (v := .ref q_11) (ty := (.array .int)) (C := R_mPictures) (T := F_mPictures) (N := 30) hx hb hwd i_mPictures t_mPictures to_mPictures no_mPictures hown hK hP hD hS 0 rfl rfl 23 (by decide) (hwd _ wd_10_185) (fun _ h9 => h9) rfl hin rfl (by decide +kernel) rfl rfl (Nat.le_of_ble_eq_true rfl) d_mPictures_init_53 ?_
  clear hP hD hS
  intro H locs hP hD hS
  replace hP : va_P (dC, dI) vcl [(h0, .inr (16, [.int 0, .ref q_1, .int 0, .int 0, .int 0, .int 0, .int 0, .int 0, .int 0, .int 0, .int 0, .int 0, .int 0, .int 0, .int 0, .int 0, .int 0, .ref q_3, .ref q_5, .int 0, .int 0, .ref q_7, .ref q_9, .ref q_11, .null, .int 0, .int 0, .int 0, .int 0, .null])), (q_1, .inl (cA_2, 65536, .inl (fun _ => 0))), (q_3, .inl (cA_4, 512, .inl (fun _ => 0))), (q_5, .inl (cA_6, 512, .inl (fun _ => 0))), (q_7, .inl (cA_8, 520, .inr (.inl (fun _ => 0)))), (q_9, .inl (cA_10, 41, .inl (fun _ => 0))), (q_11, .inl (cA_12, 8192, .inl (fun _ => 0)))] H := hP
  replace hD : va_D A [(h0, .inr (16, [.int 0, .ref q_1, .int 0, .int 0, .int 0, .int 0, .int 0, .int 0, .int 0, .int 0, .int 0, .int 0, .int 0, .int 0, .int 0, .int 0, .int 0, .ref q_3, .ref q_5, .int 0, .int 0, .ref q_7, .ref q_9, .ref q_11, .null, .int 0, .int 0, .int 0, .int 0, .null])), (q_1, .inl (cA_2, 65536, .inl (fun _ => 0))), (q_3, .inl (cA_4, 512, .inl (fun _ => 0))), (q_5, .inl (cA_6, 512, .inl (fun _ => 0))), (q_7, .inl (cA_8, 520, .inr (.inl (fun _ => 0)))), (q_9, .inl (cA_10, 41, .inl (fun _ => 0))), (q_11, .inl (cA_12, 8192, .inl (fun _ => 0)))] := hD
  refine lv_aload_n hx hb d_mPictures_init_56 rfl (lv_at hl 0 rfl) ?_
  refine lv_sipush (v := 8192) hx hb d_mPictures_init_57 (by decide) ?_
  refine va_newa (atype := .int) (N' := 8192) (a0 := (8192, .inl (fun _ => 0))) (ty := .int) (n := 8192) hx hb (hwd _ wd_1_167) rfl hK hP hD hS hA (fun _ => rfl) (by decide) (by decide) (by decide) (Nat.le_of_ble_eq_true rfl) (Nat.le_of_ble_eq_true rfl) d_mPictures_init_60 ?_
  clear hP hD hS hK
  intro q_13 cA_14 H hK hP hD hS
  replace hP : va_P (dC, dI) vcl [(h0, .inr (16, [.int 0, .ref q_1, .int 0, .int 0, .int 0, .int 0, .int 0, .int 0, .int 0, .int 0, .int 0, .int 0, .int 0, .int 0, .int 0, .int 0, .int 0, .ref q_3, .ref q_5, .int 0, .int 0, .ref q_7, .ref q_9, .ref q_11, .null, .int 0, .int 0, .int 0, .int 0, .null])), (q_1, .inl (cA_2, 65536, .inl (fun _ => 0))), (q_3, .inl (cA_4, 512, .inl (fun _ => 0))), (q_5, .inl (cA_6, 512, .inl (fun _ => 0))), (q_7, .inl (cA_8, 520, .inr (.inl (fun _ => 0)))), (q_9, .inl (cA_10, 41, .inl (fun _ => 0))), (q_11, .inl (cA_12, 8192, .inl (fun _ => 0))), (q_13, .inl (cA_14, 8192, .inl (fun _ => 0)))] H := hP
  replace hD : va_D A [(h0, .inr (16, [.int 0, .ref q_1, .int 0, .int 0, .int 0, .int 0, .int 0, .int 0, .int 0, .int 0, .int 0, .int 0, .int 0, .int 0, .int 0, .int 0, .int 0, .ref q_3, .ref q_5, .int 0, .int 0, .ref q_7, .ref q_9, .ref q_11, .null, .int 0, .int 0, .int 0, .int 0, .null])), (q_1, .inl (cA_2, 65536, .inl (fun _ => 0))), (q_3, .inl (cA_4, 512, .inl (fun _ => 0))), (q_5, .inl (cA_6, 512, .inl (fun _ => 0))), (q_7, .inl (cA_8, 520, .inr (.inl (fun _ => 0)))), (q_9, .inl (cA_10, 41, .inl (fun _ => 0))), (q_11, .inl (cA_12, 8192, .inl (fun _ => 0))), (q_13, .inl (cA_14, 8192, .inl (fun _ => 0)))] := hD
  replace hK : va_K (dC, dI) vcl [(cA_2, .byte), (cA_4, .int), (cA_6, .int), (cA_8, .long), (cA_10, .int), (cA_12, .int), (cA_14, .int)] s := hK
  refine W.widen (k := 7) (n := 83505) (by decide) (by decide) ?_
  refine va_putF (D := (dC, dI)) (ci := 16) (v := .ref q_13) (ty := (.array .int)) (C := R_mPictures) (T := F_mPictures) (N := 30) hx hb hwd i_mPictures t_mPictures to_mPictures no_mPictures hown hK hP hD hS 0 rfl rfl 24 (by decide) (hwd _ wd_10_186) (fun _ h9 => h9) rfl hin rfl (by decide +kernel) rfl rfl (Nat.le_of_ble_eq_true rfl) d_mPictures_init_62 ?_
  clear hP hD hS
  intro H locs hP hD hS
  replace hP : va_P (dC, dI) vcl [(h0, .inr (16, [.int 0, .ref q_1, .int 0, .int 0, .int 0, .int 0, .int 0, .int 0, .int 0, .int 0, .int 0, .int 0, .int 0, .int 0, .int 0, .int 0, .int 0, .ref q_3, .ref q_5, .int 0, .int 0, .ref q_7, .ref q_9, .ref q_11, .ref q_13, .int 0, .int 0, .int 0, .int 0, .null])), (q_1, .inl (cA_2, 65536, .inl (fun _ => 0))), (q_3, .inl (cA_4, 512, .inl (fun _ => 0))), (q_5, .inl (cA_6, 512, .inl (fun _ => 0))), (q_7, .inl (cA_8, 520, .inr (.inl (fun _ => 0)))), (q_9, .inl (cA_10, 41, .inl (fun _ => 0))), (q_11, .inl (cA_12, 8192, .inl (fun _ => 0))), (q_13, .inl (cA_14, 8192, .inl (fun _ => 0)))] H := hP
  replace hD : va_D A [(h0, .inr (16, [.int 0, .ref q_1, .int 0, .int 0, .int 0, .int 0, .int 0, .int 0, .int 0, .int 0, .int 0, .int 0, .int 0, .int 0, .int 0, .int 0, .int 0, .ref q_3, .ref q_5, .int 0, .int 0, .ref q_7, .ref q_9, .ref q_11, .ref q_13, .int 0, .int 0, .int 0, .int 0, .null])), (q_1, .inl (cA_2, 65536, .inl (fun _ => 0))), (q_3, .inl (cA_4, 512, .inl (fun _ => 0))), (q_5, .inl (cA_6, 512, .inl (fun _ => 0))), (q_7, .inl (cA_8, 520, .inr (.inl (fun _ => 0)))), (q_9, .inl (cA_10, 41, .inl (fun _ => 0))), (q_11, .inl (cA_12, 8192, .inl (fun _ => 0))), (q_13, .inl (cA_14, 8192, .inl (fun _ => 0)))] := hD
  refine lv_aload_n hx hb d_mPictures_init_65 rfl (lv_at hl 0 rfl) ?_
  refine lv_bipush (v := 11) hx hb d_mPictures_init_66 (by decide) ?_
  refine va_newa (atype := .int) (N' := 11) (a0 := (11, .inl (fun _ => 0))) (ty := .int) (n := 11) hx hb (hwd _ wd_1_167) rfl hK hP hD hS hA (fun _ => rfl) (by decide) (by decide) (by decide) (Nat.le_of_ble_eq_true rfl) (Nat.le_of_ble_eq_true rfl) d_mPictures_init_68 ?_
  clear hP hD hS hK
  intro q_15 cA_16 H hK hP hD hS
  replace hP : va_P (dC, dI) vcl [(h0, .inr (16, [.int 0, .ref q_1, .int 0, .int 0, .int 0, .int 0, .int 0, .int 0, .int 0, .int 0, .int 0, .int 0, .int 0, .int 0, .int 0, .int 0, .int 0, .ref q_3, .ref q_5, .int 0, .int 0, .ref q_7, .ref q_9, .ref q_11, .ref q_13, .int 0, .int 0, .int 0, .int 0, .null])), (q_1, .inl (cA_2, 65536, .inl (fun _ => 0))), (q_3, .inl (cA_4, 512, .inl (fun _ => 0))), (q_5, .inl (cA_6, 512, .inl (fun _ => 0))), (q_7, .inl (cA_8, 520, .inr (.inl (fun _ => 0)))), (q_9, .inl (cA_10, 41, .inl (fun _ => 0))), (q_11, .inl (cA_12, 8192, .inl (fun _ => 0))), (q_13, .inl (cA_14, 8192, .inl (fun _ => 0))), (q_15, .inl (cA_16, 11, .inl (fun _ => 0)))] H := hP
  replace hD : va_D A [(h0, .inr (16, [.int 0, .ref q_1, .int 0, .int 0, .int 0, .int 0, .int 0, .int 0, .int 0, .int 0, .int 0, .int 0, .int 0, .int 0, .int 0, .int 0, .int 0, .ref q_3, .ref q_5, .int 0, .int 0, .ref q_7, .ref q_9, .ref q_11, .ref q_13, .int 0, .int 0, .int 0, .int 0, .null])), (q_1, .inl (cA_2, 65536, .inl (fun _ => 0))), (q_3, .inl (cA_4, 512, .inl (fun _ => 0))), (q_5, .inl (cA_6, 512, .inl (fun _ => 0))), (q_7, .inl (cA_8, 520, .inr (.inl (fun _ => 0)))), (q_9, .inl (cA_10, 41, .inl (fun _ => 0))), (q_11, .inl (cA_12, 8192, .inl (fun _ => 0))), (q_13, .inl (cA_14, 8192, .inl (fun _ => 0))), (q_15, .inl (cA_16, 11, .inl (fun _ => 0)))] := hD
  replace hK : va_K (dC, dI) vcl [(cA_2, .byte), (cA_4, .int), (cA_6, .int), (cA_8, .long), (cA_10, .int), (cA_12, .int), (cA_14, .int), (cA_16, .int)] s := hK
  refine W.widen (k := 8) (n := 83516) (by decide) (by decide) ?_
  refine va_putF (D := (dC, dI)) (ci := 16) (v := .ref q_15) (ty := (.array .int)) (C := R_mPictures) (T := F_mPictures) (N := 30) hx hb hwd i_mPictures t_mPictures to_mPictures no_mPictures hown hK hP hD hS 0 rfl rfl 29 (by decide) (hwd _ wd_10_191) (fun _ h9 => h9) rfl hin rfl (by decide +kernel) rfl rfl (Nat.le_of_ble_eq_true rfl) d_mPictures_init_70 ?_
  clear hP hD hS
  intro H locs hP hD hS
  replace hP : va_P (dC, dI) vcl [(h0, .inr (16, [.int 0, .ref q_1, .int 0, .int 0, .int 0, .int 0, .int 0, .int 0, .int 0, .int 0, .int 0, .int 0, .int 0, .int 0, .int 0, .int 0, .int 0, .ref q_3, .ref q_5, .int 0, .int 0, .ref q_7, .ref q_9, .ref q_11, .ref q_13, .int 0, .int 0, .int 0, .int 0, .ref q_15])), (q_1, .inl (cA_2, 65536, .inl (fun _ => 0))), (q_3, .inl (cA_4, 512, .inl (fun _ => 0))), (q_5, .inl (cA_6, 512, .inl (fun _ => 0))), (q_7, .inl (cA_8, 520, .inr (.inl (fun _ => 0)))), (q_9, .inl (cA_10, 41, .inl (fun _ => 0))), (q_11, .inl (cA_12, 8192, .inl (fun _ => 0))), (q_13, .inl (cA_14, 8192, .inl (fun _ => 0))), (q_15, .inl (cA_16, 11, .inl (fun _ => 0)))] H := hP
  replace hD : va_D A [(h0, .inr (16, [.int 0, .ref q_1, .int 0, .int 0, .int 0, .int 0, .int 0, .int 0, .int 0, .int 0, .int 0, .int 0, .int 0, .int 0, .int 0, .int 0, .int 0, .ref q_3, .ref q_5, .int 0, .int 0, .ref q_7, .ref q_9, .ref q_11, .ref q_13, .int 0, .int 0, .int 0, .int 0, .ref q_15])), (q_1, .inl (cA_2, 65536, .inl (fun _ => 0))), (q_3, .inl (cA_4, 512, .inl (fun _ => 0))), (q_5, .inl (cA_6, 512, .inl (fun _ => 0))), (q_7, .inl (cA_8, 520, .inr (.inl (fun _ => 0)))), (q_9, .inl (cA_10, 41, .inl (fun _ => 0))), (q_11, .inl (cA_12, 8192, .inl (fun _ => 0))), (q_13, .inl (cA_14, 8192, .inl (fun _ => 0))), (q_15, .inl (cA_16, 11, .inl (fun _ => 0)))] := hD
  have hP9 := hP.sub (ws' := [(h0, .inr (16, [.int 0, .ref q_1, .int 0, .int 0, .int 0, .int 0, .int 0, .int 0, .int 0, .int 0, .int 0, .int 0, .int 0, .int 0, .int 0, .int 0, .int 0, .ref q_3, .ref q_5, .int 0, .int 0, .ref q_7, .ref q_9, .ref q_11, .ref q_13, .int 0, .int 0, .int 0, .int 0, .ref q_15])), (q_1, .inl (cA_2, 65536, .inl (fun _ => 0))), (q_3, .inl (cA_4, 512, .inl (fun _ => 0))), (q_5, .inl (cA_6, 512, .inl (fun _ => 0))), (q_7, .inl (cA_8, 520, .inr (.inl (fun _ => 0)))), (q_9, .inl (cA_10, 41, .inl (fun _ => 0))), (q_11, .inl (cA_12, 8192, .inl (fun _ => 0))), (q_13, .inl (cA_14, 8192, .inl (fun _ => 0))), (q_15, .inl (cA_16, 11, .inl (fun _ => 0)))]) [0, 1, 2, 3, 4, 5, 6, 7, 8] rfl
  have hD9 := hD.sub (ws' := [(h0, .inr (16, [.int 0, .ref q_1, .int 0, .int 0, .int 0, .int 0, .int 0, .int 0, .int 0, .int 0, .int 0, .int 0, .int 0, .int 0, .int 0, .int 0, .int 0, .ref q_3, .ref q_5, .int 0, .int 0, .ref q_7, .ref q_9, .ref q_11, .ref q_13, .int 0, .int 0, .int 0, .int 0, .ref q_15])), (q_1, .inl (cA_2, 65536, .inl (fun _ => 0))), (q_3, .inl (cA_4, 512, .inl (fun _ => 0))), (q_5, .inl (cA_6, 512, .inl (fun _ => 0))), (q_7, .inl (cA_8, 520, .inr (.inl (fun _ => 0)))), (q_9, .inl (cA_10, 41, .inl (fun _ => 0))), (q_11, .inl (cA_12, 8192, .inl (fun _ => 0))), (q_13, .inl (cA_14, 8192, .inl (fun _ => 0))), (q_15, .inl (cA_16, 11, .inl (fun _ => 0)))]) [0, 1, 2, 3, 4, 5, 6, 7, 8] (by decide) rfl
  have hK9 := hK.sub (tys' := [(cA_2, .byte), (cA_4, .int), (cA_6, .int), (cA_8, .long), (cA_10, .int), (cA_12, .int), (cA_14, .int), (cA_16, .int)]) [0, 1, 2, 3, 4, 5, 6, 7] rfl
  exact W.vret hx hb hr (fun t ht hW => ⟨⟨(), rfl, (trivial), q_1, q_3, q_5, q_7, q_9, q_11, q_13, q_15, cA_2, cA_4, cA_6, cA_8, cA_10, cA_12, cA_14, cA_16, by rw [ht]; exact hP9, va_K.moved hW.alike hK9, hD9⟩, hS.F ht⟩) hS.2.2 d_mPictures_init_73

abbrev at_c_Pictures_one (dC : Nat → ClassId) (dI : Nat → Nat → Nat) (h0 : Nat) (f_thrown : Int32) (f_file : Nat) (f_making : Int32) (f_open : Int32) (f_order : Int32) (f_made : Int32) (f_link : Int32) (f_width : Int32) (f_height : Int32) (f_rows : Int32) (f_across : Int32) (f_down : Int32) (f_strips : Int32) (f_done : Int32) (f_from : Int32) (f_length : Int32) (f_places : Nat) (f_lengths : Nat) (f_wasOrder : Int32) (f_pages : Int32) (f_numbers : Nat) (f_firstStrip : Nat) (f_stripPlace : Nat) (f_stripLength : Nat) (f_fault : Int32) (f_faultPage : Int32) (f_faultTag : Int32) (f_faultStrip : Int32) (f_entry : Nat) (n : Nat) (c1 : ClassId) (ff : Nat → Int32) (v : Int32) (A : Nat → Prop) (u : Unit) (t : State) : Prop := match u with
  | _ => va_P (dC, dI) vcl [(h0, .inr (16, [.int f_thrown, .ref f_file, .int (nI (n + 1)), .int f_making, .int f_open, .int f_order, .int f_made, .int f_link, .int f_width, .int f_height, .int f_rows, .int f_across, .int f_down, .int f_strips, .int f_done, .int f_from, .int f_length, .ref f_places, .ref f_lengths, .int f_wasOrder, .int f_pages, .ref f_numbers, .ref f_firstStrip, .ref f_stripPlace, .ref f_stripLength, .int f_fault, .int f_faultPage, .int f_faultTag, .int f_faultStrip, .ref f_entry])), (f_file, .inl (c1, 65536, .inl (upd ff n v.toInt8.toInt32)))] t.heap ∧ va_K (dC, dI) vcl [(c1, .byte)] t ∧ va_D A [(h0, .inr (16, [.int f_thrown, .ref f_file, .int (nI (n + 1)), .int f_making, .int f_open, .int f_order, .int f_made, .int f_link, .int f_width, .int f_height, .int f_rows, .int f_across, .int f_down, .int f_strips, .int f_done, .int f_from, .int f_length, .ref f_places, .ref f_lengths, .int f_wasOrder, .int f_pages, .ref f_numbers, .ref f_firstStrip, .ref f_stripPlace, .ref f_stripLength, .int f_fault, .int f_faultPage, .int f_faultTag, .int f_faultStrip, .ref f_entry])), (f_file, .inl (c1, 65536, .inl (upd ff n v.toInt8.toInt32)))]
abbrev po_c_Pictures_one (h0 : Nat) (f_thrown : Int32) (f_file : Nat) (f_making : Int32) (f_open : Int32) (f_order : Int32) (f_made : Int32) (f_link : Int32) (f_width : Int32) (f_height : Int32) (f_rows : Int32) (f_across : Int32) (f_down : Int32) (f_strips : Int32) (f_done : Int32) (f_from : Int32) (f_length : Int32) (f_places : Nat) (f_lengths : Nat) (f_wasOrder : Int32) (f_pages : Int32) (f_numbers : Nat) (f_firstStrip : Nat) (f_stripPlace : Nat) (f_stripLength : Nat) (f_fault : Int32) (f_faultPage : Int32) (f_faultTag : Int32) (f_faultStrip : Int32) (f_entry : Nat) (n : Nat) (c1 : ClassId) (ff : Nat → Int32) (v : Int32) (u : Unit) : Prop := match u with
  | _ => True
abbrev q_c_Pictures_one (dC : Nat → ClassId) (dI : Nat → Nat → Nat) (h0 : Nat) (f_thrown : Int32) (f_file : Nat) (f_making : Int32) (f_open : Int32) (f_order : Int32) (f_made : Int32) (f_link : Int32) (f_width : Int32) (f_height : Int32) (f_rows : Int32) (f_across : Int32) (f_down : Int32) (f_strips : Int32) (f_done : Int32) (f_from : Int32) (f_length : Int32) (f_places : Nat) (f_lengths : Nat) (f_wasOrder : Int32) (f_pages : Int32) (f_numbers : Nat) (f_firstStrip : Nat) (f_stripPlace : Nat) (f_stripLength : Nat) (f_fault : Int32) (f_faultPage : Int32) (f_faultTag : Int32) (f_faultStrip : Int32) (f_entry : Nat) (n : Nat) (c1 : ClassId) (ff : Nat → Int32) (v : Int32) (A : Nat → Prop) : Array Value → State → Outcome → State → Prop := va_Qv (po_c_Pictures_one h0 f_thrown f_file f_making f_open f_order f_made f_link f_width f_height f_rows f_across f_down f_strips f_done f_from f_length f_places f_lengths f_wasOrder f_pages f_numbers f_firstStrip f_stripPlace f_stripLength f_fault f_faultPage f_faultTag f_faultStrip f_entry n c1 ff v) (at_c_Pictures_one dC dI h0 f_thrown f_file f_making f_open f_order f_made f_link f_width f_height f_rows f_across f_down f_strips f_done f_from f_length f_places f_lengths f_wasOrder f_pages f_numbers f_firstStrip f_stripPlace f_stripLength f_fault f_faultPage f_faultTag f_faultStrip f_entry n c1 ff v A) A
abbrev rm_c_Pictures_one : Room := { frames := 0, cells := 0, slots := 0, locals := 0 }
set_option maxHeartbeats 4000000 in
set_option maxRecDepth 100000 in
theorem c_Pictures_one (l : Launch) (dC : Nat → ClassId) (dI : Nat → Nat → Nat) (tt : Nat → Nat) (h0 : Nat) (f_thrown : Int32) (f_file : Nat) (f_making : Int32) (f_open : Int32) (f_order : Int32) (f_made : Int32) (f_link : Int32) (f_width : Int32) (f_height : Int32) (f_rows : Int32) (f_across : Int32) (f_down : Int32) (f_strips : Int32) (f_done : Int32) (f_from : Int32) (f_length : Int32) (f_places : Nat) (f_lengths : Nat) (f_wasOrder : Int32) (f_pages : Int32) (f_numbers : Nat) (f_firstStrip : Nat) (f_stripPlace : Nat) (f_stripLength : Nat) (f_fault : Int32) (f_faultPage : Int32) (f_faultTag : Int32) (f_faultStrip : Int32) (f_entry : Nat) (n : Nat) (c1 : ClassId) (ff : Nat → Int32) (v : Int32) (sz : Nat) (hn : n < 65536) : Met l y_mPictures_one w_mPictures_one rm_c_Pictures_one (va_Pc [.ref h0, .int v] (fun U => U.heap.size = sz ∧ va_P (dC, dI) vcl [(h0, .inr (16, [.int f_thrown, .ref f_file, .int (nI n), .int f_making, .int f_open, .int f_order, .int f_made, .int f_link, .int f_width, .int f_height, .int f_rows, .int f_across, .int f_down, .int f_strips, .int f_done, .int f_from, .int f_length, .ref f_places, .ref f_lengths, .int f_wasOrder, .int f_pages, .ref f_numbers, .ref f_firstStrip, .ref f_stripPlace, .ref f_stripLength, .int f_fault, .int f_faultPage, .int f_faultTag, .int f_faultStrip, .ref f_entry])), (f_file, .inl (c1, 65536, .inl ff))] U.heap ∧ va_K (dC, dI) vcl [(c1, .byte)] U ∧ va_D (fun _ => True) [(h0, .inr (16, [.int f_thrown, .ref f_file, .int (nI n), .int f_making, .int f_open, .int f_order, .int f_made, .int f_link, .int f_width, .int f_height, .int f_rows, .int f_across, .int f_down, .int f_strips, .int f_done, .int f_from, .int f_length, .ref f_places, .ref f_lengths, .int f_wasOrder, .int f_pages, .ref f_numbers, .ref f_firstStrip, .ref f_stripPlace, .ref f_stripLength, .int f_fault, .int f_faultPage, .int f_faultTag, .int f_faultStrip, .ref f_entry])), (f_file, .inl (c1, 65536, .inl ff))] ∧ SF tt (va_A [(h0, .inr (16, [.int f_thrown, .ref f_file, .int (nI n), .int f_making, .int f_open, .int f_order, .int f_made, .int f_link, .int f_width, .int f_height, .int f_rows, .int f_across, .int f_down, .int f_strips, .int f_done, .int f_from, .int f_length, .ref f_places, .ref f_lengths, .int f_wasOrder, .int f_pages, .ref f_numbers, .ref f_firstStrip, .ref f_stripPlace, .ref f_stripLength, .int f_fault, .int f_faultPage, .int f_faultTag, .int f_faultStrip, .ref f_entry])), (f_file, .inl (c1, 65536, .inl ff))] sz) U U.heap)) (q_c_Pictures_one dC dI h0 f_thrown f_file f_making f_open f_order f_made f_link f_width f_height f_rows f_across f_down f_strips f_done f_from f_length f_places f_lengths f_wasOrder f_pages f_numbers f_firstStrip f_stripPlace f_stripLength f_fault f_faultPage f_faultTag f_faultStrip f_entry n c1 ff v (va_A [(h0, .inr (16, [.int f_thrown, .ref f_file, .int (nI n), .int f_making, .int f_open, .int f_order, .int f_made, .int f_link, .int f_width, .int f_height, .int f_rows, .int f_across, .int f_down, .int f_strips, .int f_done, .int f_from, .int f_length, .ref f_places, .ref f_lengths, .int f_wasOrder, .int f_pages, .ref f_numbers, .ref f_firstStrip, .ref f_stripPlace, .ref f_stripLength, .int f_fault, .int f_faultPage, .int f_faultTag, .int f_faultStrip, .ref f_entry])), (f_file, .inl (c1, 65536, .inl ff))] sz)) 0 0 (va_A [(h0, .inr (16, [.int f_thrown, .ref f_file, .int (nI n), .int f_making, .int f_open, .int f_order, .int f_made, .int f_link, .int f_width, .int f_height, .int f_rows, .int f_across, .int f_down, .int f_strips, .int f_done, .int f_from, .int f_length, .ref f_places, .ref f_lengths, .int f_wasOrder, .int f_pages, .ref f_numbers, .ref f_firstStrip, .ref f_stripPlace, .ref f_stripLength, .int f_fault, .int f_faultPage, .int f_faultTag, .int f_faultStrip, .ref f_entry])), (f_file, .inl (c1, 65536, .inl ff))] sz) := by
  refine Met.ofW (cc := b_mPictures_one) (maxL := 2) (ret := none) (by decide) rfl ?_
  intro p e s m args below meth c s₁ B hml hv
  obtain ⟨rfl, hsz, hP, hK, hD0, hF⟩ := hv
  have hx := B.exec
  have hb := B.bytes
  have hr := B.returns
  have hwd : ∀ w ∈ gT, w.before _ s = true := fun w h => atoms_spec (ws := w_mPictures_one) B.pre w (List.mem_cons_of_mem _ h)
  have hown : s.vm.findClass R_mPictures = some m.cls := findClass_of_methodNamed B.named
  have hlocks := B.notSynchronized
  subst hsz
  have hD := hD0.self (sz := s.heap.size)
  generalize hAe : va_A [(h0, .inr (16, [.int f_thrown, .ref f_file, .int (nI n), .int f_making, .int f_open, .int f_order, .int f_made, .int f_link, .int f_width, .int f_height, .int f_rows, .int f_across, .int f_down, .int f_strips, .int f_done, .int f_from, .int f_length, .ref f_places, .ref f_lengths, .int f_wasOrder, .int f_pages, .ref f_numbers, .ref f_firstStrip, .ref f_stripPlace, .ref f_stripLength, .int f_fault, .int f_faultPage, .int f_faultTag, .int f_faultStrip, .ref f_entry])), (f_file, .inl (c1, 65536, .inl ff))] s.heap.size = A at hD hF ⊢
  have hA : ∀ q : Nat, s.heap.size ≤ q → A q := fun q h => by rw [← hAe]; exact Or.inr h
  have hS : va_S A s.heap s.heap [] := va_S.rf
  have hP : va_P (dC, dI) vcl [(h0, .inr (16, [.int f_thrown, .ref f_file, .int (nI n), .int f_making, .int f_open, .int f_order, .int f_made, .int f_link, .int f_width, .int f_height, .int f_rows, .int f_across, .int f_down, .int f_strips, .int f_done, .int f_from, .int f_length, .ref f_places, .ref f_lengths, .int f_wasOrder, .int f_pages, .ref f_numbers, .ref f_firstStrip, .ref f_stripPlace, .ref f_stripLength, .int f_fault, .int f_faultPage, .int f_faultTag, .int f_faultStrip, .ref f_entry])), (f_file, .inl (c1, 65536, .inl ff))] s.heap := hP
  have hl := lv_entry ([.ref h0, .int v]) (n := 2) (Nat.le_of_ble_eq_true rfl)
  rw [lg_entry_eq]
  generalize (lg_sl ([.ref h0, .int v]) ++ List.replicate (2 - (lg_sl ([.ref h0, .int v])).length) Slot.unset).toArray = ls at hl ⊢
  have hl : lv_has ls 2 [(0, .ref h0), (1, .int v)] := hl
  refine lv_aload_n hx hb d_mPictures_one_0 rfl (lv_at hl 0 rfl) ?_
  refine va_get (D := (dC, dI)) (ci := 16) (v := .ref f_file) (C := R_mPictures) (T := F_mPictures) (N := 30) hx hb hwd i_mPictures hown hK hP 0 rfl rfl 1 (by decide) (hwd _ wd_10_159) (fun _ h9 => h9) rfl d_mPictures_one_1 ?_
  refine lv_aload_n hx hb d_mPictures_one_4 rfl (lv_at hl 0 rfl) ?_
  refine va_get (D := (dC, dI)) (ci := 16) (v := .int (nI n)) (C := R_mPictures) (T := F_mPictures) (N := 30) hx hb hwd i_mPictures hown hK hP 0 rfl rfl 2 (by decide) (hwd _ wd_10_161) (fun _ h9 => h9) rfl d_mPictures_one_5 ?_
  refine lv_iload_n hx hb d_mPictures_one_8 rfl (lv_at hl 1 rfl) ?_
  refine lv_i2b (v := v.toInt8.toInt32) hx hb d_mPictures_one_9 rfl ?_
  refine va_bast hx hb hK hP hD hS 1 0 rfl rfl (vp_in_nI hn (by omega)) d_mPictures_one_10 ?_
  clear hP hD hS
  intro H locs hP hD hS
  rw [show (nI n).toNatClampNeg = n from nI_clamp (by omega)] at hP hD
  rw [pk_vb] at hP hD
  replace hP : va_P (dC, dI) vcl [(h0, .inr (16, [.int f_thrown, .ref f_file, .int (nI n), .int f_making, .int f_open, .int f_order, .int f_made, .int f_link, .int f_width, .int f_height, .int f_rows, .int f_across, .int f_down, .int f_strips, .int f_done, .int f_from, .int f_length, .ref f_places, .ref f_lengths, .int f_wasOrder, .int f_pages, .ref f_numbers, .ref f_firstStrip, .ref f_stripPlace, .ref f_stripLength, .int f_fault, .int f_faultPage, .int f_faultTag, .int f_faultStrip, .ref f_entry])), (f_file, .inl (c1, 65536, .inl (upd ff n v.toInt8.toInt32)))] H := hP
  replace hD : va_D A [(h0, .inr (16, [.int f_thrown, .ref f_file, .int (nI n), .int f_making, .int f_open, .int f_order, .int f_made, .int f_link, .int f_width, .int f_height, .int f_rows, .int f_across, .int f_down, .int f_strips, .int f_done, .int f_from, .int f_length, .ref f_places, .ref f_lengths, .int f_wasOrder, .int f_pages, .ref f_numbers, .ref f_firstStrip, .ref f_stripPlace, .ref f_stripLength, .int f_fault, .int f_faultPage, .int f_faultTag, .int f_faultStrip, .ref f_entry])), (f_file, .inl (c1, 65536, .inl (upd ff n v.toInt8.toInt32)))] := hD
  refine lv_aload_n hx hb d_mPictures_one_11 rfl (lv_at hl 0 rfl) ?_
  refine lv_dup hx hb d_mPictures_one_12 rfl ?_
  refine va_get (D := (dC, dI)) (ci := 16) (v := .int (nI n)) (C := R_mPictures) (T := F_mPictures) (N := 30) hx hb hwd i_mPictures hown hK hP 0 rfl rfl 2 (by decide) (hwd _ wd_10_161) (fun _ h9 => h9) rfl d_mPictures_one_13 ?_
  refine lv_iconst (v := 1) hx hb d_mPictures_one_16 (by decide) ?_
  refine lv_iadd hx hb d_mPictures_one_17 ?_
  refine lv_topi (fun y_1 ey_1 => ?_)
  obtain rfl : y_1 = nI (n + 1) := ey_1.trans (nI_1 n)
  refine va_put (D := (dC, dI)) (ci := 16) (v := .int (nI (n + 1))) (ty := .int) (C := R_mPictures) (T := F_mPictures) (N := 30) hx hb hwd i_mPictures t_mPictures to_mPictures no_mPictures hown hK hP hD hS 0 rfl rfl 2 (by decide) (hwd _ wd_10_161) (fun _ h9 => h9) rfl (by decide +kernel) rfl rfl (Nat.le_of_ble_eq_true rfl) d_mPictures_one_18 ?_
  clear hP hD hS
  intro H locs hP hD hS
  replace hP : va_P (dC, dI) vcl [(h0, .inr (16, [.int f_thrown, .ref f_file, .int (nI (n + 1)), .int f_making, .int f_open, .int f_order, .int f_made, .int f_link, .int f_width, .int f_height, .int f_rows, .int f_across, .int f_down, .int f_strips, .int f_done, .int f_from, .int f_length, .ref f_places, .ref f_lengths, .int f_wasOrder, .int f_pages, .ref f_numbers, .ref f_firstStrip, .ref f_stripPlace, .ref f_stripLength, .int f_fault, .int f_faultPage, .int f_faultTag, .int f_faultStrip, .ref f_entry])), (f_file, .inl (c1, 65536, .inl (upd ff n v.toInt8.toInt32)))] H := hP
  replace hD : va_D A [(h0, .inr (16, [.int f_thrown, .ref f_file, .int (nI (n + 1)), .int f_making, .int f_open, .int f_order, .int f_made, .int f_link, .int f_width, .int f_height, .int f_rows, .int f_across, .int f_down, .int f_strips, .int f_done, .int f_from, .int f_length, .ref f_places, .ref f_lengths, .int f_wasOrder, .int f_pages, .ref f_numbers, .ref f_firstStrip, .ref f_stripPlace, .ref f_stripLength, .int f_fault, .int f_faultPage, .int f_faultTag, .int f_faultStrip, .ref f_entry])), (f_file, .inl (c1, 65536, .inl (upd ff n v.toInt8.toInt32)))] := hD
  have hP9 := hP.sub (ws' := [(h0, .inr (16, [.int f_thrown, .ref f_file, .int (nI (n + 1)), .int f_making, .int f_open, .int f_order, .int f_made, .int f_link, .int f_width, .int f_height, .int f_rows, .int f_across, .int f_down, .int f_strips, .int f_done, .int f_from, .int f_length, .ref f_places, .ref f_lengths, .int f_wasOrder, .int f_pages, .ref f_numbers, .ref f_firstStrip, .ref f_stripPlace, .ref f_stripLength, .int f_fault, .int f_faultPage, .int f_faultTag, .int f_faultStrip, .ref f_entry])), (f_file, .inl (c1, 65536, .inl (upd ff n v.toInt8.toInt32)))]) [0, 1] rfl
  have hD9 := hD.sub (ws' := [(h0, .inr (16, [.int f_thrown, .ref f_file, .int (nI (n + 1)), .int f_making, .int f_open, .int f_order, .int f_made, .int f_link, .int f_width, .int f_height, .int f_rows, .int f_across, .int f_down, .int f_strips, .int f_done, .int f_from, .int f_length, .ref f_places, .ref f_lengths, .int f_wasOrder, .int f_pages, .ref f_numbers, .ref f_firstStrip, .ref f_stripPlace, .ref f_stripLength, .int f_fault, .int f_faultPage, .int f_faultTag, .int f_faultStrip, .ref f_entry])), (f_file, .inl (c1, 65536, .inl (upd ff n v.toInt8.toInt32)))]) [0, 1] (by decide) rfl
  have hK9 := hK.sub (tys' := [(c1, .byte)]) [0] rfl
  exact W.vret hx hb hr (fun t ht hW => ⟨⟨(), rfl, (trivial), by rw [ht]; exact hP9, va_K.moved hW.alike hK9, hD9⟩, hS.F ht⟩) hS.2.2 d_mPictures_one_21

abbrev at_c_Pictures_two (dC : Nat → ClassId) (dI : Nat → Nat → Nat) (h0 : Nat) (f_thrown : Int32) (f_file : Nat) (f_making : Int32) (f_open : Int32) (f_made : Int32) (f_link : Int32) (f_width : Int32) (f_height : Int32) (f_rows : Int32) (f_across : Int32) (f_down : Int32) (f_strips : Int32) (f_done : Int32) (f_from : Int32) (f_length : Int32) (f_places : Nat) (f_lengths : Nat) (f_wasOrder : Int32) (f_pages : Int32) (f_numbers : Nat) (f_firstStrip : Nat) (f_stripPlace : Nat) (f_stripLength : Nat) (f_fault : Int32) (f_faultPage : Int32) (f_faultTag : Int32) (f_faultStrip : Int32) (f_entry : Nat) (n : Nat) (c1 : ClassId) (ff : Nat → Int32) (v : Int32) (A : Nat → Prop) (u : Unit) (t : State) : Prop := match u with
  | _ => va_P (dC, dI) vcl [(h0, .inr (16, [.int f_thrown, .ref f_file, .int (nI ((n + 1) + 1)), .int f_making, .int f_open, .int 73, .int f_made, .int f_link, .int f_width, .int f_height, .int f_rows, .int f_across, .int f_down, .int f_strips, .int f_done, .int f_from, .int f_length, .ref f_places, .ref f_lengths, .int f_wasOrder, .int f_pages, .ref f_numbers, .ref f_firstStrip, .ref f_stripPlace, .ref f_stripLength, .int f_fault, .int f_faultPage, .int f_faultTag, .int f_faultStrip, .ref f_entry])), (f_file, .inl (c1, 65536, .inl (upd (upd ff n v.toInt8.toInt32) (n + 1) (v >>> (8 &&& 31)).toInt8.toInt32)))] t.heap ∧ va_K (dC, dI) vcl [(c1, .byte)] t ∧ va_D A [(h0, .inr (16, [.int f_thrown, .ref f_file, .int (nI ((n + 1) + 1)), .int f_making, .int f_open, .int 73, .int f_made, .int f_link, .int f_width, .int f_height, .int f_rows, .int f_across, .int f_down, .int f_strips, .int f_done, .int f_from, .int f_length, .ref f_places, .ref f_lengths, .int f_wasOrder, .int f_pages, .ref f_numbers, .ref f_firstStrip, .ref f_stripPlace, .ref f_stripLength, .int f_fault, .int f_faultPage, .int f_faultTag, .int f_faultStrip, .ref f_entry])), (f_file, .inl (c1, 65536, .inl (upd (upd ff n v.toInt8.toInt32) (n + 1) (v >>> (8 &&& 31)).toInt8.toInt32)))]
abbrev po_c_Pictures_two (h0 : Nat) (f_thrown : Int32) (f_file : Nat) (f_making : Int32) (f_open : Int32) (f_made : Int32) (f_link : Int32) (f_width : Int32) (f_height : Int32) (f_rows : Int32) (f_across : Int32) (f_down : Int32) (f_strips : Int32) (f_done : Int32) (f_from : Int32) (f_length : Int32) (f_places : Nat) (f_lengths : Nat) (f_wasOrder : Int32) (f_pages : Int32) (f_numbers : Nat) (f_firstStrip : Nat) (f_stripPlace : Nat) (f_stripLength : Nat) (f_fault : Int32) (f_faultPage : Int32) (f_faultTag : Int32) (f_faultStrip : Int32) (f_entry : Nat) (n : Nat) (c1 : ClassId) (ff : Nat → Int32) (v : Int32) (u : Unit) : Prop := match u with
  | _ => True
abbrev q_c_Pictures_two (dC : Nat → ClassId) (dI : Nat → Nat → Nat) (h0 : Nat) (f_thrown : Int32) (f_file : Nat) (f_making : Int32) (f_open : Int32) (f_made : Int32) (f_link : Int32) (f_width : Int32) (f_height : Int32) (f_rows : Int32) (f_across : Int32) (f_down : Int32) (f_strips : Int32) (f_done : Int32) (f_from : Int32) (f_length : Int32) (f_places : Nat) (f_lengths : Nat) (f_wasOrder : Int32) (f_pages : Int32) (f_numbers : Nat) (f_firstStrip : Nat) (f_stripPlace : Nat) (f_stripLength : Nat) (f_fault : Int32) (f_faultPage : Int32) (f_faultTag : Int32) (f_faultStrip : Int32) (f_entry : Nat) (n : Nat) (c1 : ClassId) (ff : Nat → Int32) (v : Int32) (A : Nat → Prop) : Array Value → State → Outcome → State → Prop := va_Qv (po_c_Pictures_two h0 f_thrown f_file f_making f_open f_made f_link f_width f_height f_rows f_across f_down f_strips f_done f_from f_length f_places f_lengths f_wasOrder f_pages f_numbers f_firstStrip f_stripPlace f_stripLength f_fault f_faultPage f_faultTag f_faultStrip f_entry n c1 ff v) (at_c_Pictures_two dC dI h0 f_thrown f_file f_making f_open f_made f_link f_width f_height f_rows f_across f_down f_strips f_done f_from f_length f_places f_lengths f_wasOrder f_pages f_numbers f_firstStrip f_stripPlace f_stripLength f_fault f_faultPage f_faultTag f_faultStrip f_entry n c1 ff v A) A
abbrev rm_c_Pictures_two : Room := { frames := 1, cells := 0, slots := 0, locals := 21 }
set_option maxHeartbeats 4000000 in
set_option maxRecDepth 100000 in
theorem c_Pictures_two (l : Launch) (dC : Nat → ClassId) (dI : Nat → Nat → Nat) (tt : Nat → Nat) (h0 : Nat) (f_thrown : Int32) (f_file : Nat) (f_making : Int32) (f_open : Int32) (f_made : Int32) (f_link : Int32) (f_width : Int32) (f_height : Int32) (f_rows : Int32) (f_across : Int32) (f_down : Int32) (f_strips : Int32) (f_done : Int32) (f_from : Int32) (f_length : Int32) (f_places : Nat) (f_lengths : Nat) (f_wasOrder : Int32) (f_pages : Int32) (f_numbers : Nat) (f_firstStrip : Nat) (f_stripPlace : Nat) (f_stripLength : Nat) (f_fault : Int32) (f_faultPage : Int32) (f_faultTag : Int32) (f_faultStrip : Int32) (f_entry : Nat) (n : Nat) (c1 : ClassId) (ff : Nat → Int32) (v : Int32) (sz : Nat) (hn : n + 2 ≤ 65536) : Met l y_mPictures_two w_mPictures_two rm_c_Pictures_two (va_Pc [.ref h0, .int v] (fun U => U.heap.size = sz ∧ va_P (dC, dI) vcl [(h0, .inr (16, [.int f_thrown, .ref f_file, .int (nI n), .int f_making, .int f_open, .int 73, .int f_made, .int f_link, .int f_width, .int f_height, .int f_rows, .int f_across, .int f_down, .int f_strips, .int f_done, .int f_from, .int f_length, .ref f_places, .ref f_lengths, .int f_wasOrder, .int f_pages, .ref f_numbers, .ref f_firstStrip, .ref f_stripPlace, .ref f_stripLength, .int f_fault, .int f_faultPage, .int f_faultTag, .int f_faultStrip, .ref f_entry])), (f_file, .inl (c1, 65536, .inl ff))] U.heap ∧ va_K (dC, dI) vcl [(c1, .byte)] U ∧ va_D (fun _ => True) [(h0, .inr (16, [.int f_thrown, .ref f_file, .int (nI n), .int f_making, .int f_open, .int 73, .int f_made, .int f_link, .int f_width, .int f_height, .int f_rows, .int f_across, .int f_down, .int f_strips, .int f_done, .int f_from, .int f_length, .ref f_places, .ref f_lengths, .int f_wasOrder, .int f_pages, .ref f_numbers, .ref f_firstStrip, .ref f_stripPlace, .ref f_stripLength, .int f_fault, .int f_faultPage, .int f_faultTag, .int f_faultStrip, .ref f_entry])), (f_file, .inl (c1, 65536, .inl ff))] ∧ SF tt (va_A [(h0, .inr (16, [.int f_thrown, .ref f_file, .int (nI n), .int f_making, .int f_open, .int 73, .int f_made, .int f_link, .int f_width, .int f_height, .int f_rows, .int f_across, .int f_down, .int f_strips, .int f_done, .int f_from, .int f_length, .ref f_places, .ref f_lengths, .int f_wasOrder, .int f_pages, .ref f_numbers, .ref f_firstStrip, .ref f_stripPlace, .ref f_stripLength, .int f_fault, .int f_faultPage, .int f_faultTag, .int f_faultStrip, .ref f_entry])), (f_file, .inl (c1, 65536, .inl ff))] sz) U U.heap)) (q_c_Pictures_two dC dI h0 f_thrown f_file f_making f_open f_made f_link f_width f_height f_rows f_across f_down f_strips f_done f_from f_length f_places f_lengths f_wasOrder f_pages f_numbers f_firstStrip f_stripPlace f_stripLength f_fault f_faultPage f_faultTag f_faultStrip f_entry n c1 ff v (va_A [(h0, .inr (16, [.int f_thrown, .ref f_file, .int (nI n), .int f_making, .int f_open, .int 73, .int f_made, .int f_link, .int f_width, .int f_height, .int f_rows, .int f_across, .int f_down, .int f_strips, .int f_done, .int f_from, .int f_length, .ref f_places, .ref f_lengths, .int f_wasOrder, .int f_pages, .ref f_numbers, .ref f_firstStrip, .ref f_stripPlace, .ref f_stripLength, .int f_fault, .int f_faultPage, .int f_faultTag, .int f_faultStrip, .ref f_entry])), (f_file, .inl (c1, 65536, .inl ff))] sz)) 0 0 (va_A [(h0, .inr (16, [.int f_thrown, .ref f_file, .int (nI n), .int f_making, .int f_open, .int 73, .int f_made, .int f_link, .int f_width, .int f_height, .int f_rows, .int f_across, .int f_down, .int f_strips, .int f_done, .int f_from, .int f_length, .ref f_places, .ref f_lengths, .int f_wasOrder, .int f_pages, .ref f_numbers, .ref f_firstStrip, .ref f_stripPlace, .ref f_stripLength, .int f_fault, .int f_faultPage, .int f_faultTag, .int f_faultStrip, .ref f_entry])), (f_file, .inl (c1, 65536, .inl ff))] sz) := by
  refine Met.ofW (cc := b_mPictures_two) (maxL := 2) (ret := none) (by decide) rfl ?_
  intro p e s m args below meth c s₁ B hml hv
  obtain ⟨rfl, hsz, hP, hK, hD0, hF⟩ := hv
  have hx := B.exec
  have hb := B.bytes
  have hr := B.returns
  have hwd : ∀ w ∈ gT, w.before _ s = true := fun w h => atoms_spec (ws := w_mPictures_two) B.pre w (List.mem_cons_of_mem _ h)
  have hown : s.vm.findClass R_mPictures = some m.cls := findClass_of_methodNamed B.named
  have hlocks := B.notSynchronized
  subst hsz
  have hD := hD0.self (sz := s.heap.size)
  generalize hAe : va_A [(h0, .inr (16, [.int f_thrown, .ref f_file, .int (nI n), .int f_making, .int f_open, .int 73, .int f_made, .int f_link, .int f_width, .int f_height, .int f_rows, .int f_across, .int f_down, .int f_strips, .int f_done, .int f_from, .int f_length, .ref f_places, .ref f_lengths, .int f_wasOrder, .int f_pages, .ref f_numbers, .ref f_firstStrip, .ref f_stripPlace, .ref f_stripLength, .int f_fault, .int f_faultPage, .int f_faultTag, .int f_faultStrip, .ref f_entry])), (f_file, .inl (c1, 65536, .inl ff))] s.heap.size = A at hD hF ⊢
  have hA : ∀ q : Nat, s.heap.size ≤ q → A q := fun q h => by rw [← hAe]; exact Or.inr h
  have hS : va_S A s.heap s.heap [] := va_S.rf
  have hP : va_P (dC, dI) vcl [(h0, .inr (16, [.int f_thrown, .ref f_file, .int (nI n), .int f_making, .int f_open, .int 73, .int f_made, .int f_link, .int f_width, .int f_height, .int f_rows, .int f_across, .int f_down, .int f_strips, .int f_done, .int f_from, .int f_length, .ref f_places, .ref f_lengths, .int f_wasOrder, .int f_pages, .ref f_numbers, .ref f_firstStrip, .ref f_stripPlace, .ref f_stripLength, .int f_fault, .int f_faultPage, .int f_faultTag, .int f_faultStrip, .ref f_entry])), (f_file, .inl (c1, 65536, .inl ff))] s.heap := hP
  have hl := lv_entry ([.ref h0, .int v]) (n := 2) (Nat.le_of_ble_eq_true rfl)
  rw [lg_entry_eq]
  generalize (lg_sl ([.ref h0, .int v]) ++ List.replicate (2 - (lg_sl ([.ref h0, .int v])).length) Slot.unset).toArray = ls at hl ⊢
  have hl : lv_has ls 2 [(0, .ref h0), (1, .int v)] := hl
  refine lv_aload_n hx hb d_mPictures_two_0 rfl (lv_at hl 0 rfl) ?_
  refine lv_aload_n hx hb d_mPictures_two_1 rfl (lv_at hl 0 rfl) ?_
  refine va_get (D := (dC, dI)) (ci := 16) (v := .int 73) (C := R_mPictures) (T := F_mPictures) (N := 30) hx hb hwd i_mPictures hown hK hP 0 rfl rfl 5 (by decide) (hwd _ wd_10_165) (fun _ h9 => h9) rfl d_mPictures_two_2 ?_
  refine lv_bipush (v := 77) hx hb d_mPictures_two_5 (by decide) ?_
  refine lv_icmp_ne (tgt := 17) hx hb d_mPictures_two_7 (by decide) (fun _ => ?_) (fun c7 => absurd c7 (by decide))
  refine lv_iload_n hx hb d_mPictures_two_17 rfl (lv_at hl 1 rfl) ?_
  have hPc := hP.sub (ws' := [(h0, .inr (16, [.int f_thrown, .ref f_file, .int (nI n), .int f_making, .int f_open, .int 73, .int f_made, .int f_link, .int f_width, .int f_height, .int f_rows, .int f_across, .int f_down, .int f_strips, .int f_done, .int f_from, .int f_length, .ref f_places, .ref f_lengths, .int f_wasOrder, .int f_pages, .ref f_numbers, .ref f_firstStrip, .ref f_stripPlace, .ref f_stripLength, .int f_fault, .int f_faultPage, .int f_faultTag, .int f_faultStrip, .ref f_entry])), (f_file, .inl (c1, 65536, .inl ff))]) [0, 1] rfl
  have hDc := hD.sub (ws' := [(h0, .inr (16, [.int f_thrown, .ref f_file, .int (nI n), .int f_making, .int f_open, .int 73, .int f_made, .int f_link, .int f_width, .int f_height, .int f_rows, .int f_across, .int f_down, .int f_strips, .int f_done, .int f_from, .int f_length, .ref f_places, .ref f_lengths, .int f_wasOrder, .int f_pages, .ref f_numbers, .ref f_firstStrip, .ref f_stripPlace, .ref f_stripLength, .int f_fault, .int f_faultPage, .int f_faultTag, .int f_faultStrip, .ref f_entry])), (f_file, .inl (c1, 65536, .inl ff))]) [0, 1] (by decide) rfl
  have hKc := hK.sub (tys' := [(c1, .byte)]) [0] rfl
  have hFc := va_free (wc := [(h0, .inr (16, [.int f_thrown, .ref f_file, .int (nI n), .int f_making, .int f_open, .int 73, .int f_made, .int f_link, .int f_width, .int f_height, .int f_rows, .int f_across, .int f_down, .int f_strips, .int f_done, .int f_from, .int f_length, .ref f_places, .ref f_lengths, .int f_wasOrder, .int f_pages, .ref f_numbers, .ref f_firstStrip, .ref f_stripPlace, .ref f_stripLength, .int f_fault, .int f_faultPage, .int f_faultTag, .int f_faultStrip, .ref f_entry])), (f_file, .inl (c1, 65536, .inl ff))]) hD hS hA [0, 1] rfl
  refine va_callv (va_runV (As := [.int v]) (rest := []) ⟨hx, hb, hml, hown, hwd⟩ (c_Pictures_one l dC dI tt h0 f_thrown f_file f_making f_open 73 f_made f_link f_width f_height f_rows f_across f_down f_strips f_done f_from f_length f_places f_lengths f_wasOrder f_pages f_numbers f_firstStrip f_stripPlace f_stripLength f_fault f_faultPage f_faultTag f_faultStrip f_entry n c1 ff v s.heap.size (by omega)) (cwV 1 hwd (gV gd_mPictures_one wd_11_126 wd_11_128 ws_124 wd_1_21) rfl rfl rfl (by decide +kernel) ⟨Nat.le_of_ble_eq_true rfl, Nat.le_of_ble_eq_true rfl⟩) ⟨fun a U g mk q => by obtain ⟨q0, q1, qP, qK, qD, qF⟩ := q; exact ⟨q0, q1, qP, va_K.moved (u := U) (U := U.calling g mk a) (Vm.Alike.refl U.vm) qK, qD, SF.same (u := U) (U := U.calling g mk a) rfl qF⟩, va_recv hKc hPc (ci := 16) (q0 := 0) rfl rfl, fun U hU hW => ⟨rfl, by rw [hU], by rw [hU]; exact hPc, va_K.moved hW.alike hKc, hDc.weaken (fun _ _ _ _ => trivial), by rw [hU]; exact SF.narrow (SF.moved hW (SF.kept hF (fun a h1 h2 => hS.2.1 a h1 h2))) hFc⟩⟩ rfl rfl hl.1 rfl (lv_room (Nat.le_of_ble_eq_true rfl)) d_mPictures_two_18 ⟨Nat.le_of_ble_eq_true rfl, Nat.le_of_ble_eq_true rfl⟩) hS (fun q _ h => hFc q h) hFc ?_
  clear hPc hDc hKc hS
  intro u_2 t H1 locs ht hvm hw hB hz1 hk1 hS
  obtain ⟨hP1, hK1, hD1⟩ := hB
  rw [ht] at hP1
  have hK1 := va_K.moved hvm.symm hK1
  try dsimp only at hw
  have hJ := va_join (wr := []) (w1 := [(h0, .inr (16, [.int f_thrown, .ref f_file, .int (nI (n + 1)), .int f_making, .int f_open, .int 73, .int f_made, .int f_link, .int f_width, .int f_height, .int f_rows, .int f_across, .int f_down, .int f_strips, .int f_done, .int f_from, .int f_length, .ref f_places, .ref f_lengths, .int f_wasOrder, .int f_pages, .ref f_numbers, .ref f_firstStrip, .ref f_stripPlace, .ref f_stripLength, .int f_fault, .int f_faultPage, .int f_faultTag, .int f_faultStrip, .ref f_entry])), (f_file, .inl (c1, 65536, .inl (upd ff n v.toInt8.toInt32)))]) hP hD [0, 1] [] rfl rfl (by decide) (by decide) hk1 hFc hP1 hD1
  clear hP hD hk1 hFc hP1 hD1 hz1
  obtain ⟨hP, hD⟩ := hJ
  clear hK1 ht hvm
  generalize H1 = H at hP hS ⊢
  replace hP : va_P (dC, dI) vcl [(h0, .inr (16, [.int f_thrown, .ref f_file, .int (nI (n + 1)), .int f_making, .int f_open, .int 73, .int f_made, .int f_link, .int f_width, .int f_height, .int f_rows, .int f_across, .int f_down, .int f_strips, .int f_done, .int f_from, .int f_length, .ref f_places, .ref f_lengths, .int f_wasOrder, .int f_pages, .ref f_numbers, .ref f_firstStrip, .ref f_stripPlace, .ref f_stripLength, .int f_fault, .int f_faultPage, .int f_faultTag, .int f_faultStrip, .ref f_entry])), (f_file, .inl (c1, 65536, .inl (upd ff n v.toInt8.toInt32)))] H := hP
  replace hD : va_D A [(h0, .inr (16, [.int f_thrown, .ref f_file, .int (nI (n + 1)), .int f_making, .int f_open, .int 73, .int f_made, .int f_link, .int f_width, .int f_height, .int f_rows, .int f_across, .int f_down, .int f_strips, .int f_done, .int f_from, .int f_length, .ref f_places, .ref f_lengths, .int f_wasOrder, .int f_pages, .ref f_numbers, .ref f_firstStrip, .ref f_stripPlace, .ref f_stripLength, .int f_fault, .int f_faultPage, .int f_faultTag, .int f_faultStrip, .ref f_entry])), (f_file, .inl (c1, 65536, .inl (upd ff n v.toInt8.toInt32)))] := hD
  refine lv_aload_n hx hb d_mPictures_two_21 rfl (lv_at hl 0 rfl) ?_
  refine lv_aload_n hx hb d_mPictures_two_22 rfl (lv_at hl 0 rfl) ?_
  refine va_get (D := (dC, dI)) (ci := 16) (v := .int 73) (C := R_mPictures) (T := F_mPictures) (N := 30) hx hb hwd i_mPictures hown hK hP 0 rfl rfl 5 (by decide) (hwd _ wd_10_165) (fun _ h9 => h9) rfl d_mPictures_two_23 ?_
  refine lv_bipush (v := 77) hx hb d_mPictures_two_26 (by decide) ?_
  refine lv_icmp_ne (tgt := 35) hx hb d_mPictures_two_28 (by decide) (fun _ => ?_) (fun c28 => absurd c28 (by decide))
  refine lv_iload_n hx hb d_mPictures_two_35 rfl (lv_at hl 1 rfl) ?_
  refine lv_bipush (v := 8) hx hb d_mPictures_two_36 (by decide) ?_
  refine lv_ishr hx hb d_mPictures_two_38 ?_
  have hPc := hP.sub (ws' := [(h0, .inr (16, [.int f_thrown, .ref f_file, .int (nI (n + 1)), .int f_making, .int f_open, .int 73, .int f_made, .int f_link, .int f_width, .int f_height, .int f_rows, .int f_across, .int f_down, .int f_strips, .int f_done, .int f_from, .int f_length, .ref f_places, .ref f_lengths, .int f_wasOrder, .int f_pages, .ref f_numbers, .ref f_firstStrip, .ref f_stripPlace, .ref f_stripLength, .int f_fault, .int f_faultPage, .int f_faultTag, .int f_faultStrip, .ref f_entry])), (f_file, .inl (c1, 65536, .inl (upd ff n v.toInt8.toInt32)))]) [0, 1] rfl
  have hDc := hD.sub (ws' := [(h0, .inr (16, [.int f_thrown, .ref f_file, .int (nI (n + 1)), .int f_making, .int f_open, .int 73, .int f_made, .int f_link, .int f_width, .int f_height, .int f_rows, .int f_across, .int f_down, .int f_strips, .int f_done, .int f_from, .int f_length, .ref f_places, .ref f_lengths, .int f_wasOrder, .int f_pages, .ref f_numbers, .ref f_firstStrip, .ref f_stripPlace, .ref f_stripLength, .int f_fault, .int f_faultPage, .int f_faultTag, .int f_faultStrip, .ref f_entry])), (f_file, .inl (c1, 65536, .inl (upd ff n v.toInt8.toInt32)))]) [0, 1] (by decide) rfl
  have hKc := hK.sub (tys' := [(c1, .byte)]) [0] rfl
  have hFc := va_free (wc := [(h0, .inr (16, [.int f_thrown, .ref f_file, .int (nI (n + 1)), .int f_making, .int f_open, .int 73, .int f_made, .int f_link, .int f_width, .int f_height, .int f_rows, .int f_across, .int f_down, .int f_strips, .int f_done, .int f_from, .int f_length, .ref f_places, .ref f_lengths, .int f_wasOrder, .int f_pages, .ref f_numbers, .ref f_firstStrip, .ref f_stripPlace, .ref f_stripLength, .int f_fault, .int f_faultPage, .int f_faultTag, .int f_faultStrip, .ref f_entry])), (f_file, .inl (c1, 65536, .inl (upd ff n v.toInt8.toInt32)))]) hD hS hA [0, 1] rfl
  refine va_callv (va_runV (As := [.int (v >>> (8 &&& 31))]) (rest := []) ⟨hx, hb, hml, hown, hwd⟩ (c_Pictures_one l dC dI tt h0 f_thrown f_file f_making f_open 73 f_made f_link f_width f_height f_rows f_across f_down f_strips f_done f_from f_length f_places f_lengths f_wasOrder f_pages f_numbers f_firstStrip f_stripPlace f_stripLength f_fault f_faultPage f_faultTag f_faultStrip f_entry (n + 1) c1 (upd ff n v.toInt8.toInt32) (v >>> (8 &&& 31)) H.size (by omega)) (cwV 1 hwd (gV gd_mPictures_one wd_11_126 wd_11_128 ws_124 wd_1_21) rfl rfl rfl (by decide +kernel) ⟨Nat.le_of_ble_eq_true rfl, Nat.le_of_ble_eq_true rfl⟩) ⟨fun a U g mk q => by obtain ⟨q0, q1, qP, qK, qD, qF⟩ := q; exact ⟨q0, q1, qP, va_K.moved (u := U) (U := U.calling g mk a) (Vm.Alike.refl U.vm) qK, qD, SF.same (u := U) (U := U.calling g mk a) rfl qF⟩, va_recv hKc hPc (ci := 16) (q0 := 0) rfl rfl, fun U hU hW => ⟨rfl, by rw [hU], by rw [hU]; exact hPc, va_K.moved hW.alike hKc, hDc.weaken (fun _ _ _ _ => trivial), by rw [hU]; exact SF.narrow (SF.moved hW (SF.kept hF (fun a h1 h2 => hS.2.1 a h1 h2))) hFc⟩⟩ rfl rfl hl.1 rfl (lv_room (Nat.le_of_ble_eq_true rfl)) d_mPictures_two_39 ⟨Nat.le_of_ble_eq_true rfl, Nat.le_of_ble_eq_true rfl⟩) hS (fun q _ h => hFc q h) hFc ?_
  clear hPc hDc hKc hS
  intro u_4 t H1 locs ht hvm hw hB hz1 hk1 hS
  obtain ⟨hP1, hK1, hD1⟩ := hB
  rw [ht] at hP1
  have hK1 := va_K.moved hvm.symm hK1
  try dsimp only at hw
  have hJ := va_join (wr := []) (w1 := [(h0, .inr (16, [.int f_thrown, .ref f_file, .int (nI ((n + 1) + 1)), .int f_making, .int f_open, .int 73, .int f_made, .int f_link, .int f_width, .int f_height, .int f_rows, .int f_across, .int f_down, .int f_strips, .int f_done, .int f_from, .int f_length, .ref f_places, .ref f_lengths, .int f_wasOrder, .int f_pages, .ref f_numbers, .ref f_firstStrip, .ref f_stripPlace, .ref f_stripLength, .int f_fault, .int f_faultPage, .int f_faultTag, .int f_faultStrip, .ref f_entry])), (f_file, .inl (c1, 65536, .inl (upd (upd ff n v.toInt8.toInt32) (n + 1) (v >>> (8 &&& 31)).toInt8.toInt32)))]) hP hD [0, 1] [] rfl rfl (by decide) (by decide) hk1 hFc hP1 hD1
  clear hP hD hk1 hFc hP1 hD1 hz1
  obtain ⟨hP, hD⟩ := hJ
  clear hK1 ht hvm
  generalize H1 = H at hP hS ⊢
  replace hP : va_P (dC, dI) vcl [(h0, .inr (16, [.int f_thrown, .ref f_file, .int (nI ((n + 1) + 1)), .int f_making, .int f_open, .int 73, .int f_made, .int f_link, .int f_width, .int f_height, .int f_rows, .int f_across, .int f_down, .int f_strips, .int f_done, .int f_from, .int f_length, .ref f_places, .ref f_lengths, .int f_wasOrder, .int f_pages, .ref f_numbers, .ref f_firstStrip, .ref f_stripPlace, .ref f_stripLength, .int f_fault, .int f_faultPage, .int f_faultTag, .int f_faultStrip, .ref f_entry])), (f_file, .inl (c1, 65536, .inl (upd (upd ff n v.toInt8.toInt32) (n + 1) (v >>> (8 &&& 31)).toInt8.toInt32)))] H := hP
  replace hD : va_D A [(h0, .inr (16, [.int f_thrown, .ref f_file, .int (nI ((n + 1) + 1)), .int f_making, .int f_open, .int 73, .int f_made, .int f_link, .int f_width, .int f_height, .int f_rows, .int f_across, .int f_down, .int f_strips, .int f_done, .int f_from, .int f_length, .ref f_places, .ref f_lengths, .int f_wasOrder, .int f_pages, .ref f_numbers, .ref f_firstStrip, .ref f_stripPlace, .ref f_stripLength, .int f_fault, .int f_faultPage, .int f_faultTag, .int f_faultStrip, .ref f_entry])), (f_file, .inl (c1, 65536, .inl (upd (upd ff n v.toInt8.toInt32) (n + 1) (v >>> (8 &&& 31)).toInt8.toInt32)))] := hD
  have hP9 := hP.sub (ws' := [(h0, .inr (16, [.int f_thrown, .ref f_file, .int (nI ((n + 1) + 1)), .int f_making, .int f_open, .int 73, .int f_made, .int f_link, .int f_width, .int f_height, .int f_rows, .int f_across, .int f_down, .int f_strips, .int f_done, .int f_from, .int f_length, .ref f_places, .ref f_lengths, .int f_wasOrder, .int f_pages, .ref f_numbers, .ref f_firstStrip, .ref f_stripPlace, .ref f_stripLength, .int f_fault, .int f_faultPage, .int f_faultTag, .int f_faultStrip, .ref f_entry])), (f_file, .inl (c1, 65536, .inl (upd (upd ff n v.toInt8.toInt32) (n + 1) (v >>> (8 &&& 31)).toInt8.toInt32)))]) [0, 1] rfl
  have hD9 := hD.sub (ws' := [(h0, .inr (16, [.int f_thrown, .ref f_file, .int (nI ((n + 1) + 1)), .int f_making, .int f_open, .int 73, .int f_made, .int f_link, .int f_width, .int f_height, .int f_rows, .int f_across, .int f_down, .int f_strips, .int f_done, .int f_from, .int f_length, .ref f_places, .ref f_lengths, .int f_wasOrder, .int f_pages, .ref f_numbers, .ref f_firstStrip, .ref f_stripPlace, .ref f_stripLength, .int f_fault, .int f_faultPage, .int f_faultTag, .int f_faultStrip, .ref f_entry])), (f_file, .inl (c1, 65536, .inl (upd (upd ff n v.toInt8.toInt32) (n + 1) (v >>> (8 &&& 31)).toInt8.toInt32)))]) [0, 1] (by decide) rfl
  have hK9 := hK.sub (tys' := [(c1, .byte)]) [0] rfl
  exact W.vret hx hb hr (fun t ht hW => ⟨⟨(), rfl, (trivial), by rw [ht]; exact hP9, va_K.moved hW.alike hK9, hD9⟩, hS.F ht⟩) hS.2.2 d_mPictures_two_42

abbrev at_c_Pictures_four (dC : Nat → ClassId) (dI : Nat → Nat → Nat) (h0 : Nat) (f_thrown : Int32) (f_file : Nat) (f_making : Int32) (f_open : Int32) (f_made : Int32) (f_link : Int32) (f_width : Int32) (f_height : Int32) (f_rows : Int32) (f_across : Int32) (f_down : Int32) (f_strips : Int32) (f_done : Int32) (f_from : Int32) (f_length : Int32) (f_places : Nat) (f_lengths : Nat) (f_wasOrder : Int32) (f_pages : Int32) (f_numbers : Nat) (f_firstStrip : Nat) (f_stripPlace : Nat) (f_stripLength : Nat) (f_fault : Int32) (f_faultPage : Int32) (f_faultTag : Int32) (f_faultStrip : Int32) (f_entry : Nat) (n : Nat) (c1 : ClassId) (ff : Nat → Int32) (v : Int32) (A : Nat → Prop) (u : Unit) (t : State) : Prop := match u with
  | _ => va_P (dC, dI) vcl [(h0, .inr (16, [.int f_thrown, .ref f_file, .int (nI ((((n + 1) + 1) + 1) + 1)), .int f_making, .int f_open, .int 73, .int f_made, .int f_link, .int f_width, .int f_height, .int f_rows, .int f_across, .int f_down, .int f_strips, .int f_done, .int f_from, .int f_length, .ref f_places, .ref f_lengths, .int f_wasOrder, .int f_pages, .ref f_numbers, .ref f_firstStrip, .ref f_stripPlace, .ref f_stripLength, .int f_fault, .int f_faultPage, .int f_faultTag, .int f_faultStrip, .ref f_entry])), (f_file, .inl (c1, 65536, .inl (upd (upd (upd (upd ff n v.toInt8.toInt32) (n + 1) (v >>> (8 &&& 31)).toInt8.toInt32) ((n + 1) + 1) (v >>> (16 &&& 31)).toInt8.toInt32) (((n + 1) + 1) + 1) ((v >>> (16 &&& 31)) >>> (8 &&& 31)).toInt8.toInt32)))] t.heap ∧ va_K (dC, dI) vcl [(c1, .byte)] t ∧ va_D A [(h0, .inr (16, [.int f_thrown, .ref f_file, .int (nI ((((n + 1) + 1) + 1) + 1)), .int f_making, .int f_open, .int 73, .int f_made, .int f_link, .int f_width, .int f_height, .int f_rows, .int f_across, .int f_down, .int f_strips, .int f_done, .int f_from, .int f_length, .ref f_places, .ref f_lengths, .int f_wasOrder, .int f_pages, .ref f_numbers, .ref f_firstStrip, .ref f_stripPlace, .ref f_stripLength, .int f_fault, .int f_faultPage, .int f_faultTag, .int f_faultStrip, .ref f_entry])), (f_file, .inl (c1, 65536, .inl (upd (upd (upd (upd ff n v.toInt8.toInt32) (n + 1) (v >>> (8 &&& 31)).toInt8.toInt32) ((n + 1) + 1) (v >>> (16 &&& 31)).toInt8.toInt32) (((n + 1) + 1) + 1) ((v >>> (16 &&& 31)) >>> (8 &&& 31)).toInt8.toInt32)))]
abbrev po_c_Pictures_four (h0 : Nat) (f_thrown : Int32) (f_file : Nat) (f_making : Int32) (f_open : Int32) (f_made : Int32) (f_link : Int32) (f_width : Int32) (f_height : Int32) (f_rows : Int32) (f_across : Int32) (f_down : Int32) (f_strips : Int32) (f_done : Int32) (f_from : Int32) (f_length : Int32) (f_places : Nat) (f_lengths : Nat) (f_wasOrder : Int32) (f_pages : Int32) (f_numbers : Nat) (f_firstStrip : Nat) (f_stripPlace : Nat) (f_stripLength : Nat) (f_fault : Int32) (f_faultPage : Int32) (f_faultTag : Int32) (f_faultStrip : Int32) (f_entry : Nat) (n : Nat) (c1 : ClassId) (ff : Nat → Int32) (v : Int32) (u : Unit) : Prop := match u with
  | _ => True
abbrev q_c_Pictures_four (dC : Nat → ClassId) (dI : Nat → Nat → Nat) (h0 : Nat) (f_thrown : Int32) (f_file : Nat) (f_making : Int32) (f_open : Int32) (f_made : Int32) (f_link : Int32) (f_width : Int32) (f_height : Int32) (f_rows : Int32) (f_across : Int32) (f_down : Int32) (f_strips : Int32) (f_done : Int32) (f_from : Int32) (f_length : Int32) (f_places : Nat) (f_lengths : Nat) (f_wasOrder : Int32) (f_pages : Int32) (f_numbers : Nat) (f_firstStrip : Nat) (f_stripPlace : Nat) (f_stripLength : Nat) (f_fault : Int32) (f_faultPage : Int32) (f_faultTag : Int32) (f_faultStrip : Int32) (f_entry : Nat) (n : Nat) (c1 : ClassId) (ff : Nat → Int32) (v : Int32) (A : Nat → Prop) : Array Value → State → Outcome → State → Prop := va_Qv (po_c_Pictures_four h0 f_thrown f_file f_making f_open f_made f_link f_width f_height f_rows f_across f_down f_strips f_done f_from f_length f_places f_lengths f_wasOrder f_pages f_numbers f_firstStrip f_stripPlace f_stripLength f_fault f_faultPage f_faultTag f_faultStrip f_entry n c1 ff v) (at_c_Pictures_four dC dI h0 f_thrown f_file f_making f_open f_made f_link f_width f_height f_rows f_across f_down f_strips f_done f_from f_length f_places f_lengths f_wasOrder f_pages f_numbers f_firstStrip f_stripPlace f_stripLength f_fault f_faultPage f_faultTag f_faultStrip f_entry n c1 ff v A) A
abbrev rm_c_Pictures_four : Room := { frames := 2, cells := 0, slots := 0, locals := 42 }
set_option maxHeartbeats 4000000 in
set_option maxRecDepth 100000 in
theorem c_Pictures_four (l : Launch) (dC : Nat → ClassId) (dI : Nat → Nat → Nat) (tt : Nat → Nat) (h0 : Nat) (f_thrown : Int32) (f_file : Nat) (f_making : Int32) (f_open : Int32) (f_made : Int32) (f_link : Int32) (f_width : Int32) (f_height : Int32) (f_rows : Int32) (f_across : Int32) (f_down : Int32) (f_strips : Int32) (f_done : Int32) (f_from : Int32) (f_length : Int32) (f_places : Nat) (f_lengths : Nat) (f_wasOrder : Int32) (f_pages : Int32) (f_numbers : Nat) (f_firstStrip : Nat) (f_stripPlace : Nat) (f_stripLength : Nat) (f_fault : Int32) (f_faultPage : Int32) (f_faultTag : Int32) (f_faultStrip : Int32) (f_entry : Nat) (n : Nat) (c1 : ClassId) (ff : Nat → Int32) (v : Int32) (sz : Nat) (hn : n + 4 ≤ 65536) : Met l y_mPictures_four w_mPictures_four rm_c_Pictures_four (va_Pc [.ref h0, .int v] (fun U => U.heap.size = sz ∧ va_P (dC, dI) vcl [(h0, .inr (16, [.int f_thrown, .ref f_file, .int (nI n), .int f_making, .int f_open, .int 73, .int f_made, .int f_link, .int f_width, .int f_height, .int f_rows, .int f_across, .int f_down, .int f_strips, .int f_done, .int f_from, .int f_length, .ref f_places, .ref f_lengths, .int f_wasOrder, .int f_pages, .ref f_numbers, .ref f_firstStrip, .ref f_stripPlace, .ref f_stripLength, .int f_fault, .int f_faultPage, .int f_faultTag, .int f_faultStrip, .ref f_entry])), (f_file, .inl (c1, 65536, .inl ff))] U.heap ∧ va_K (dC, dI) vcl [(c1, .byte)] U ∧ va_D (fun _ => True) [(h0, .inr (16, [.int f_thrown, .ref f_file, .int (nI n), .int f_making, .int f_open, .int 73, .int f_made, .int f_link, .int f_width, .int f_height, .int f_rows, .int f_across, .int f_down, .int f_strips, .int f_done, .int f_from, .int f_length, .ref f_places, .ref f_lengths, .int f_wasOrder, .int f_pages, .ref f_numbers, .ref f_firstStrip, .ref f_stripPlace, .ref f_stripLength, .int f_fault, .int f_faultPage, .int f_faultTag, .int f_faultStrip, .ref f_entry])), (f_file, .inl (c1, 65536, .inl ff))] ∧ SF tt (va_A [(h0, .inr (16, [.int f_thrown, .ref f_file, .int (nI n), .int f_making, .int f_open, .int 73, .int f_made, .int f_link, .int f_width, .int f_height, .int f_rows, .int f_across, .int f_down, .int f_strips, .int f_done, .int f_from, .int f_length, .ref f_places, .ref f_lengths, .int f_wasOrder, .int f_pages, .ref f_numbers, .ref f_firstStrip, .ref f_stripPlace, .ref f_stripLength, .int f_fault, .int f_faultPage, .int f_faultTag, .int f_faultStrip, .ref f_entry])), (f_file, .inl (c1, 65536, .inl ff))] sz) U U.heap)) (q_c_Pictures_four dC dI h0 f_thrown f_file f_making f_open f_made f_link f_width f_height f_rows f_across f_down f_strips f_done f_from f_length f_places f_lengths f_wasOrder f_pages f_numbers f_firstStrip f_stripPlace f_stripLength f_fault f_faultPage f_faultTag f_faultStrip f_entry n c1 ff v (va_A [(h0, .inr (16, [.int f_thrown, .ref f_file, .int (nI n), .int f_making, .int f_open, .int 73, .int f_made, .int f_link, .int f_width, .int f_height, .int f_rows, .int f_across, .int f_down, .int f_strips, .int f_done, .int f_from, .int f_length, .ref f_places, .ref f_lengths, .int f_wasOrder, .int f_pages, .ref f_numbers, .ref f_firstStrip, .ref f_stripPlace, .ref f_stripLength, .int f_fault, .int f_faultPage, .int f_faultTag, .int f_faultStrip, .ref f_entry])), (f_file, .inl (c1, 65536, .inl ff))] sz)) 0 0 (va_A [(h0, .inr (16, [.int f_thrown, .ref f_file, .int (nI n), .int f_making, .int f_open, .int 73, .int f_made, .int f_link, .int f_width, .int f_height, .int f_rows, .int f_across, .int f_down, .int f_strips, .int f_done, .int f_from, .int f_length, .ref f_places, .ref f_lengths, .int f_wasOrder, .int f_pages, .ref f_numbers, .ref f_firstStrip, .ref f_stripPlace, .ref f_stripLength, .int f_fault, .int f_faultPage, .int f_faultTag, .int f_faultStrip, .ref f_entry])), (f_file, .inl (c1, 65536, .inl ff))] sz) := by
  refine Met.ofW (cc := b_mPictures_four) (maxL := 2) (ret := none) (by decide) rfl ?_
  intro p e s m args below meth c s₁ B hml hv
  obtain ⟨rfl, hsz, hP, hK, hD0, hF⟩ := hv
  have hx := B.exec
  have hb := B.bytes
  have hr := B.returns
  have hwd : ∀ w ∈ gT, w.before _ s = true := fun w h => atoms_spec (ws := w_mPictures_four) B.pre w (List.mem_cons_of_mem _ h)
  have hown : s.vm.findClass R_mPictures = some m.cls := findClass_of_methodNamed B.named
  have hlocks := B.notSynchronized
  subst hsz
  have hD := hD0.self (sz := s.heap.size)
  generalize hAe : va_A [(h0, .inr (16, [.int f_thrown, .ref f_file, .int (nI n), .int f_making, .int f_open, .int 73, .int f_made, .int f_link, .int f_width, .int f_height, .int f_rows, .int f_across, .int f_down, .int f_strips, .int f_done, .int f_from, .int f_length, .ref f_places, .ref f_lengths, .int f_wasOrder, .int f_pages, .ref f_numbers, .ref f_firstStrip, .ref f_stripPlace, .ref f_stripLength, .int f_fault, .int f_faultPage, .int f_faultTag, .int f_faultStrip, .ref f_entry])), (f_file, .inl (c1, 65536, .inl ff))] s.heap.size = A at hD hF ⊢
  have hA : ∀ q : Nat, s.heap.size ≤ q → A q := fun q h => by rw [← hAe]; exact Or.inr h
  have hS : va_S A s.heap s.heap [] := va_S.rf
  have hP : va_P (dC, dI) vcl [(h0, .inr (16, [.int f_thrown, .ref f_file, .int (nI n), .int f_making, .int f_open, .int 73, .int f_made, .int f_link, .int f_width, .int f_height, .int f_rows, .int f_across, .int f_down, .int f_strips, .int f_done, .int f_from, .int f_length, .ref f_places, .ref f_lengths, .int f_wasOrder, .int f_pages, .ref f_numbers, .ref f_firstStrip, .ref f_stripPlace, .ref f_stripLength, .int f_fault, .int f_faultPage, .int f_faultTag, .int f_faultStrip, .ref f_entry])), (f_file, .inl (c1, 65536, .inl ff))] s.heap := hP
  have hl := lv_entry ([.ref h0, .int v]) (n := 2) (Nat.le_of_ble_eq_true rfl)
  rw [lg_entry_eq]
  generalize (lg_sl ([.ref h0, .int v]) ++ List.replicate (2 - (lg_sl ([.ref h0, .int v])).length) Slot.unset).toArray = ls at hl ⊢
  have hl : lv_has ls 2 [(0, .ref h0), (1, .int v)] := hl
  refine lv_aload_n hx hb d_mPictures_four_0 rfl (lv_at hl 0 rfl) ?_
  refine lv_aload_n hx hb d_mPictures_four_1 rfl (lv_at hl 0 rfl) ?_
  refine va_get (D := (dC, dI)) (ci := 16) (v := .int 73) (C := R_mPictures) (T := F_mPictures) (N := 30) hx hb hwd i_mPictures hown hK hP 0 rfl rfl 5 (by decide) (hwd _ wd_10_165) (fun _ h9 => h9) rfl d_mPictures_four_2 ?_
  refine lv_bipush (v := 77) hx hb d_mPictures_four_5 (by decide) ?_
  refine lv_icmp_ne (tgt := 17) hx hb d_mPictures_four_7 (by decide) (fun _ => ?_) (fun c7 => absurd c7 (by decide))
  refine lv_iload_n hx hb d_mPictures_four_17 rfl (lv_at hl 1 rfl) ?_
  have hPc := hP.sub (ws' := [(h0, .inr (16, [.int f_thrown, .ref f_file, .int (nI n), .int f_making, .int f_open, .int 73, .int f_made, .int f_link, .int f_width, .int f_height, .int f_rows, .int f_across, .int f_down, .int f_strips, .int f_done, .int f_from, .int f_length, .ref f_places, .ref f_lengths, .int f_wasOrder, .int f_pages, .ref f_numbers, .ref f_firstStrip, .ref f_stripPlace, .ref f_stripLength, .int f_fault, .int f_faultPage, .int f_faultTag, .int f_faultStrip, .ref f_entry])), (f_file, .inl (c1, 65536, .inl ff))]) [0, 1] rfl
  have hDc := hD.sub (ws' := [(h0, .inr (16, [.int f_thrown, .ref f_file, .int (nI n), .int f_making, .int f_open, .int 73, .int f_made, .int f_link, .int f_width, .int f_height, .int f_rows, .int f_across, .int f_down, .int f_strips, .int f_done, .int f_from, .int f_length, .ref f_places, .ref f_lengths, .int f_wasOrder, .int f_pages, .ref f_numbers, .ref f_firstStrip, .ref f_stripPlace, .ref f_stripLength, .int f_fault, .int f_faultPage, .int f_faultTag, .int f_faultStrip, .ref f_entry])), (f_file, .inl (c1, 65536, .inl ff))]) [0, 1] (by decide) rfl
  have hKc := hK.sub (tys' := [(c1, .byte)]) [0] rfl
  have hFc := va_free (wc := [(h0, .inr (16, [.int f_thrown, .ref f_file, .int (nI n), .int f_making, .int f_open, .int 73, .int f_made, .int f_link, .int f_width, .int f_height, .int f_rows, .int f_across, .int f_down, .int f_strips, .int f_done, .int f_from, .int f_length, .ref f_places, .ref f_lengths, .int f_wasOrder, .int f_pages, .ref f_numbers, .ref f_firstStrip, .ref f_stripPlace, .ref f_stripLength, .int f_fault, .int f_faultPage, .int f_faultTag, .int f_faultStrip, .ref f_entry])), (f_file, .inl (c1, 65536, .inl ff))]) hD hS hA [0, 1] rfl
  refine va_callv (va_runV (As := [.int v]) (rest := []) ⟨hx, hb, hml, hown, hwd⟩ (c_Pictures_two l dC dI tt h0 f_thrown f_file f_making f_open f_made f_link f_width f_height f_rows f_across f_down f_strips f_done f_from f_length f_places f_lengths f_wasOrder f_pages f_numbers f_firstStrip f_stripPlace f_stripLength f_fault f_faultPage f_faultTag f_faultStrip f_entry n c1 ff v s.heap.size (by omega)) (cwV 1 hwd (gV gd_mPictures_two wd_11_130 wd_11_132 ws_125 wd_1_21) rfl rfl rfl (by decide +kernel) ⟨Nat.le_of_ble_eq_true rfl, Nat.le_of_ble_eq_true rfl⟩) ⟨fun a U g mk q => by obtain ⟨q0, q1, qP, qK, qD, qF⟩ := q; exact ⟨q0, q1, qP, va_K.moved (u := U) (U := U.calling g mk a) (Vm.Alike.refl U.vm) qK, qD, SF.same (u := U) (U := U.calling g mk a) rfl qF⟩, va_recv hKc hPc (ci := 16) (q0 := 0) rfl rfl, fun U hU hW => ⟨rfl, by rw [hU], by rw [hU]; exact hPc, va_K.moved hW.alike hKc, hDc.weaken (fun _ _ _ _ => trivial), by rw [hU]; exact SF.narrow (SF.moved hW (SF.kept hF (fun a h1 h2 => hS.2.1 a h1 h2))) hFc⟩⟩ rfl rfl hl.1 rfl (lv_room (Nat.le_of_ble_eq_true rfl)) d_mPictures_four_18 ⟨Nat.le_of_ble_eq_true rfl, Nat.le_of_ble_eq_true rfl⟩) hS (fun q _ h => hFc q h) hFc ?_
  clear hPc hDc hKc hS
  intro u_2 t H1 locs ht hvm hw hB hz1 hk1 hS
  obtain ⟨hP1, hK1, hD1⟩ := hB
  rw [ht] at hP1
  have hK1 := va_K.moved hvm.symm hK1
  try dsimp only at hw
  have hJ := va_join (wr := []) (w1 := [(h0, .inr (16, [.int f_thrown, .ref f_file, .int (nI ((n + 1) + 1)), .int f_making, .int f_open, .int 73, .int f_made, .int f_link, .int f_width, .int f_height, .int f_rows, .int f_across, .int f_down, .int f_strips, .int f_done, .int f_from, .int f_length, .ref f_places, .ref f_lengths, .int f_wasOrder, .int f_pages, .ref f_numbers, .ref f_firstStrip, .ref f_stripPlace, .ref f_stripLength, .int f_fault, .int f_faultPage, .int f_faultTag, .int f_faultStrip, .ref f_entry])), (f_file, .inl (c1, 65536, .inl (upd (upd ff n v.toInt8.toInt32) (n + 1) (v >>> (8 &&& 31)).toInt8.toInt32)))]) hP hD [0, 1] [] rfl rfl (by decide) (by decide) hk1 hFc hP1 hD1
  clear hP hD hk1 hFc hP1 hD1 hz1
  obtain ⟨hP, hD⟩ := hJ
  clear hK1 ht hvm
  generalize H1 = H at hP hS ⊢
  replace hP : va_P (dC, dI) vcl [(h0, .inr (16, [.int f_thrown, .ref f_file, .int (nI ((n + 1) + 1)), .int f_making, .int f_open, .int 73, .int f_made, .int f_link, .int f_width, .int f_height, .int f_rows, .int f_across, .int f_down, .int f_strips, .int f_done, .int f_from, .int f_length, .ref f_places, .ref f_lengths, .int f_wasOrder, .int f_pages, .ref f_numbers, .ref f_firstStrip, .ref f_stripPlace, .ref f_stripLength, .int f_fault, .int f_faultPage, .int f_faultTag, .int f_faultStrip, .ref f_entry])), (f_file, .inl (c1, 65536, .inl (upd (upd ff n v.toInt8.toInt32) (n + 1) (v >>> (8 &&& 31)).toInt8.toInt32)))] H := hP
  replace hD : va_D A [(h0, .inr (16, [.int f_thrown, .ref f_file, .int (nI ((n + 1) + 1)), .int f_making, .int f_open, .int 73, .int f_made, .int f_link, .int f_width, .int f_height, .int f_rows, .int f_across, .int f_down, .int f_strips, .int f_done, .int f_from, .int f_length, .ref f_places, .ref f_lengths, .int f_wasOrder, .int f_pages, .ref f_numbers, .ref f_firstStrip, .ref f_stripPlace, .ref f_stripLength, .int f_fault, .int f_faultPage, .int f_faultTag, .int f_faultStrip, .ref f_entry])), (f_file, .inl (c1, 65536, .inl (upd (upd ff n v.toInt8.toInt32) (n + 1) (v >>> (8 &&& 31)).toInt8.toInt32)))] := hD
  refine lv_aload_n hx hb d_mPictures_four_21 rfl (lv_at hl 0 rfl) ?_
  refine lv_aload_n hx hb d_mPictures_four_22 rfl (lv_at hl 0 rfl) ?_
  refine va_get (D := (dC, dI)) (ci := 16) (v := .int 73) (C := R_mPictures) (T := F_mPictures) (N := 30) hx hb hwd i_mPictures hown hK hP 0 rfl rfl 5 (by decide) (hwd _ wd_10_165) (fun _ h9 => h9) rfl d_mPictures_four_23 ?_
  refine lv_bipush (v := 77) hx hb d_mPictures_four_26 (by decide) ?_
  refine lv_icmp_ne (tgt := 35) hx hb d_mPictures_four_28 (by decide) (fun _ => ?_) (fun c28 => absurd c28 (by decide))
  refine lv_iload_n hx hb d_mPictures_four_35 rfl (lv_at hl 1 rfl) ?_
  refine lv_bipush (v := 16) hx hb d_mPictures_four_36 (by decide) ?_
  refine lv_ishr hx hb d_mPictures_four_38 ?_
  have hPc := hP.sub (ws' := [(h0, .inr (16, [.int f_thrown, .ref f_file, .int (nI ((n + 1) + 1)), .int f_making, .int f_open, .int 73, .int f_made, .int f_link, .int f_width, .int f_height, .int f_rows, .int f_across, .int f_down, .int f_strips, .int f_done, .int f_from, .int f_length, .ref f_places, .ref f_lengths, .int f_wasOrder, .int f_pages, .ref f_numbers, .ref f_firstStrip, .ref f_stripPlace, .ref f_stripLength, .int f_fault, .int f_faultPage, .int f_faultTag, .int f_faultStrip, .ref f_entry])), (f_file, .inl (c1, 65536, .inl (upd (upd ff n v.toInt8.toInt32) (n + 1) (v >>> (8 &&& 31)).toInt8.toInt32)))]) [0, 1] rfl
  have hDc := hD.sub (ws' := [(h0, .inr (16, [.int f_thrown, .ref f_file, .int (nI ((n + 1) + 1)), .int f_making, .int f_open, .int 73, .int f_made, .int f_link, .int f_width, .int f_height, .int f_rows, .int f_across, .int f_down, .int f_strips, .int f_done, .int f_from, .int f_length, .ref f_places, .ref f_lengths, .int f_wasOrder, .int f_pages, .ref f_numbers, .ref f_firstStrip, .ref f_stripPlace, .ref f_stripLength, .int f_fault, .int f_faultPage, .int f_faultTag, .int f_faultStrip, .ref f_entry])), (f_file, .inl (c1, 65536, .inl (upd (upd ff n v.toInt8.toInt32) (n + 1) (v >>> (8 &&& 31)).toInt8.toInt32)))]) [0, 1] (by decide) rfl
  have hKc := hK.sub (tys' := [(c1, .byte)]) [0] rfl
  have hFc := va_free (wc := [(h0, .inr (16, [.int f_thrown, .ref f_file, .int (nI ((n + 1) + 1)), .int f_making, .int f_open, .int 73, .int f_made, .int f_link, .int f_width, .int f_height, .int f_rows, .int f_across, .int f_down, .int f_strips, .int f_done, .int f_from, .int f_length, .ref f_places, .ref f_lengths, .int f_wasOrder, .int f_pages, .ref f_numbers, .ref f_firstStrip, .ref f_stripPlace, .ref f_stripLength, .int f_fault, .int f_faultPage, .int f_faultTag, .int f_faultStrip, .ref f_entry])), (f_file, .inl (c1, 65536, .inl (upd (upd ff n v.toInt8.toInt32) (n + 1) (v >>> (8 &&& 31)).toInt8.toInt32)))]) hD hS hA [0, 1] rfl
  refine va_callv (va_runV (As := [.int (v >>> (16 &&& 31))]) (rest := []) ⟨hx, hb, hml, hown, hwd⟩ (c_Pictures_two l dC dI tt h0 f_thrown f_file f_making f_open f_made f_link f_width f_height f_rows f_across f_down f_strips f_done f_from f_length f_places f_lengths f_wasOrder f_pages f_numbers f_firstStrip f_stripPlace f_stripLength f_fault f_faultPage f_faultTag f_faultStrip f_entry ((n + 1) + 1) c1 (upd (upd ff n v.toInt8.toInt32) (n + 1) (v >>> (8 &&& 31)).toInt8.toInt32) (v >>> (16 &&& 31)) H.size (by omega)) (cwV 1 hwd (gV gd_mPictures_two wd_11_130 wd_11_132 ws_125 wd_1_21) rfl rfl rfl (by decide +kernel) ⟨Nat.le_of_ble_eq_true rfl, Nat.le_of_ble_eq_true rfl⟩) ⟨fun a U g mk q => by obtain ⟨q0, q1, qP, qK, qD, qF⟩ := q; exact ⟨q0, q1, qP, va_K.moved (u := U) (U := U.calling g mk a) (Vm.Alike.refl U.vm) qK, qD, SF.same (u := U) (U := U.calling g mk a) rfl qF⟩, va_recv hKc hPc (ci := 16) (q0 := 0) rfl rfl, fun U hU hW => ⟨rfl, by rw [hU], by rw [hU]; exact hPc, va_K.moved hW.alike hKc, hDc.weaken (fun _ _ _ _ => trivial), by rw [hU]; exact SF.narrow (SF.moved hW (SF.kept hF (fun a h1 h2 => hS.2.1 a h1 h2))) hFc⟩⟩ rfl rfl hl.1 rfl (lv_room (Nat.le_of_ble_eq_true rfl)) d_mPictures_four_39 ⟨Nat.le_of_ble_eq_true rfl, Nat.le_of_ble_eq_true rfl⟩) hS (fun q _ h => hFc q h) hFc ?_
  clear hPc hDc hKc hS
  intro u_4 t H1 locs ht hvm hw hB hz1 hk1 hS
  obtain ⟨hP1, hK1, hD1⟩ := hB
  rw [ht] at hP1
  have hK1 := va_K.moved hvm.symm hK1
  try dsimp only at hw
  have hJ := va_join (wr := []) (w1 := [(h0, .inr (16, [.int f_thrown, .ref f_file, .int (nI ((((n + 1) + 1) + 1) + 1)), .int f_making, .int f_open, .int 73, .int f_made, .int f_link, .int f_width, .int f_height, .int f_rows, .int f_across, .int f_down, .int f_strips, .int f_done, .int f_from, .int f_length, .ref f_places, .ref f_lengths, .int f_wasOrder, .int f_pages, .ref f_numbers, .ref f_firstStrip, .ref f_stripPlace, .ref f_stripLength, .int f_fault, .int f_faultPage, .int f_faultTag, .int f_faultStrip, .ref f_entry])), (f_file, .inl (c1, 65536, .inl (upd (upd (upd (upd ff n v.toInt8.toInt32) (n + 1) (v >>> (8 &&& 31)).toInt8.toInt32) ((n + 1) + 1) (v >>> (16 &&& 31)).toInt8.toInt32) (((n + 1) + 1) + 1) ((v >>> (16 &&& 31)) >>> (8 &&& 31)).toInt8.toInt32)))]) hP hD [0, 1] [] rfl rfl (by decide) (by decide) hk1 hFc hP1 hD1
  clear hP hD hk1 hFc hP1 hD1 hz1
  obtain ⟨hP, hD⟩ := hJ
  clear hK1 ht hvm
  generalize H1 = H at hP hS ⊢
  replace hP : va_P (dC, dI) vcl [(h0, .inr (16, [.int f_thrown, .ref f_file, .int (nI ((((n + 1) + 1) + 1) + 1)), .int f_making, .int f_open, .int 73, .int f_made, .int f_link, .int f_width, .int f_height, .int f_rows, .int f_across, .int f_down, .int f_strips, .int f_done, .int f_from, .int f_length, .ref f_places, .ref f_lengths, .int f_wasOrder, .int f_pages, .ref f_numbers, .ref f_firstStrip, .ref f_stripPlace, .ref f_stripLength, .int f_fault, .int f_faultPage, .int f_faultTag, .int f_faultStrip, .ref f_entry])), (f_file, .inl (c1, 65536, .inl (upd (upd (upd (upd ff n v.toInt8.toInt32) (n + 1) (v >>> (8 &&& 31)).toInt8.toInt32) ((n + 1) + 1) (v >>> (16 &&& 31)).toInt8.toInt32) (((n + 1) + 1) + 1) ((v >>> (16 &&& 31)) >>> (8 &&& 31)).toInt8.toInt32)))] H := hP
  replace hD : va_D A [(h0, .inr (16, [.int f_thrown, .ref f_file, .int (nI ((((n + 1) + 1) + 1) + 1)), .int f_making, .int f_open, .int 73, .int f_made, .int f_link, .int f_width, .int f_height, .int f_rows, .int f_across, .int f_down, .int f_strips, .int f_done, .int f_from, .int f_length, .ref f_places, .ref f_lengths, .int f_wasOrder, .int f_pages, .ref f_numbers, .ref f_firstStrip, .ref f_stripPlace, .ref f_stripLength, .int f_fault, .int f_faultPage, .int f_faultTag, .int f_faultStrip, .ref f_entry])), (f_file, .inl (c1, 65536, .inl (upd (upd (upd (upd ff n v.toInt8.toInt32) (n + 1) (v >>> (8 &&& 31)).toInt8.toInt32) ((n + 1) + 1) (v >>> (16 &&& 31)).toInt8.toInt32) (((n + 1) + 1) + 1) ((v >>> (16 &&& 31)) >>> (8 &&& 31)).toInt8.toInt32)))] := hD
  have hP9 := hP.sub (ws' := [(h0, .inr (16, [.int f_thrown, .ref f_file, .int (nI ((((n + 1) + 1) + 1) + 1)), .int f_making, .int f_open, .int 73, .int f_made, .int f_link, .int f_width, .int f_height, .int f_rows, .int f_across, .int f_down, .int f_strips, .int f_done, .int f_from, .int f_length, .ref f_places, .ref f_lengths, .int f_wasOrder, .int f_pages, .ref f_numbers, .ref f_firstStrip, .ref f_stripPlace, .ref f_stripLength, .int f_fault, .int f_faultPage, .int f_faultTag, .int f_faultStrip, .ref f_entry])), (f_file, .inl (c1, 65536, .inl (upd (upd (upd (upd ff n v.toInt8.toInt32) (n + 1) (v >>> (8 &&& 31)).toInt8.toInt32) ((n + 1) + 1) (v >>> (16 &&& 31)).toInt8.toInt32) (((n + 1) + 1) + 1) ((v >>> (16 &&& 31)) >>> (8 &&& 31)).toInt8.toInt32)))]) [0, 1] rfl
  have hD9 := hD.sub (ws' := [(h0, .inr (16, [.int f_thrown, .ref f_file, .int (nI ((((n + 1) + 1) + 1) + 1)), .int f_making, .int f_open, .int 73, .int f_made, .int f_link, .int f_width, .int f_height, .int f_rows, .int f_across, .int f_down, .int f_strips, .int f_done, .int f_from, .int f_length, .ref f_places, .ref f_lengths, .int f_wasOrder, .int f_pages, .ref f_numbers, .ref f_firstStrip, .ref f_stripPlace, .ref f_stripLength, .int f_fault, .int f_faultPage, .int f_faultTag, .int f_faultStrip, .ref f_entry])), (f_file, .inl (c1, 65536, .inl (upd (upd (upd (upd ff n v.toInt8.toInt32) (n + 1) (v >>> (8 &&& 31)).toInt8.toInt32) ((n + 1) + 1) (v >>> (16 &&& 31)).toInt8.toInt32) (((n + 1) + 1) + 1) ((v >>> (16 &&& 31)) >>> (8 &&& 31)).toInt8.toInt32)))]) [0, 1] (by decide) rfl
  have hK9 := hK.sub (tys' := [(c1, .byte)]) [0] rfl
  exact W.vret hx hb hr (fun t ht hW => ⟨⟨(), rfl, (trivial), by rw [ht]; exact hP9, va_K.moved hW.alike hK9, hD9⟩, hS.F ht⟩) hS.2.2 d_mPictures_four_42

abbrev at_c_Pictures_begin (dC : Nat → ClassId) (dI : Nat → Nat → Nat) (h0 : Nat) (f_thrown : Int32) (f_file : Nat) (f_size : Int32) (f_making : Int32) (f_open : Int32) (f_order : Int32) (f_made : Int32) (f_link : Int32) (f_width : Int32) (f_height : Int32) (f_rows : Int32) (f_across : Int32) (f_down : Int32) (f_strips : Int32) (f_done : Int32) (f_from : Int32) (f_length : Int32) (f_places : Nat) (f_lengths : Nat) (f_wasOrder : Int32) (f_pages : Int32) (f_numbers : Nat) (f_firstStrip : Nat) (f_stripPlace : Nat) (f_stripLength : Nat) (f_fault : Int32) (f_faultPage : Int32) (f_faultTag : Int32) (f_faultStrip : Int32) (f_entry : Nat) (c1 : ClassId) (ff : Nat → Int32) (A : Nat → Prop) (u : Unit) (t : State) : Prop := match u with
  | _ => va_P (dC, dI) vcl [(h0, .inr (16, [.int 0, .ref f_file, .int (nI 8), .int 1, .int 0, .int 73, .int 0, .int 4, .int f_width, .int f_height, .int f_rows, .int f_across, .int f_down, .int f_strips, .int f_done, .int f_from, .int f_length, .ref f_places, .ref f_lengths, .int f_wasOrder, .int f_pages, .ref f_numbers, .ref f_firstStrip, .ref f_stripPlace, .ref f_stripLength, .int f_fault, .int f_faultPage, .int f_faultTag, .int f_faultStrip, .ref f_entry])), (f_file, .inl (c1, 65536, .inl (upd (upd (upd (upd (upd (upd (upd (upd ff 0 (73 : Int32).toInt8.toInt32) 1 (73 : Int32).toInt8.toInt32) 2 (42 : Int32).toInt8.toInt32) 3 ((42 : Int32) >>> (8 &&& 31)).toInt8.toInt32) 4 (0 : Int32).toInt8.toInt32) 5 ((0 : Int32) >>> (8 &&& 31)).toInt8.toInt32) 6 ((0 : Int32) >>> (16 &&& 31)).toInt8.toInt32) 7 (((0 : Int32) >>> (16 &&& 31)) >>> (8 &&& 31)).toInt8.toInt32)))] t.heap ∧ va_K (dC, dI) vcl [(c1, .byte)] t ∧ va_D A [(h0, .inr (16, [.int 0, .ref f_file, .int (nI 8), .int 1, .int 0, .int 73, .int 0, .int 4, .int f_width, .int f_height, .int f_rows, .int f_across, .int f_down, .int f_strips, .int f_done, .int f_from, .int f_length, .ref f_places, .ref f_lengths, .int f_wasOrder, .int f_pages, .ref f_numbers, .ref f_firstStrip, .ref f_stripPlace, .ref f_stripLength, .int f_fault, .int f_faultPage, .int f_faultTag, .int f_faultStrip, .ref f_entry])), (f_file, .inl (c1, 65536, .inl (upd (upd (upd (upd (upd (upd (upd (upd ff 0 (73 : Int32).toInt8.toInt32) 1 (73 : Int32).toInt8.toInt32) 2 (42 : Int32).toInt8.toInt32) 3 ((42 : Int32) >>> (8 &&& 31)).toInt8.toInt32) 4 (0 : Int32).toInt8.toInt32) 5 ((0 : Int32) >>> (8 &&& 31)).toInt8.toInt32) 6 ((0 : Int32) >>> (16 &&& 31)).toInt8.toInt32) 7 (((0 : Int32) >>> (16 &&& 31)) >>> (8 &&& 31)).toInt8.toInt32)))]
abbrev po_c_Pictures_begin (h0 : Nat) (f_thrown : Int32) (f_file : Nat) (f_size : Int32) (f_making : Int32) (f_open : Int32) (f_order : Int32) (f_made : Int32) (f_link : Int32) (f_width : Int32) (f_height : Int32) (f_rows : Int32) (f_across : Int32) (f_down : Int32) (f_strips : Int32) (f_done : Int32) (f_from : Int32) (f_length : Int32) (f_places : Nat) (f_lengths : Nat) (f_wasOrder : Int32) (f_pages : Int32) (f_numbers : Nat) (f_firstStrip : Nat) (f_stripPlace : Nat) (f_stripLength : Nat) (f_fault : Int32) (f_faultPage : Int32) (f_faultTag : Int32) (f_faultStrip : Int32) (f_entry : Nat) (c1 : ClassId) (ff : Nat → Int32) (u : Unit) : Prop := match u with
  | _ => True
abbrev q_c_Pictures_begin (dC : Nat → ClassId) (dI : Nat → Nat → Nat) (h0 : Nat) (f_thrown : Int32) (f_file : Nat) (f_size : Int32) (f_making : Int32) (f_open : Int32) (f_order : Int32) (f_made : Int32) (f_link : Int32) (f_width : Int32) (f_height : Int32) (f_rows : Int32) (f_across : Int32) (f_down : Int32) (f_strips : Int32) (f_done : Int32) (f_from : Int32) (f_length : Int32) (f_places : Nat) (f_lengths : Nat) (f_wasOrder : Int32) (f_pages : Int32) (f_numbers : Nat) (f_firstStrip : Nat) (f_stripPlace : Nat) (f_stripLength : Nat) (f_fault : Int32) (f_faultPage : Int32) (f_faultTag : Int32) (f_faultStrip : Int32) (f_entry : Nat) (c1 : ClassId) (ff : Nat → Int32) (A : Nat → Prop) : Array Value → State → Outcome → State → Prop := va_Qv (po_c_Pictures_begin h0 f_thrown f_file f_size f_making f_open f_order f_made f_link f_width f_height f_rows f_across f_down f_strips f_done f_from f_length f_places f_lengths f_wasOrder f_pages f_numbers f_firstStrip f_stripPlace f_stripLength f_fault f_faultPage f_faultTag f_faultStrip f_entry c1 ff) (at_c_Pictures_begin dC dI h0 f_thrown f_file f_size f_making f_open f_order f_made f_link f_width f_height f_rows f_across f_down f_strips f_done f_from f_length f_places f_lengths f_wasOrder f_pages f_numbers f_firstStrip f_stripPlace f_stripLength f_fault f_faultPage f_faultTag f_faultStrip f_entry c1 ff A) A
abbrev rm_c_Pictures_begin : Room := { frames := 3, cells := 0, slots := 0, locals := 63 }
set_option maxHeartbeats 4000000 in
set_option maxRecDepth 100000 in
theorem c_Pictures_begin (l : Launch) (dC : Nat → ClassId) (dI : Nat → Nat → Nat) (tt : Nat → Nat) (h0 : Nat) (f_thrown : Int32) (f_file : Nat) (f_size : Int32) (f_making : Int32) (f_open : Int32) (f_order : Int32) (f_made : Int32) (f_link : Int32) (f_width : Int32) (f_height : Int32) (f_rows : Int32) (f_across : Int32) (f_down : Int32) (f_strips : Int32) (f_done : Int32) (f_from : Int32) (f_length : Int32) (f_places : Nat) (f_lengths : Nat) (f_wasOrder : Int32) (f_pages : Int32) (f_numbers : Nat) (f_firstStrip : Nat) (f_stripPlace : Nat) (f_stripLength : Nat) (f_fault : Int32) (f_faultPage : Int32) (f_faultTag : Int32) (f_faultStrip : Int32) (f_entry : Nat) (c1 : ClassId) (ff : Nat → Int32) (sz : Nat)  : Met l y_mPictures_begin w_mPictures_begin rm_c_Pictures_begin (va_Pc [.ref h0, .int 73] (fun U => U.heap.size = sz ∧ va_P (dC, dI) vcl [(h0, .inr (16, [.int f_thrown, .ref f_file, .int f_size, .int f_making, .int f_open, .int f_order, .int f_made, .int f_link, .int f_width, .int f_height, .int f_rows, .int f_across, .int f_down, .int f_strips, .int f_done, .int f_from, .int f_length, .ref f_places, .ref f_lengths, .int f_wasOrder, .int f_pages, .ref f_numbers, .ref f_firstStrip, .ref f_stripPlace, .ref f_stripLength, .int f_fault, .int f_faultPage, .int f_faultTag, .int f_faultStrip, .ref f_entry])), (f_file, .inl (c1, 65536, .inl ff))] U.heap ∧ va_K (dC, dI) vcl [(c1, .byte)] U ∧ va_D (fun _ => True) [(h0, .inr (16, [.int f_thrown, .ref f_file, .int f_size, .int f_making, .int f_open, .int f_order, .int f_made, .int f_link, .int f_width, .int f_height, .int f_rows, .int f_across, .int f_down, .int f_strips, .int f_done, .int f_from, .int f_length, .ref f_places, .ref f_lengths, .int f_wasOrder, .int f_pages, .ref f_numbers, .ref f_firstStrip, .ref f_stripPlace, .ref f_stripLength, .int f_fault, .int f_faultPage, .int f_faultTag, .int f_faultStrip, .ref f_entry])), (f_file, .inl (c1, 65536, .inl ff))] ∧ SF tt (va_A [(h0, .inr (16, [.int f_thrown, .ref f_file, .int f_size, .int f_making, .int f_open, .int f_order, .int f_made, .int f_link, .int f_width, .int f_height, .int f_rows, .int f_across, .int f_down, .int f_strips, .int f_done, .int f_from, .int f_length, .ref f_places, .ref f_lengths, .int f_wasOrder, .int f_pages, .ref f_numbers, .ref f_firstStrip, .ref f_stripPlace, .ref f_stripLength, .int f_fault, .int f_faultPage, .int f_faultTag, .int f_faultStrip, .ref f_entry])), (f_file, .inl (c1, 65536, .inl ff))] sz) U U.heap)) (q_c_Pictures_begin dC dI h0 f_thrown f_file f_size f_making f_open f_order f_made f_link f_width f_height f_rows f_across f_down f_strips f_done f_from f_length f_places f_lengths f_wasOrder f_pages f_numbers f_firstStrip f_stripPlace f_stripLength f_fault f_faultPage f_faultTag f_faultStrip f_entry c1 ff (va_A [(h0, .inr (16, [.int f_thrown, .ref f_file, .int f_size, .int f_making, .int f_open, .int f_order, .int f_made, .int f_link, .int f_width, .int f_height, .int f_rows, .int f_across, .int f_down, .int f_strips, .int f_done, .int f_from, .int f_length, .ref f_places, .ref f_lengths, .int f_wasOrder, .int f_pages, .ref f_numbers, .ref f_firstStrip, .ref f_stripPlace, .ref f_stripLength, .int f_fault, .int f_faultPage, .int f_faultTag, .int f_faultStrip, .ref f_entry])), (f_file, .inl (c1, 65536, .inl ff))] sz)) 0 0 (va_A [(h0, .inr (16, [.int f_thrown, .ref f_file, .int f_size, .int f_making, .int f_open, .int f_order, .int f_made, .int f_link, .int f_width, .int f_height, .int f_rows, .int f_across, .int f_down, .int f_strips, .int f_done, .int f_from, .int f_length, .ref f_places, .ref f_lengths, .int f_wasOrder, .int f_pages, .ref f_numbers, .ref f_firstStrip, .ref f_stripPlace, .ref f_stripLength, .int f_fault, .int f_faultPage, .int f_faultTag, .int f_faultStrip, .ref f_entry])), (f_file, .inl (c1, 65536, .inl ff))] sz) := by
  refine Met.ofW (cc := b_mPictures_begin) (maxL := 2) (ret := none) (by decide) rfl ?_
  intro p e s m args below meth c s₁ B hml hv
  obtain ⟨rfl, hsz, hP, hK, hD0, hF⟩ := hv
  have hx := B.exec
  have hb := B.bytes
  have hr := B.returns
  have hwd : ∀ w ∈ gT, w.before _ s = true := fun w h => atoms_spec (ws := w_mPictures_begin) B.pre w (List.mem_cons_of_mem _ h)
  have hown : s.vm.findClass R_mPictures = some m.cls := findClass_of_methodNamed B.named
  have hlocks := B.notSynchronized
  subst hsz
  have hD := hD0.self (sz := s.heap.size)
  generalize hAe : va_A [(h0, .inr (16, [.int f_thrown, .ref f_file, .int f_size, .int f_making, .int f_open, .int f_order, .int f_made, .int f_link, .int f_width, .int f_height, .int f_rows, .int f_across, .int f_down, .int f_strips, .int f_done, .int f_from, .int f_length, .ref f_places, .ref f_lengths, .int f_wasOrder, .int f_pages, .ref f_numbers, .ref f_firstStrip, .ref f_stripPlace, .ref f_stripLength, .int f_fault, .int f_faultPage, .int f_faultTag, .int f_faultStrip, .ref f_entry])), (f_file, .inl (c1, 65536, .inl ff))] s.heap.size = A at hD hF ⊢
  have hA : ∀ q : Nat, s.heap.size ≤ q → A q := fun q h => by rw [← hAe]; exact Or.inr h
  have hS : va_S A s.heap s.heap [] := va_S.rf
  have hP : va_P (dC, dI) vcl [(h0, .inr (16, [.int f_thrown, .ref f_file, .int f_size, .int f_making, .int f_open, .int f_order, .int f_made, .int f_link, .int f_width, .int f_height, .int f_rows, .int f_across, .int f_down, .int f_strips, .int f_done, .int f_from, .int f_length, .ref f_places, .ref f_lengths, .int f_wasOrder, .int f_pages, .ref f_numbers, .ref f_firstStrip, .ref f_stripPlace, .ref f_stripLength, .int f_fault, .int f_faultPage, .int f_faultTag, .int f_faultStrip, .ref f_entry])), (f_file, .inl (c1, 65536, .inl ff))] s.heap := hP
  have hl := lv_entry ([.ref h0, .int 73]) (n := 2) (Nat.le_of_ble_eq_true rfl)
  rw [lg_entry_eq]
  generalize (lg_sl ([.ref h0, .int 73]) ++ List.replicate (2 - (lg_sl ([.ref h0, .int 73])).length) Slot.unset).toArray = ls at hl ⊢
  have hl : lv_has ls 2 [(0, .ref h0), (1, .int 73)] := hl
  refine lv_aload_n hx hb d_mPictures_begin_0 rfl (lv_at hl 0 rfl) ?_
  refine lv_iload_n hx hb d_mPictures_begin_1 rfl (lv_at hl 1 rfl) ?_
  refine lv_bipush (v := 73) hx hb d_mPictures_begin_2 (by decide) ?_
  refine lv_icmp_eq (tgt := 13) hx hb d_mPictures_begin_4 (by decide) (fun _ => ?_) (fun c4 => absurd (by decide) c4)
  refine lv_iconst (v := 0) hx hb d_mPictures_begin_13 (by decide) ?_
  refine lv_goto (tgt := 18) hx hb d_mPictures_begin_14 (by decide) ?_
  refine va_put (D := (dC, dI)) (ci := 16) (v := .int 0) (ty := .int) (C := R_mPictures) (T := F_mPictures) (N := 30) hx hb hwd i_mPictures t_mPictures to_mPictures no_mPictures hown hK hP hD hS 0 rfl rfl 0 (by decide) (hwd _ wd_10_158) (fun _ h9 => h9) rfl (by decide +kernel) rfl rfl (Nat.le_of_ble_eq_true rfl) d_mPictures_begin_18 ?_
  clear hP hD hS
  intro H locs hP hD hS
  replace hP : va_P (dC, dI) vcl [(h0, .inr (16, [.int 0, .ref f_file, .int f_size, .int f_making, .int f_open, .int f_order, .int f_made, .int f_link, .int f_width, .int f_height, .int f_rows, .int f_across, .int f_down, .int f_strips, .int f_done, .int f_from, .int f_length, .ref f_places, .ref f_lengths, .int f_wasOrder, .int f_pages, .ref f_numbers, .ref f_firstStrip, .ref f_stripPlace, .ref f_stripLength, .int f_fault, .int f_faultPage, .int f_faultTag, .int f_faultStrip, .ref f_entry])), (f_file, .inl (c1, 65536, .inl ff))] H := hP
  replace hD : va_D A [(h0, .inr (16, [.int 0, .ref f_file, .int f_size, .int f_making, .int f_open, .int f_order, .int f_made, .int f_link, .int f_width, .int f_height, .int f_rows, .int f_across, .int f_down, .int f_strips, .int f_done, .int f_from, .int f_length, .ref f_places, .ref f_lengths, .int f_wasOrder, .int f_pages, .ref f_numbers, .ref f_firstStrip, .ref f_stripPlace, .ref f_stripLength, .int f_fault, .int f_faultPage, .int f_faultTag, .int f_faultStrip, .ref f_entry])), (f_file, .inl (c1, 65536, .inl ff))] := hD
  refine lv_aload_n hx hb d_mPictures_begin_21 rfl (lv_at hl 0 rfl) ?_
  refine va_get (D := (dC, dI)) (ci := 16) (v := .int 0) (C := R_mPictures) (T := F_mPictures) (N := 30) hx hb hwd i_mPictures hown hK hP 0 rfl rfl 0 (by decide) (hwd _ wd_10_158) (fun _ h9 => h9) rfl d_mPictures_begin_22 ?_
  refine lv_if_le (tgt := 29) hx hb d_mPictures_begin_25 (by decide) (fun _ => ?_) (fun c25 => absurd (by decide) c25)
  refine lv_aload_n hx hb d_mPictures_begin_29 rfl (lv_at hl 0 rfl) ?_
  refine lv_iconst (v := 0) hx hb d_mPictures_begin_30 (by decide) ?_
  refine va_put (D := (dC, dI)) (ci := 16) (v := .int 0) (ty := .int) (C := R_mPictures) (T := F_mPictures) (N := 30) hx hb hwd i_mPictures t_mPictures to_mPictures no_mPictures hown hK hP hD hS 0 rfl rfl 2 (by decide) (hwd _ wd_10_161) (fun _ h9 => h9) rfl (by decide +kernel) rfl rfl (Nat.le_of_ble_eq_true rfl) d_mPictures_begin_31 ?_
  clear hP hD hS
  intro H locs hP hD hS
  replace hP : va_P (dC, dI) vcl [(h0, .inr (16, [.int 0, .ref f_file, .int 0, .int f_making, .int f_open, .int f_order, .int f_made, .int f_link, .int f_width, .int f_height, .int f_rows, .int f_across, .int f_down, .int f_strips, .int f_done, .int f_from, .int f_length, .ref f_places, .ref f_lengths, .int f_wasOrder, .int f_pages, .ref f_numbers, .ref f_firstStrip, .ref f_stripPlace, .ref f_stripLength, .int f_fault, .int f_faultPage, .int f_faultTag, .int f_faultStrip, .ref f_entry])), (f_file, .inl (c1, 65536, .inl ff))] H := hP
  replace hD : va_D A [(h0, .inr (16, [.int 0, .ref f_file, .int 0, .int f_making, .int f_open, .int f_order, .int f_made, .int f_link, .int f_width, .int f_height, .int f_rows, .int f_across, .int f_down, .int f_strips, .int f_done, .int f_from, .int f_length, .ref f_places, .ref f_lengths, .int f_wasOrder, .int f_pages, .ref f_numbers, .ref f_firstStrip, .ref f_stripPlace, .ref f_stripLength, .int f_fault, .int f_faultPage, .int f_faultTag, .int f_faultStrip, .ref f_entry])), (f_file, .inl (c1, 65536, .inl ff))] := hD
  refine lv_aload_n hx hb d_mPictures_begin_34 rfl (lv_at hl 0 rfl) ?_
  refine lv_iload_n hx hb d_mPictures_begin_35 rfl (lv_at hl 1 rfl) ?_
  refine va_put (D := (dC, dI)) (ci := 16) (v := .int 73) (ty := .int) (C := R_mPictures) (T := F_mPictures) (N := 30) hx hb hwd i_mPictures t_mPictures to_mPictures no_mPictures hown hK hP hD hS 0 rfl rfl 5 (by decide) (hwd _ wd_10_165) (fun _ h9 => h9) rfl (by decide +kernel) rfl rfl (Nat.le_of_ble_eq_true rfl) d_mPictures_begin_36 ?_
  clear hP hD hS
  intro H locs hP hD hS
  replace hP : va_P (dC, dI) vcl [(h0, .inr (16, [.int 0, .ref f_file, .int 0, .int f_making, .int f_open, .int 73, .int f_made, .int f_link, .int f_width, .int f_height, .int f_rows, .int f_across, .int f_down, .int f_strips, .int f_done, .int f_from, .int f_length, .ref f_places, .ref f_lengths, .int f_wasOrder, .int f_pages, .ref f_numbers, .ref f_firstStrip, .ref f_stripPlace, .ref f_stripLength, .int f_fault, .int f_faultPage, .int f_faultTag, .int f_faultStrip, .ref f_entry])), (f_file, .inl (c1, 65536, .inl ff))] H := hP
  replace hD : va_D A [(h0, .inr (16, [.int 0, .ref f_file, .int 0, .int f_making, .int f_open, .int 73, .int f_made, .int f_link, .int f_width, .int f_height, .int f_rows, .int f_across, .int f_down, .int f_strips, .int f_done, .int f_from, .int f_length, .ref f_places, .ref f_lengths, .int f_wasOrder, .int f_pages, .ref f_numbers, .ref f_firstStrip, .ref f_stripPlace, .ref f_stripLength, .int f_fault, .int f_faultPage, .int f_faultTag, .int f_faultStrip, .ref f_entry])), (f_file, .inl (c1, 65536, .inl ff))] := hD
  refine lv_aload_n hx hb d_mPictures_begin_39 rfl (lv_at hl 0 rfl) ?_
  refine lv_iload_n hx hb d_mPictures_begin_40 rfl (lv_at hl 1 rfl) ?_
  have hPc := hP.sub (ws' := [(h0, .inr (16, [.int 0, .ref f_file, .int 0, .int f_making, .int f_open, .int 73, .int f_made, .int f_link, .int f_width, .int f_height, .int f_rows, .int f_across, .int f_down, .int f_strips, .int f_done, .int f_from, .int f_length, .ref f_places, .ref f_lengths, .int f_wasOrder, .int f_pages, .ref f_numbers, .ref f_firstStrip, .ref f_stripPlace, .ref f_stripLength, .int f_fault, .int f_faultPage, .int f_faultTag, .int f_faultStrip, .ref f_entry])), (f_file, .inl (c1, 65536, .inl ff))]) [0, 1] rfl
  have hDc := hD.sub (ws' := [(h0, .inr (16, [.int 0, .ref f_file, .int 0, .int f_making, .int f_open, .int 73, .int f_made, .int f_link, .int f_width, .int f_height, .int f_rows, .int f_across, .int f_down, .int f_strips, .int f_done, .int f_from, .int f_length, .ref f_places, .ref f_lengths, .int f_wasOrder, .int f_pages, .ref f_numbers, .ref f_firstStrip, .ref f_stripPlace, .ref f_stripLength, .int f_fault, .int f_faultPage, .int f_faultTag, .int f_faultStrip, .ref f_entry])), (f_file, .inl (c1, 65536, .inl ff))]) [0, 1] (by decide) rfl
  have hKc := hK.sub (tys' := [(c1, .byte)]) [0] rfl
  have hFc := va_free (wc := [(h0, .inr (16, [.int 0, .ref f_file, .int 0, .int f_making, .int f_open, .int 73, .int f_made, .int f_link, .int f_width, .int f_height, .int f_rows, .int f_across, .int f_down, .int f_strips, .int f_done, .int f_from, .int f_length, .ref f_places, .ref f_lengths, .int f_wasOrder, .int f_pages, .ref f_numbers, .ref f_firstStrip, .ref f_stripPlace, .ref f_stripLength, .int f_fault, .int f_faultPage, .int f_faultTag, .int f_faultStrip, .ref f_entry])), (f_file, .inl (c1, 65536, .inl ff))]) hD hS hA [0, 1] rfl
  refine va_callv (va_runV (As := [.int 73]) (rest := []) ⟨hx, hb, hml, hown, hwd⟩ (c_Pictures_one l dC dI tt h0 0 f_file f_making f_open 73 f_made f_link f_width f_height f_rows f_across f_down f_strips f_done f_from f_length f_places f_lengths f_wasOrder f_pages f_numbers f_firstStrip f_stripPlace f_stripLength f_fault f_faultPage f_faultTag f_faultStrip f_entry 0 c1 ff 73 H.size (by decide)) (cwV 1 hwd (gV gd_mPictures_one wd_11_126 wd_11_128 ws_124 wd_1_21) rfl rfl rfl (by decide +kernel) ⟨Nat.le_of_ble_eq_true rfl, Nat.le_of_ble_eq_true rfl⟩) ⟨fun a U g mk q => by obtain ⟨q0, q1, qP, qK, qD, qF⟩ := q; exact ⟨q0, q1, qP, va_K.moved (u := U) (U := U.calling g mk a) (Vm.Alike.refl U.vm) qK, qD, SF.same (u := U) (U := U.calling g mk a) rfl qF⟩, va_recv hKc hPc (ci := 16) (q0 := 0) rfl rfl, fun U hU hW => ⟨rfl, by rw [hU], by rw [hU]; exact hPc, va_K.moved hW.alike hKc, hDc.weaken (fun _ _ _ _ => trivial), by rw [hU]; exact SF.narrow (SF.moved hW (SF.kept hF (fun a h1 h2 => hS.2.1 a h1 h2))) hFc⟩⟩ rfl rfl hl.1 rfl (lv_room (Nat.le_of_ble_eq_true rfl)) d_mPictures_begin_41 ⟨Nat.le_of_ble_eq_true rfl, Nat.le_of_ble_eq_true rfl⟩) hS (fun q _ h => hFc q h) hFc ?_
  clear hPc hDc hKc hS
  intro u_2 t H1 locs ht hvm hw hB hz1 hk1 hS
  obtain ⟨hP1, hK1, hD1⟩ := hB
  rw [ht] at hP1
  have hK1 := va_K.moved hvm.symm hK1
  try dsimp only at hw
  have hJ := va_join (wr := []) (w1 := [(h0, .inr (16, [.int 0, .ref f_file, .int (nI 1), .int f_making, .int f_open, .int 73, .int f_made, .int f_link, .int f_width, .int f_height, .int f_rows, .int f_across, .int f_down, .int f_strips, .int f_done, .int f_from, .int f_length, .ref f_places, .ref f_lengths, .int f_wasOrder, .int f_pages, .ref f_numbers, .ref f_firstStrip, .ref f_stripPlace, .ref f_stripLength, .int f_fault, .int f_faultPage, .int f_faultTag, .int f_faultStrip, .ref f_entry])), (f_file, .inl (c1, 65536, .inl (upd ff 0 (73 : Int32).toInt8.toInt32)))]) hP hD [0, 1] [] rfl rfl (by decide) (by decide) hk1 hFc hP1 hD1
  clear hP hD hk1 hFc hP1 hD1 hz1
  obtain ⟨hP, hD⟩ := hJ
  clear hK1 ht hvm
  generalize H1 = H at hP hS ⊢
  replace hP : va_P (dC, dI) vcl [(h0, .inr (16, [.int 0, .ref f_file, .int (nI 1), .int f_making, .int f_open, .int 73, .int f_made, .int f_link, .int f_width, .int f_height, .int f_rows, .int f_across, .int f_down, .int f_strips, .int f_done, .int f_from, .int f_length, .ref f_places, .ref f_lengths, .int f_wasOrder, .int f_pages, .ref f_numbers, .ref f_firstStrip, .ref f_stripPlace, .ref f_stripLength, .int f_fault, .int f_faultPage, .int f_faultTag, .int f_faultStrip, .ref f_entry])), (f_file, .inl (c1, 65536, .inl (upd ff 0 (73 : Int32).toInt8.toInt32)))] H := hP
  replace hD : va_D A [(h0, .inr (16, [.int 0, .ref f_file, .int (nI 1), .int f_making, .int f_open, .int 73, .int f_made, .int f_link, .int f_width, .int f_height, .int f_rows, .int f_across, .int f_down, .int f_strips, .int f_done, .int f_from, .int f_length, .ref f_places, .ref f_lengths, .int f_wasOrder, .int f_pages, .ref f_numbers, .ref f_firstStrip, .ref f_stripPlace, .ref f_stripLength, .int f_fault, .int f_faultPage, .int f_faultTag, .int f_faultStrip, .ref f_entry])), (f_file, .inl (c1, 65536, .inl (upd ff 0 (73 : Int32).toInt8.toInt32)))] := hD
  refine lv_aload_n hx hb d_mPictures_begin_44 rfl (lv_at hl 0 rfl) ?_
  refine lv_iload_n hx hb d_mPictures_begin_45 rfl (lv_at hl 1 rfl) ?_
  have hPc := hP.sub (ws' := [(h0, .inr (16, [.int 0, .ref f_file, .int (nI 1), .int f_making, .int f_open, .int 73, .int f_made, .int f_link, .int f_width, .int f_height, .int f_rows, .int f_across, .int f_down, .int f_strips, .int f_done, .int f_from, .int f_length, .ref f_places, .ref f_lengths, .int f_wasOrder, .int f_pages, .ref f_numbers, .ref f_firstStrip, .ref f_stripPlace, .ref f_stripLength, .int f_fault, .int f_faultPage, .int f_faultTag, .int f_faultStrip, .ref f_entry])), (f_file, .inl (c1, 65536, .inl (upd ff 0 (73 : Int32).toInt8.toInt32)))]) [0, 1] rfl
  have hDc := hD.sub (ws' := [(h0, .inr (16, [.int 0, .ref f_file, .int (nI 1), .int f_making, .int f_open, .int 73, .int f_made, .int f_link, .int f_width, .int f_height, .int f_rows, .int f_across, .int f_down, .int f_strips, .int f_done, .int f_from, .int f_length, .ref f_places, .ref f_lengths, .int f_wasOrder, .int f_pages, .ref f_numbers, .ref f_firstStrip, .ref f_stripPlace, .ref f_stripLength, .int f_fault, .int f_faultPage, .int f_faultTag, .int f_faultStrip, .ref f_entry])), (f_file, .inl (c1, 65536, .inl (upd ff 0 (73 : Int32).toInt8.toInt32)))]) [0, 1] (by decide) rfl
  have hKc := hK.sub (tys' := [(c1, .byte)]) [0] rfl
  have hFc := va_free (wc := [(h0, .inr (16, [.int 0, .ref f_file, .int (nI 1), .int f_making, .int f_open, .int 73, .int f_made, .int f_link, .int f_width, .int f_height, .int f_rows, .int f_across, .int f_down, .int f_strips, .int f_done, .int f_from, .int f_length, .ref f_places, .ref f_lengths, .int f_wasOrder, .int f_pages, .ref f_numbers, .ref f_firstStrip, .ref f_stripPlace, .ref f_stripLength, .int f_fault, .int f_faultPage, .int f_faultTag, .int f_faultStrip, .ref f_entry])), (f_file, .inl (c1, 65536, .inl (upd ff 0 (73 : Int32).toInt8.toInt32)))]) hD hS hA [0, 1] rfl
  refine va_callv (va_runV (As := [.int 73]) (rest := []) ⟨hx, hb, hml, hown, hwd⟩ (c_Pictures_one l dC dI tt h0 0 f_file f_making f_open 73 f_made f_link f_width f_height f_rows f_across f_down f_strips f_done f_from f_length f_places f_lengths f_wasOrder f_pages f_numbers f_firstStrip f_stripPlace f_stripLength f_fault f_faultPage f_faultTag f_faultStrip f_entry 1 c1 (upd ff 0 (73 : Int32).toInt8.toInt32) 73 H.size (by decide)) (cwV 1 hwd (gV gd_mPictures_one wd_11_126 wd_11_128 ws_124 wd_1_21) rfl rfl rfl (by decide +kernel) ⟨Nat.le_of_ble_eq_true rfl, Nat.le_of_ble_eq_true rfl⟩) ⟨fun a U g mk q => by obtain ⟨q0, q1, qP, qK, qD, qF⟩ := q; exact ⟨q0, q1, qP, va_K.moved (u := U) (U := U.calling g mk a) (Vm.Alike.refl U.vm) qK, qD, SF.same (u := U) (U := U.calling g mk a) rfl qF⟩, va_recv hKc hPc (ci := 16) (q0 := 0) rfl rfl, fun U hU hW => ⟨rfl, by rw [hU], by rw [hU]; exact hPc, va_K.moved hW.alike hKc, hDc.weaken (fun _ _ _ _ => trivial), by rw [hU]; exact SF.narrow (SF.moved hW (SF.kept hF (fun a h1 h2 => hS.2.1 a h1 h2))) hFc⟩⟩ rfl rfl hl.1 rfl (lv_room (Nat.le_of_ble_eq_true rfl)) d_mPictures_begin_46 ⟨Nat.le_of_ble_eq_true rfl, Nat.le_of_ble_eq_true rfl⟩) hS (fun q _ h => hFc q h) hFc ?_
  clear hPc hDc hKc hS
  intro u_4 t H1 locs ht hvm hw hB hz1 hk1 hS
  obtain ⟨hP1, hK1, hD1⟩ := hB
  rw [ht] at hP1
  have hK1 := va_K.moved hvm.symm hK1
  try dsimp only at hw
  have hJ := va_join (wr := []) (w1 := [(h0, .inr (16, [.int 0, .ref f_file, .int (nI 2), .int f_making, .int f_open, .int 73, .int f_made, .int f_link, .int f_width, .int f_height, .int f_rows, .int f_across, .int f_down, .int f_strips, .int f_done, .int f_from, .int f_length, .ref f_places, .ref f_lengths, .int f_wasOrder, .int f_pages, .ref f_numbers, .ref f_firstStrip, .ref f_stripPlace, .ref f_stripLength, .int f_fault, .int f_faultPage, .int f_faultTag, .int f_faultStrip, .ref f_entry])), (f_file, .inl (c1, 65536, .inl (upd (upd ff 0 (73 : Int32).toInt8.toInt32) 1 (73 : Int32).toInt8.toInt32)))]) hP hD [0, 1] [] rfl rfl (by decide) (by decide) hk1 hFc hP1 hD1
  clear hP hD hk1 hFc hP1 hD1 hz1
  obtain ⟨hP, hD⟩ := hJ
  clear hK1 ht hvm
  generalize H1 = H at hP hS ⊢
  replace hP : va_P (dC, dI) vcl [(h0, .inr (16, [.int 0, .ref f_file, .int (nI 2), .int f_making, .int f_open, .int 73, .int f_made, .int f_link, .int f_width, .int f_height, .int f_rows, .int f_across, .int f_down, .int f_strips, .int f_done, .int f_from, .int f_length, .ref f_places, .ref f_lengths, .int f_wasOrder, .int f_pages, .ref f_numbers, .ref f_firstStrip, .ref f_stripPlace, .ref f_stripLength, .int f_fault, .int f_faultPage, .int f_faultTag, .int f_faultStrip, .ref f_entry])), (f_file, .inl (c1, 65536, .inl (upd (upd ff 0 (73 : Int32).toInt8.toInt32) 1 (73 : Int32).toInt8.toInt32)))] H := hP
  replace hD : va_D A [(h0, .inr (16, [.int 0, .ref f_file, .int (nI 2), .int f_making, .int f_open, .int 73, .int f_made, .int f_link, .int f_width, .int f_height, .int f_rows, .int f_across, .int f_down, .int f_strips, .int f_done, .int f_from, .int f_length, .ref f_places, .ref f_lengths, .int f_wasOrder, .int f_pages, .ref f_numbers, .ref f_firstStrip, .ref f_stripPlace, .ref f_stripLength, .int f_fault, .int f_faultPage, .int f_faultTag, .int f_faultStrip, .ref f_entry])), (f_file, .inl (c1, 65536, .inl (upd (upd ff 0 (73 : Int32).toInt8.toInt32) 1 (73 : Int32).toInt8.toInt32)))] := hD
  refine lv_aload_n hx hb d_mPictures_begin_49 rfl (lv_at hl 0 rfl) ?_
  refine lv_bipush (v := 42) hx hb d_mPictures_begin_50 (by decide) ?_
  have hPc := hP.sub (ws' := [(h0, .inr (16, [.int 0, .ref f_file, .int (nI 2), .int f_making, .int f_open, .int 73, .int f_made, .int f_link, .int f_width, .int f_height, .int f_rows, .int f_across, .int f_down, .int f_strips, .int f_done, .int f_from, .int f_length, .ref f_places, .ref f_lengths, .int f_wasOrder, .int f_pages, .ref f_numbers, .ref f_firstStrip, .ref f_stripPlace, .ref f_stripLength, .int f_fault, .int f_faultPage, .int f_faultTag, .int f_faultStrip, .ref f_entry])), (f_file, .inl (c1, 65536, .inl (upd (upd ff 0 (73 : Int32).toInt8.toInt32) 1 (73 : Int32).toInt8.toInt32)))]) [0, 1] rfl
  have hDc := hD.sub (ws' := [(h0, .inr (16, [.int 0, .ref f_file, .int (nI 2), .int f_making, .int f_open, .int 73, .int f_made, .int f_link, .int f_width, .int f_height, .int f_rows, .int f_across, .int f_down, .int f_strips, .int f_done, .int f_from, .int f_length, .ref f_places, .ref f_lengths, .int f_wasOrder, .int f_pages, .ref f_numbers, .ref f_firstStrip, .ref f_stripPlace, .ref f_stripLength, .int f_fault, .int f_faultPage, .int f_faultTag, .int f_faultStrip, .ref f_entry])), (f_file, .inl (c1, 65536, .inl (upd (upd ff 0 (73 : Int32).toInt8.toInt32) 1 (73 : Int32).toInt8.toInt32)))]) [0, 1] (by decide) rfl
  have hKc := hK.sub (tys' := [(c1, .byte)]) [0] rfl
  have hFc := va_free (wc := [(h0, .inr (16, [.int 0, .ref f_file, .int (nI 2), .int f_making, .int f_open, .int 73, .int f_made, .int f_link, .int f_width, .int f_height, .int f_rows, .int f_across, .int f_down, .int f_strips, .int f_done, .int f_from, .int f_length, .ref f_places, .ref f_lengths, .int f_wasOrder, .int f_pages, .ref f_numbers, .ref f_firstStrip, .ref f_stripPlace, .ref f_stripLength, .int f_fault, .int f_faultPage, .int f_faultTag, .int f_faultStrip, .ref f_entry])), (f_file, .inl (c1, 65536, .inl (upd (upd ff 0 (73 : Int32).toInt8.toInt32) 1 (73 : Int32).toInt8.toInt32)))]) hD hS hA [0, 1] rfl
  refine va_callv (va_runV (As := [.int 42]) (rest := []) ⟨hx, hb, hml, hown, hwd⟩ (c_Pictures_two l dC dI tt h0 0 f_file f_making f_open f_made f_link f_width f_height f_rows f_across f_down f_strips f_done f_from f_length f_places f_lengths f_wasOrder f_pages f_numbers f_firstStrip f_stripPlace f_stripLength f_fault f_faultPage f_faultTag f_faultStrip f_entry 2 c1 (upd (upd ff 0 (73 : Int32).toInt8.toInt32) 1 (73 : Int32).toInt8.toInt32) 42 H.size (by decide)) (cwV 1 hwd (gV gd_mPictures_two wd_11_130 wd_11_132 ws_125 wd_1_21) rfl rfl rfl (by decide +kernel) ⟨Nat.le_of_ble_eq_true rfl, Nat.le_of_ble_eq_true rfl⟩) ⟨fun a U g mk q => by obtain ⟨q0, q1, qP, qK, qD, qF⟩ := q; exact ⟨q0, q1, qP, va_K.moved (u := U) (U := U.calling g mk a) (Vm.Alike.refl U.vm) qK, qD, SF.same (u := U) (U := U.calling g mk a) rfl qF⟩, va_recv hKc hPc (ci := 16) (q0 := 0) rfl rfl, fun U hU hW => ⟨rfl, by rw [hU], by rw [hU]; exact hPc, va_K.moved hW.alike hKc, hDc.weaken (fun _ _ _ _ => trivial), by rw [hU]; exact SF.narrow (SF.moved hW (SF.kept hF (fun a h1 h2 => hS.2.1 a h1 h2))) hFc⟩⟩ rfl rfl hl.1 rfl (lv_room (Nat.le_of_ble_eq_true rfl)) d_mPictures_begin_52 ⟨Nat.le_of_ble_eq_true rfl, Nat.le_of_ble_eq_true rfl⟩) hS (fun q _ h => hFc q h) hFc ?_
  clear hPc hDc hKc hS
  intro u_6 t H1 locs ht hvm hw hB hz1 hk1 hS
  obtain ⟨hP1, hK1, hD1⟩ := hB
  rw [ht] at hP1
  have hK1 := va_K.moved hvm.symm hK1
  try dsimp only at hw
  have hJ := va_join (wr := []) (w1 := [(h0, .inr (16, [.int 0, .ref f_file, .int (nI 4), .int f_making, .int f_open, .int 73, .int f_made, .int f_link, .int f_width, .int f_height, .int f_rows, .int f_across, .int f_down, .int f_strips, .int f_done, .int f_from, .int f_length, .ref f_places, .ref f_lengths, .int f_wasOrder, .int f_pages, .ref f_numbers, .ref f_firstStrip, .ref f_stripPlace, .ref f_stripLength, .int f_fault, .int f_faultPage, .int f_faultTag, .int f_faultStrip, .ref f_entry])), (f_file, .inl (c1, 65536, .inl (upd (upd (upd (upd ff 0 (73 : Int32).toInt8.toInt32) 1 (73 : Int32).toInt8.toInt32) 2 (42 : Int32).toInt8.toInt32) 3 ((42 : Int32) >>> (8 &&& 31)).toInt8.toInt32)))]) hP hD [0, 1] [] rfl rfl (by decide) (by decide) hk1 hFc hP1 hD1
  clear hP hD hk1 hFc hP1 hD1 hz1
  obtain ⟨hP, hD⟩ := hJ
  clear hK1 ht hvm
  generalize H1 = H at hP hS ⊢
  replace hP : va_P (dC, dI) vcl [(h0, .inr (16, [.int 0, .ref f_file, .int (nI 4), .int f_making, .int f_open, .int 73, .int f_made, .int f_link, .int f_width, .int f_height, .int f_rows, .int f_across, .int f_down, .int f_strips, .int f_done, .int f_from, .int f_length, .ref f_places, .ref f_lengths, .int f_wasOrder, .int f_pages, .ref f_numbers, .ref f_firstStrip, .ref f_stripPlace, .ref f_stripLength, .int f_fault, .int f_faultPage, .int f_faultTag, .int f_faultStrip, .ref f_entry])), (f_file, .inl (c1, 65536, .inl (upd (upd (upd (upd ff 0 (73 : Int32).toInt8.toInt32) 1 (73 : Int32).toInt8.toInt32) 2 (42 : Int32).toInt8.toInt32) 3 ((42 : Int32) >>> (8 &&& 31)).toInt8.toInt32)))] H := hP
  replace hD : va_D A [(h0, .inr (16, [.int 0, .ref f_file, .int (nI 4), .int f_making, .int f_open, .int 73, .int f_made, .int f_link, .int f_width, .int f_height, .int f_rows, .int f_across, .int f_down, .int f_strips, .int f_done, .int f_from, .int f_length, .ref f_places, .ref f_lengths, .int f_wasOrder, .int f_pages, .ref f_numbers, .ref f_firstStrip, .ref f_stripPlace, .ref f_stripLength, .int f_fault, .int f_faultPage, .int f_faultTag, .int f_faultStrip, .ref f_entry])), (f_file, .inl (c1, 65536, .inl (upd (upd (upd (upd ff 0 (73 : Int32).toInt8.toInt32) 1 (73 : Int32).toInt8.toInt32) 2 (42 : Int32).toInt8.toInt32) 3 ((42 : Int32) >>> (8 &&& 31)).toInt8.toInt32)))] := hD
  refine lv_aload_n hx hb d_mPictures_begin_55 rfl (lv_at hl 0 rfl) ?_
  refine lv_iconst (v := 0) hx hb d_mPictures_begin_56 (by decide) ?_
  have hPc := hP.sub (ws' := [(h0, .inr (16, [.int 0, .ref f_file, .int (nI 4), .int f_making, .int f_open, .int 73, .int f_made, .int f_link, .int f_width, .int f_height, .int f_rows, .int f_across, .int f_down, .int f_strips, .int f_done, .int f_from, .int f_length, .ref f_places, .ref f_lengths, .int f_wasOrder, .int f_pages, .ref f_numbers, .ref f_firstStrip, .ref f_stripPlace, .ref f_stripLength, .int f_fault, .int f_faultPage, .int f_faultTag, .int f_faultStrip, .ref f_entry])), (f_file, .inl (c1, 65536, .inl (upd (upd (upd (upd ff 0 (73 : Int32).toInt8.toInt32) 1 (73 : Int32).toInt8.toInt32) 2 (42 : Int32).toInt8.toInt32) 3 ((42 : Int32) >>> (8 &&& 31)).toInt8.toInt32)))]) [0, 1] rfl
  have hDc := hD.sub (ws' := [(h0, .inr (16, [.int 0, .ref f_file, .int (nI 4), .int f_making, .int f_open, .int 73, .int f_made, .int f_link, .int f_width, .int f_height, .int f_rows, .int f_across, .int f_down, .int f_strips, .int f_done, .int f_from, .int f_length, .ref f_places, .ref f_lengths, .int f_wasOrder, .int f_pages, .ref f_numbers, .ref f_firstStrip, .ref f_stripPlace, .ref f_stripLength, .int f_fault, .int f_faultPage, .int f_faultTag, .int f_faultStrip, .ref f_entry])), (f_file, .inl (c1, 65536, .inl (upd (upd (upd (upd ff 0 (73 : Int32).toInt8.toInt32) 1 (73 : Int32).toInt8.toInt32) 2 (42 : Int32).toInt8.toInt32) 3 ((42 : Int32) >>> (8 &&& 31)).toInt8.toInt32)))]) [0, 1] (by decide) rfl
  have hKc := hK.sub (tys' := [(c1, .byte)]) [0] rfl
  have hFc := va_free (wc := [(h0, .inr (16, [.int 0, .ref f_file, .int (nI 4), .int f_making, .int f_open, .int 73, .int f_made, .int f_link, .int f_width, .int f_height, .int f_rows, .int f_across, .int f_down, .int f_strips, .int f_done, .int f_from, .int f_length, .ref f_places, .ref f_lengths, .int f_wasOrder, .int f_pages, .ref f_numbers, .ref f_firstStrip, .ref f_stripPlace, .ref f_stripLength, .int f_fault, .int f_faultPage, .int f_faultTag, .int f_faultStrip, .ref f_entry])), (f_file, .inl (c1, 65536, .inl (upd (upd (upd (upd ff 0 (73 : Int32).toInt8.toInt32) 1 (73 : Int32).toInt8.toInt32) 2 (42 : Int32).toInt8.toInt32) 3 ((42 : Int32) >>> (8 &&& 31)).toInt8.toInt32)))]) hD hS hA [0, 1] rfl
  refine va_callv (va_runV (As := [.int 0]) (rest := []) ⟨hx, hb, hml, hown, hwd⟩ (c_Pictures_four l dC dI tt h0 0 f_file f_making f_open f_made f_link f_width f_height f_rows f_across f_down f_strips f_done f_from f_length f_places f_lengths f_wasOrder f_pages f_numbers f_firstStrip f_stripPlace f_stripLength f_fault f_faultPage f_faultTag f_faultStrip f_entry 4 c1 (upd (upd (upd (upd ff 0 (73 : Int32).toInt8.toInt32) 1 (73 : Int32).toInt8.toInt32) 2 (42 : Int32).toInt8.toInt32) 3 ((42 : Int32) >>> (8 &&& 31)).toInt8.toInt32) 0 H.size (by decide)) (cwV 1 hwd (gV gd_mPictures_four wd_11_134 wd_11_136 ws_126 wd_1_21) rfl rfl rfl (by decide +kernel) ⟨Nat.le_of_ble_eq_true rfl, Nat.le_of_ble_eq_true rfl⟩) ⟨fun a U g mk q => by obtain ⟨q0, q1, qP, qK, qD, qF⟩ := q; exact ⟨q0, q1, qP, va_K.moved (u := U) (U := U.calling g mk a) (Vm.Alike.refl U.vm) qK, qD, SF.same (u := U) (U := U.calling g mk a) rfl qF⟩, va_recv hKc hPc (ci := 16) (q0 := 0) rfl rfl, fun U hU hW => ⟨rfl, by rw [hU], by rw [hU]; exact hPc, va_K.moved hW.alike hKc, hDc.weaken (fun _ _ _ _ => trivial), by rw [hU]; exact SF.narrow (SF.moved hW (SF.kept hF (fun a h1 h2 => hS.2.1 a h1 h2))) hFc⟩⟩ rfl rfl hl.1 rfl (lv_room (Nat.le_of_ble_eq_true rfl)) d_mPictures_begin_57 ⟨Nat.le_of_ble_eq_true rfl, Nat.le_of_ble_eq_true rfl⟩) hS (fun q _ h => hFc q h) hFc ?_
  clear hPc hDc hKc hS
  intro u_8 t H1 locs ht hvm hw hB hz1 hk1 hS
  obtain ⟨hP1, hK1, hD1⟩ := hB
  rw [ht] at hP1
  have hK1 := va_K.moved hvm.symm hK1
  try dsimp only at hw
  have hJ := va_join (wr := []) (w1 := [(h0, .inr (16, [.int 0, .ref f_file, .int (nI 8), .int f_making, .int f_open, .int 73, .int f_made, .int f_link, .int f_width, .int f_height, .int f_rows, .int f_across, .int f_down, .int f_strips, .int f_done, .int f_from, .int f_length, .ref f_places, .ref f_lengths, .int f_wasOrder, .int f_pages, .ref f_numbers, .ref f_firstStrip, .ref f_stripPlace, .ref f_stripLength, .int f_fault, .int f_faultPage, .int f_faultTag, .int f_faultStrip, .ref f_entry])), (f_file, .inl (c1, 65536, .inl (upd (upd (upd (upd (upd (upd (upd (upd ff 0 (73 : Int32).toInt8.toInt32) 1 (73 : Int32).toInt8.toInt32) 2 (42 : Int32).toInt8.toInt32) 3 ((42 : Int32) >>> (8 &&& 31)).toInt8.toInt32) 4 (0 : Int32).toInt8.toInt32) 5 ((0 : Int32) >>> (8 &&& 31)).toInt8.toInt32) 6 ((0 : Int32) >>> (16 &&& 31)).toInt8.toInt32) 7 (((0 : Int32) >>> (16 &&& 31)) >>> (8 &&& 31)).toInt8.toInt32)))]) hP hD [0, 1] [] rfl rfl (by decide) (by decide) hk1 hFc hP1 hD1
  clear hP hD hk1 hFc hP1 hD1 hz1
  obtain ⟨hP, hD⟩ := hJ
  clear hK1 ht hvm
  generalize H1 = H at hP hS ⊢
  replace hP : va_P (dC, dI) vcl [(h0, .inr (16, [.int 0, .ref f_file, .int (nI 8), .int f_making, .int f_open, .int 73, .int f_made, .int f_link, .int f_width, .int f_height, .int f_rows, .int f_across, .int f_down, .int f_strips, .int f_done, .int f_from, .int f_length, .ref f_places, .ref f_lengths, .int f_wasOrder, .int f_pages, .ref f_numbers, .ref f_firstStrip, .ref f_stripPlace, .ref f_stripLength, .int f_fault, .int f_faultPage, .int f_faultTag, .int f_faultStrip, .ref f_entry])), (f_file, .inl (c1, 65536, .inl (upd (upd (upd (upd (upd (upd (upd (upd ff 0 (73 : Int32).toInt8.toInt32) 1 (73 : Int32).toInt8.toInt32) 2 (42 : Int32).toInt8.toInt32) 3 ((42 : Int32) >>> (8 &&& 31)).toInt8.toInt32) 4 (0 : Int32).toInt8.toInt32) 5 ((0 : Int32) >>> (8 &&& 31)).toInt8.toInt32) 6 ((0 : Int32) >>> (16 &&& 31)).toInt8.toInt32) 7 (((0 : Int32) >>> (16 &&& 31)) >>> (8 &&& 31)).toInt8.toInt32)))] H := hP
  replace hD : va_D A [(h0, .inr (16, [.int 0, .ref f_file, .int (nI 8), .int f_making, .int f_open, .int 73, .int f_made, .int f_link, .int f_width, .int f_height, .int f_rows, .int f_across, .int f_down, .int f_strips, .int f_done, .int f_from, .int f_length, .ref f_places, .ref f_lengths, .int f_wasOrder, .int f_pages, .ref f_numbers, .ref f_firstStrip, .ref f_stripPlace, .ref f_stripLength, .int f_fault, .int f_faultPage, .int f_faultTag, .int f_faultStrip, .ref f_entry])), (f_file, .inl (c1, 65536, .inl (upd (upd (upd (upd (upd (upd (upd (upd ff 0 (73 : Int32).toInt8.toInt32) 1 (73 : Int32).toInt8.toInt32) 2 (42 : Int32).toInt8.toInt32) 3 ((42 : Int32) >>> (8 &&& 31)).toInt8.toInt32) 4 (0 : Int32).toInt8.toInt32) 5 ((0 : Int32) >>> (8 &&& 31)).toInt8.toInt32) 6 ((0 : Int32) >>> (16 &&& 31)).toInt8.toInt32) 7 (((0 : Int32) >>> (16 &&& 31)) >>> (8 &&& 31)).toInt8.toInt32)))] := hD
  refine lv_aload_n hx hb d_mPictures_begin_60 rfl (lv_at hl 0 rfl) ?_
  refine lv_iconst (v := 1) hx hb d_mPictures_begin_61 (by decide) ?_
  refine va_put (D := (dC, dI)) (ci := 16) (v := .int 1) (ty := .boolean) (C := R_mPictures) (T := F_mPictures) (N := 30) hx hb hwd i_mPictures t_mPictures to_mPictures no_mPictures hown hK hP hD hS 0 rfl rfl 3 (by decide) (hwd _ wd_10_163) (fun _ h9 => h9) rfl (by decide +kernel) (by decide) rfl (Nat.le_of_ble_eq_true rfl) d_mPictures_begin_62 ?_
  clear hP hD hS
  intro H locs hP hD hS
  replace hP : va_P (dC, dI) vcl [(h0, .inr (16, [.int 0, .ref f_file, .int (nI 8), .int 1, .int f_open, .int 73, .int f_made, .int f_link, .int f_width, .int f_height, .int f_rows, .int f_across, .int f_down, .int f_strips, .int f_done, .int f_from, .int f_length, .ref f_places, .ref f_lengths, .int f_wasOrder, .int f_pages, .ref f_numbers, .ref f_firstStrip, .ref f_stripPlace, .ref f_stripLength, .int f_fault, .int f_faultPage, .int f_faultTag, .int f_faultStrip, .ref f_entry])), (f_file, .inl (c1, 65536, .inl (upd (upd (upd (upd (upd (upd (upd (upd ff 0 (73 : Int32).toInt8.toInt32) 1 (73 : Int32).toInt8.toInt32) 2 (42 : Int32).toInt8.toInt32) 3 ((42 : Int32) >>> (8 &&& 31)).toInt8.toInt32) 4 (0 : Int32).toInt8.toInt32) 5 ((0 : Int32) >>> (8 &&& 31)).toInt8.toInt32) 6 ((0 : Int32) >>> (16 &&& 31)).toInt8.toInt32) 7 (((0 : Int32) >>> (16 &&& 31)) >>> (8 &&& 31)).toInt8.toInt32)))] H := hP
  replace hD : va_D A [(h0, .inr (16, [.int 0, .ref f_file, .int (nI 8), .int 1, .int f_open, .int 73, .int f_made, .int f_link, .int f_width, .int f_height, .int f_rows, .int f_across, .int f_down, .int f_strips, .int f_done, .int f_from, .int f_length, .ref f_places, .ref f_lengths, .int f_wasOrder, .int f_pages, .ref f_numbers, .ref f_firstStrip, .ref f_stripPlace, .ref f_stripLength, .int f_fault, .int f_faultPage, .int f_faultTag, .int f_faultStrip, .ref f_entry])), (f_file, .inl (c1, 65536, .inl (upd (upd (upd (upd (upd (upd (upd (upd ff 0 (73 : Int32).toInt8.toInt32) 1 (73 : Int32).toInt8.toInt32) 2 (42 : Int32).toInt8.toInt32) 3 ((42 : Int32) >>> (8 &&& 31)).toInt8.toInt32) 4 (0 : Int32).toInt8.toInt32) 5 ((0 : Int32) >>> (8 &&& 31)).toInt8.toInt32) 6 ((0 : Int32) >>> (16 &&& 31)).toInt8.toInt32) 7 (((0 : Int32) >>> (16 &&& 31)) >>> (8 &&& 31)).toInt8.toInt32)))] := hD
  refine lv_aload_n hx hb d_mPictures_begin_65 rfl (lv_at hl 0 rfl) ?_
  refine lv_iconst (v := 0) hx hb d_mPictures_begin_66 (by decide) ?_
  refine va_put (D := (dC, dI)) (ci := 16) (v := .int 0) (ty := .boolean) (C := R_mPictures) (T := F_mPictures) (N := 30) hx hb hwd i_mPictures t_mPictures to_mPictures no_mPictures hown hK hP hD hS 0 rfl rfl 4 (by decide) (hwd _ wd_10_164) (fun _ h9 => h9) rfl (by decide +kernel) (by decide) rfl (Nat.le_of_ble_eq_true rfl) d_mPictures_begin_67 ?_
  clear hP hD hS
  intro H locs hP hD hS
  replace hP : va_P (dC, dI) vcl [(h0, .inr (16, [.int 0, .ref f_file, .int (nI 8), .int 1, .int 0, .int 73, .int f_made, .int f_link, .int f_width, .int f_height, .int f_rows, .int f_across, .int f_down, .int f_strips, .int f_done, .int f_from, .int f_length, .ref f_places, .ref f_lengths, .int f_wasOrder, .int f_pages, .ref f_numbers, .ref f_firstStrip, .ref f_stripPlace, .ref f_stripLength, .int f_fault, .int f_faultPage, .int f_faultTag, .int f_faultStrip, .ref f_entry])), (f_file, .inl (c1, 65536, .inl (upd (upd (upd (upd (upd (upd (upd (upd ff 0 (73 : Int32).toInt8.toInt32) 1 (73 : Int32).toInt8.toInt32) 2 (42 : Int32).toInt8.toInt32) 3 ((42 : Int32) >>> (8 &&& 31)).toInt8.toInt32) 4 (0 : Int32).toInt8.toInt32) 5 ((0 : Int32) >>> (8 &&& 31)).toInt8.toInt32) 6 ((0 : Int32) >>> (16 &&& 31)).toInt8.toInt32) 7 (((0 : Int32) >>> (16 &&& 31)) >>> (8 &&& 31)).toInt8.toInt32)))] H := hP
  replace hD : va_D A [(h0, .inr (16, [.int 0, .ref f_file, .int (nI 8), .int 1, .int 0, .int 73, .int f_made, .int f_link, .int f_width, .int f_height, .int f_rows, .int f_across, .int f_down, .int f_strips, .int f_done, .int f_from, .int f_length, .ref f_places, .ref f_lengths, .int f_wasOrder, .int f_pages, .ref f_numbers, .ref f_firstStrip, .ref f_stripPlace, .ref f_stripLength, .int f_fault, .int f_faultPage, .int f_faultTag, .int f_faultStrip, .ref f_entry])), (f_file, .inl (c1, 65536, .inl (upd (upd (upd (upd (upd (upd (upd (upd ff 0 (73 : Int32).toInt8.toInt32) 1 (73 : Int32).toInt8.toInt32) 2 (42 : Int32).toInt8.toInt32) 3 ((42 : Int32) >>> (8 &&& 31)).toInt8.toInt32) 4 (0 : Int32).toInt8.toInt32) 5 ((0 : Int32) >>> (8 &&& 31)).toInt8.toInt32) 6 ((0 : Int32) >>> (16 &&& 31)).toInt8.toInt32) 7 (((0 : Int32) >>> (16 &&& 31)) >>> (8 &&& 31)).toInt8.toInt32)))] := hD
  refine lv_aload_n hx hb d_mPictures_begin_70 rfl (lv_at hl 0 rfl) ?_
  refine lv_iconst (v := 0) hx hb d_mPictures_begin_71 (by decide) ?_
  refine va_put (D := (dC, dI)) (ci := 16) (v := .int 0) (ty := .int) (C := R_mPictures) (T := F_mPictures) (N := 30) hx hb hwd i_mPictures t_mPictures to_mPictures no_mPictures hown hK hP hD hS 0 rfl rfl 6 (by decide) (hwd _ wd_10_167) (fun _ h9 => h9) rfl (by decide +kernel) rfl rfl (Nat.le_of_ble_eq_true rfl) d_mPictures_begin_72 ?_
  clear hP hD hS
  intro H locs hP hD hS
  replace hP : va_P (dC, dI) vcl [(h0, .inr (16, [.int 0, .ref f_file, .int (nI 8), .int 1, .int 0, .int 73, .int 0, .int f_link, .int f_width, .int f_height, .int f_rows, .int f_across, .int f_down, .int f_strips, .int f_done, .int f_from, .int f_length, .ref f_places, .ref f_lengths, .int f_wasOrder, .int f_pages, .ref f_numbers, .ref f_firstStrip, .ref f_stripPlace, .ref f_stripLength, .int f_fault, .int f_faultPage, .int f_faultTag, .int f_faultStrip, .ref f_entry])), (f_file, .inl (c1, 65536, .inl (upd (upd (upd (upd (upd (upd (upd (upd ff 0 (73 : Int32).toInt8.toInt32) 1 (73 : Int32).toInt8.toInt32) 2 (42 : Int32).toInt8.toInt32) 3 ((42 : Int32) >>> (8 &&& 31)).toInt8.toInt32) 4 (0 : Int32).toInt8.toInt32) 5 ((0 : Int32) >>> (8 &&& 31)).toInt8.toInt32) 6 ((0 : Int32) >>> (16 &&& 31)).toInt8.toInt32) 7 (((0 : Int32) >>> (16 &&& 31)) >>> (8 &&& 31)).toInt8.toInt32)))] H := hP
  replace hD : va_D A [(h0, .inr (16, [.int 0, .ref f_file, .int (nI 8), .int 1, .int 0, .int 73, .int 0, .int f_link, .int f_width, .int f_height, .int f_rows, .int f_across, .int f_down, .int f_strips, .int f_done, .int f_from, .int f_length, .ref f_places, .ref f_lengths, .int f_wasOrder, .int f_pages, .ref f_numbers, .ref f_firstStrip, .ref f_stripPlace, .ref f_stripLength, .int f_fault, .int f_faultPage, .int f_faultTag, .int f_faultStrip, .ref f_entry])), (f_file, .inl (c1, 65536, .inl (upd (upd (upd (upd (upd (upd (upd (upd ff 0 (73 : Int32).toInt8.toInt32) 1 (73 : Int32).toInt8.toInt32) 2 (42 : Int32).toInt8.toInt32) 3 ((42 : Int32) >>> (8 &&& 31)).toInt8.toInt32) 4 (0 : Int32).toInt8.toInt32) 5 ((0 : Int32) >>> (8 &&& 31)).toInt8.toInt32) 6 ((0 : Int32) >>> (16 &&& 31)).toInt8.toInt32) 7 (((0 : Int32) >>> (16 &&& 31)) >>> (8 &&& 31)).toInt8.toInt32)))] := hD
  refine lv_aload_n hx hb d_mPictures_begin_75 rfl (lv_at hl 0 rfl) ?_
  refine lv_iconst (v := 4) hx hb d_mPictures_begin_76 (by decide) ?_
  refine va_put (D := (dC, dI)) (ci := 16) (v := .int 4) (ty := .int) (C := R_mPictures) (T := F_mPictures) (N := 30) hx hb hwd i_mPictures t_mPictures to_mPictures no_mPictures hown hK hP hD hS 0 rfl rfl 7 (by decide) (hwd _ wd_10_168) (fun _ h9 => h9) rfl (by decide +kernel) rfl rfl (Nat.le_of_ble_eq_true rfl) d_mPictures_begin_77 ?_
  clear hP hD hS
  intro H locs hP hD hS
  replace hP : va_P (dC, dI) vcl [(h0, .inr (16, [.int 0, .ref f_file, .int (nI 8), .int 1, .int 0, .int 73, .int 0, .int 4, .int f_width, .int f_height, .int f_rows, .int f_across, .int f_down, .int f_strips, .int f_done, .int f_from, .int f_length, .ref f_places, .ref f_lengths, .int f_wasOrder, .int f_pages, .ref f_numbers, .ref f_firstStrip, .ref f_stripPlace, .ref f_stripLength, .int f_fault, .int f_faultPage, .int f_faultTag, .int f_faultStrip, .ref f_entry])), (f_file, .inl (c1, 65536, .inl (upd (upd (upd (upd (upd (upd (upd (upd ff 0 (73 : Int32).toInt8.toInt32) 1 (73 : Int32).toInt8.toInt32) 2 (42 : Int32).toInt8.toInt32) 3 ((42 : Int32) >>> (8 &&& 31)).toInt8.toInt32) 4 (0 : Int32).toInt8.toInt32) 5 ((0 : Int32) >>> (8 &&& 31)).toInt8.toInt32) 6 ((0 : Int32) >>> (16 &&& 31)).toInt8.toInt32) 7 (((0 : Int32) >>> (16 &&& 31)) >>> (8 &&& 31)).toInt8.toInt32)))] H := hP
  replace hD : va_D A [(h0, .inr (16, [.int 0, .ref f_file, .int (nI 8), .int 1, .int 0, .int 73, .int 0, .int 4, .int f_width, .int f_height, .int f_rows, .int f_across, .int f_down, .int f_strips, .int f_done, .int f_from, .int f_length, .ref f_places, .ref f_lengths, .int f_wasOrder, .int f_pages, .ref f_numbers, .ref f_firstStrip, .ref f_stripPlace, .ref f_stripLength, .int f_fault, .int f_faultPage, .int f_faultTag, .int f_faultStrip, .ref f_entry])), (f_file, .inl (c1, 65536, .inl (upd (upd (upd (upd (upd (upd (upd (upd ff 0 (73 : Int32).toInt8.toInt32) 1 (73 : Int32).toInt8.toInt32) 2 (42 : Int32).toInt8.toInt32) 3 ((42 : Int32) >>> (8 &&& 31)).toInt8.toInt32) 4 (0 : Int32).toInt8.toInt32) 5 ((0 : Int32) >>> (8 &&& 31)).toInt8.toInt32) 6 ((0 : Int32) >>> (16 &&& 31)).toInt8.toInt32) 7 (((0 : Int32) >>> (16 &&& 31)) >>> (8 &&& 31)).toInt8.toInt32)))] := hD
  have hP9 := hP.sub (ws' := [(h0, .inr (16, [.int 0, .ref f_file, .int (nI 8), .int 1, .int 0, .int 73, .int 0, .int 4, .int f_width, .int f_height, .int f_rows, .int f_across, .int f_down, .int f_strips, .int f_done, .int f_from, .int f_length, .ref f_places, .ref f_lengths, .int f_wasOrder, .int f_pages, .ref f_numbers, .ref f_firstStrip, .ref f_stripPlace, .ref f_stripLength, .int f_fault, .int f_faultPage, .int f_faultTag, .int f_faultStrip, .ref f_entry])), (f_file, .inl (c1, 65536, .inl (upd (upd (upd (upd (upd (upd (upd (upd ff 0 (73 : Int32).toInt8.toInt32) 1 (73 : Int32).toInt8.toInt32) 2 (42 : Int32).toInt8.toInt32) 3 ((42 : Int32) >>> (8 &&& 31)).toInt8.toInt32) 4 (0 : Int32).toInt8.toInt32) 5 ((0 : Int32) >>> (8 &&& 31)).toInt8.toInt32) 6 ((0 : Int32) >>> (16 &&& 31)).toInt8.toInt32) 7 (((0 : Int32) >>> (16 &&& 31)) >>> (8 &&& 31)).toInt8.toInt32)))]) [0, 1] rfl
  have hD9 := hD.sub (ws' := [(h0, .inr (16, [.int 0, .ref f_file, .int (nI 8), .int 1, .int 0, .int 73, .int 0, .int 4, .int f_width, .int f_height, .int f_rows, .int f_across, .int f_down, .int f_strips, .int f_done, .int f_from, .int f_length, .ref f_places, .ref f_lengths, .int f_wasOrder, .int f_pages, .ref f_numbers, .ref f_firstStrip, .ref f_stripPlace, .ref f_stripLength, .int f_fault, .int f_faultPage, .int f_faultTag, .int f_faultStrip, .ref f_entry])), (f_file, .inl (c1, 65536, .inl (upd (upd (upd (upd (upd (upd (upd (upd ff 0 (73 : Int32).toInt8.toInt32) 1 (73 : Int32).toInt8.toInt32) 2 (42 : Int32).toInt8.toInt32) 3 ((42 : Int32) >>> (8 &&& 31)).toInt8.toInt32) 4 (0 : Int32).toInt8.toInt32) 5 ((0 : Int32) >>> (8 &&& 31)).toInt8.toInt32) 6 ((0 : Int32) >>> (16 &&& 31)).toInt8.toInt32) 7 (((0 : Int32) >>> (16 &&& 31)) >>> (8 &&& 31)).toInt8.toInt32)))]) [0, 1] (by decide) rfl
  have hK9 := hK.sub (tys' := [(c1, .byte)]) [0] rfl
  exact W.vret hx hb hr (fun t ht hW => ⟨⟨(), rfl, (trivial), by rw [ht]; exact hP9, va_K.moved hW.alike hK9, hD9⟩, hS.F ht⟩) hS.2.2 d_mPictures_begin_80

abbrev at_c_mSheet_init (dC : Nat → ClassId) (dI : Nat → Nat → Nat) (h0 : Nat) (d : Int32) (dn : Nat) (A : Nat → Prop) (u : Unit) (t : State) : Prop := match u with
  | _ => ∃ (q_2 : Nat) (cA_3 : ClassId), va_P (dC, dI) vcl [(h0, .inr (17, [.int (((11 * d) + 63) / 64), .ref q_2, .int 0, .int 0, .int 0, .int 0, .int 0, .int 0, .int 0, .int 0, .int 0, .int 0])), (q_2, .inl (cA_3, dn, .inr (.inl (fun _ => 0))))] t.heap ∧ va_K (dC, dI) vcl [(cA_3, .long)] t ∧ va_D A [(h0, .inr (17, [.int (((11 * d) + 63) / 64), .ref q_2, .int 0, .int 0, .int 0, .int 0, .int 0, .int 0, .int 0, .int 0, .int 0, .int 0])), (q_2, .inl (cA_3, dn, .inr (.inl (fun _ => 0))))]
abbrev po_c_mSheet_init (h0 : Nat) (d : Int32) (dn : Nat) (u : Unit) : Prop := match u with
  | _ => True
abbrev q_c_mSheet_init (dC : Nat → ClassId) (dI : Nat → Nat → Nat) (h0 : Nat) (d : Int32) (dn : Nat) (A : Nat → Prop) : Array Value → State → Outcome → State → Prop := va_Qv (po_c_mSheet_init h0 d dn) (at_c_mSheet_init dC dI h0 d dn A) A
abbrev rm_c_mSheet_init : Room := { frames := 1, cells := 1, slots := 265200, locals := 12 }
set_option maxHeartbeats 4000000 in
set_option maxRecDepth 100000 in
theorem c_mSheet_init (l : Launch) (dC : Nat → ClassId) (dI : Nat → Nat → Nat) (tt : Nat → Nat) (h0 : Nat) (d : Int32) (dn : Nat) (sz : Nat) (hdn : dn ≤ 265200) (edn : (11 * d + 63) / 64 * 17 * d = nI dn) : Met l y_mSheet_init w_mSheet_init rm_c_mSheet_init (va_Pc [.ref h0, .int d] (fun U => U.heap.size = sz ∧ va_P (dC, dI) vcl [(h0, .inr (17, [.int 0, .null, .int 0, .int 0, .int 0, .int 0, .int 0, .int 0, .int 0, .int 0, .int 0, .int 0]))] U.heap ∧ va_K (dC, dI) vcl [] U ∧ va_D (fun _ => True) [(h0, .inr (17, [.int 0, .null, .int 0, .int 0, .int 0, .int 0, .int 0, .int 0, .int 0, .int 0, .int 0, .int 0]))] ∧ SF tt (va_A [(h0, .inr (17, [.int 0, .null, .int 0, .int 0, .int 0, .int 0, .int 0, .int 0, .int 0, .int 0, .int 0, .int 0]))] sz) U U.heap)) (q_c_mSheet_init dC dI h0 d dn (va_A [(h0, .inr (17, [.int 0, .null, .int 0, .int 0, .int 0, .int 0, .int 0, .int 0, .int 0, .int 0, .int 0, .int 0]))] sz)) 1 265200 (va_A [(h0, .inr (17, [.int 0, .null, .int 0, .int 0, .int 0, .int 0, .int 0, .int 0, .int 0, .int 0, .int 0, .int 0]))] sz) := by
  refine Met.ofW (cc := b_mSheet_init) (maxL := 2) (ret := none) (by decide) rfl ?_
  intro p e s m args below meth c s₁ B hml hv
  obtain ⟨rfl, hsz, hP, hK, hD0, hF⟩ := hv
  have hx := B.exec
  have hb := B.bytes
  have hr := B.returns
  have hwd : ∀ w ∈ gT, w.before _ s = true := fun w h => atoms_spec (ws := w_mSheet_init) B.pre w (List.mem_cons_of_mem _ h)
  have hown : s.vm.findClass R_mSheet = some m.cls := findClass_of_methodNamed B.named
  have hlocks := B.notSynchronized
  have hin : meth.name = "<init>" := (name_of_methodNamed B.named B.method).1
  subst hsz
  have hD := hD0.self (sz := s.heap.size)
  generalize hAe : va_A [(h0, .inr (17, [.int 0, .null, .int 0, .int 0, .int 0, .int 0, .int 0, .int 0, .int 0, .int 0, .int 0, .int 0]))] s.heap.size = A at hD hF ⊢
  have hA : ∀ q : Nat, s.heap.size ≤ q → A q := fun q h => by rw [← hAe]; exact Or.inr h
  have hS : va_S A s.heap s.heap [] := va_S.rf
  have hP : va_P (dC, dI) vcl [(h0, .inr (17, [.int 0, .null, .int 0, .int 0, .int 0, .int 0, .int 0, .int 0, .int 0, .int 0, .int 0, .int 0]))] s.heap := hP
  have hl := lv_entry ([.ref h0, .int d]) (n := 2) (Nat.le_of_ble_eq_true rfl)
  rw [lg_entry_eq]
  generalize (lg_sl ([.ref h0, .int d]) ++ List.replicate (2 - (lg_sl ([.ref h0, .int d])).length) Slot.unset).toArray = ls at hl ⊢
  have hl : lv_has ls 2 [(0, .ref h0), (1, .int d)] := hl
  refine lv_aload_n hx hb d_mSheet_init_0 rfl (lv_at hl 0 rfl) ?_
  refine W.objInit hx hb hown (hwd _ wd_11_19) (hwd _ wd_1_35) (hwd _ wd_1_36) rfl (by rw [hml]; exact hl.1) rfl d_mSheet_init_1 (Nat.le_of_ble_eq_true rfl) (Nat.le_of_ble_eq_true rfl) ?_
  refine W.eq (g2 := F0 m 4 ls []) rfl ?_
  refine lv_aload_n hx hb d_mSheet_init_4 rfl (lv_at hl 0 rfl) ?_
  refine lv_bipush (v := 11) hx hb d_mSheet_init_5 (by decide) ?_
  refine lv_iload_n hx hb d_mSheet_init_7 rfl (lv_at hl 1 rfl) ?_
  refine lv_imul hx hb d_mSheet_init_8 ?_
  refine lv_bipush (v := 63) hx hb d_mSheet_init_9 (by decide) ?_
  refine lv_iadd hx hb d_mSheet_init_11 ?_
  refine lv_bipush (v := 64) hx hb d_mSheet_init_12 (by decide) ?_
  refine lv_idiv hx hb d_mSheet_init_14 (by decide) ?_
  refine va_putF (D := (dC, dI)) (ci := 17) (v := .int (((11 * d) + 63) / 64)) (ty := .int) (C := R_mSheet) (T := F_mSheet) (N := 12) hx hb hwd i_mSheet t_mSheet to_mSheet no_mSheet hown hK hP hD hS 0 rfl rfl 0 (by decide) (hwd _ wd_11_20) (fun _ h9 => h9) rfl hin rfl (by decide +kernel) rfl rfl (Nat.le_of_ble_eq_true rfl) d_mSheet_init_15 ?_
  clear hP hD hS
  intro H locs hP hD hS
  replace hP : va_P (dC, dI) vcl [(h0, .inr (17, [.int (((11 * d) + 63) / 64), .null, .int 0, .int 0, .int 0, .int 0, .int 0, .int 0, .int 0, .int 0, .int 0, .int 0]))] H := hP
  replace hD : va_D A [(h0, .inr (17, [.int (((11 * d) + 63) / 64), .null, .int 0, .int 0, .int 0, .int 0, .int 0, .int 0, .int 0, .int 0, .int 0, .int 0]))] := hD
  refine lv_aload_n hx hb d_mSheet_init_18 rfl (lv_at hl 0 rfl) ?_
  refine lv_aload_n hx hb d_mSheet_init_19 rfl (lv_at hl 0 rfl) ?_
  refine va_get (D := (dC, dI)) (ci := 17) (v := .int (((11 * d) + 63) / 64)) (C := R_mSheet) (T := F_mSheet) (N := 12) hx hb hwd i_mSheet hown hK hP 0 rfl rfl 0 (by decide) (hwd _ wd_11_20) (fun _ h9 => h9) rfl d_mSheet_init_20 ?_
  refine lv_bipush (v := 17) hx hb d_mSheet_init_23 (by decide) ?_
  refine lv_imul hx hb d_mSheet_init_25 ?_
  refine lv_iload_n hx hb d_mSheet_init_26 rfl (lv_at hl 1 rfl) ?_
  refine lv_imul hx hb d_mSheet_init_27 ?_
  refine lv_topi (fun y_1 ey_1 => ?_)
  obtain rfl : y_1 = nI dn := ey_1.trans (edn)
  refine va_newa (atype := .long) (N' := dn) (a0 := (dn, .inr (.inl (fun _ => 0)))) (ty := .long) (n := nI dn) hx hb (hwd _ wd_2_5) rfl hK hP hD hS hA (fun _ => rfl) (nI_pos (by omega)) (nI_clamp (by omega)) (by show dn * 8 ≤ 536870912; omega) (Nat.le_of_ble_eq_true rfl) (by show 0 + dn ≤ 265200; omega) d_mSheet_init_28 ?_
  clear hP hD hS hK
  intro q_2 cA_3 H hK hP hD hS
  replace hP : va_P (dC, dI) vcl [(h0, .inr (17, [.int (((11 * d) + 63) / 64), .null, .int 0, .int 0, .int 0, .int 0, .int 0, .int 0, .int 0, .int 0, .int 0, .int 0])), (q_2, .inl (cA_3, dn, .inr (.inl (fun _ => 0))))] H := hP
  replace hD : va_D A [(h0, .inr (17, [.int (((11 * d) + 63) / 64), .null, .int 0, .int 0, .int 0, .int 0, .int 0, .int 0, .int 0, .int 0, .int 0, .int 0])), (q_2, .inl (cA_3, dn, .inr (.inl (fun _ => 0))))] := hD
  replace hK : va_K (dC, dI) vcl [(cA_3, .long)] s := hK
  refine W.widen (k := 1) (n := 265200) (by decide) (by omega) ?_
  refine va_putF (D := (dC, dI)) (ci := 17) (v := .ref q_2) (ty := (.array .long)) (C := R_mSheet) (T := F_mSheet) (N := 12) hx hb hwd i_mSheet t_mSheet to_mSheet no_mSheet hown hK hP hD hS 0 rfl rfl 1 (by decide) (hwd _ wd_11_21) (fun _ h9 => h9) rfl hin rfl (by decide +kernel) rfl rfl (Nat.le_of_ble_eq_true rfl) d_mSheet_init_30 ?_
  clear hP hD hS
  intro H locs hP hD hS
  replace hP : va_P (dC, dI) vcl [(h0, .inr (17, [.int (((11 * d) + 63) / 64), .ref q_2, .int 0, .int 0, .int 0, .int 0, .int 0, .int 0, .int 0, .int 0, .int 0, .int 0])), (q_2, .inl (cA_3, dn, .inr (.inl (fun _ => 0))))] H := hP
  replace hD : va_D A [(h0, .inr (17, [.int (((11 * d) + 63) / 64), .ref q_2, .int 0, .int 0, .int 0, .int 0, .int 0, .int 0, .int 0, .int 0, .int 0, .int 0])), (q_2, .inl (cA_3, dn, .inr (.inl (fun _ => 0))))] := hD
  have hP9 := hP.sub (ws' := [(h0, .inr (17, [.int (((11 * d) + 63) / 64), .ref q_2, .int 0, .int 0, .int 0, .int 0, .int 0, .int 0, .int 0, .int 0, .int 0, .int 0])), (q_2, .inl (cA_3, dn, .inr (.inl (fun _ => 0))))]) [0, 1] rfl
  have hD9 := hD.sub (ws' := [(h0, .inr (17, [.int (((11 * d) + 63) / 64), .ref q_2, .int 0, .int 0, .int 0, .int 0, .int 0, .int 0, .int 0, .int 0, .int 0, .int 0])), (q_2, .inl (cA_3, dn, .inr (.inl (fun _ => 0))))]) [0, 1] (by decide) rfl
  have hK9 := hK.sub (tys' := [(cA_3, .long)]) [0] rfl
  exact W.vret hx hb hr (fun t ht hW => ⟨⟨(), rfl, (trivial), q_2, cA_3, by rw [ht]; exact hP9, va_K.moved hW.alike hK9, hD9⟩, hS.F ht⟩) hS.2.2 d_mSheet_init_33

abbrev at_c_mSheet_blank_0 (dC : Nat → ClassId) (dI : Nat → Nat → Nat) (h0 : Nat) (t_stride : Int32) (t_dots : Nat) (t_wide : Int32) (t_high : Int32) (t_orientation : Int32) (t_bytes : Int32) (t_overrun : Int32) (t_ink : Int32) (t_value : Int32) (t_sourceOpaque : Int32) (t_inkOpaque : Int32) (A : Nat → Prop) (u : Unit) (t : State) : Prop := match u with
  | _ => va_P (dC, dI) vcl [(h0, .inr (17, [.int t_stride, .ref t_dots, .int t_wide, .int t_high, .int t_orientation, .int 0, .int 0, .int 0, .int t_ink, .int t_value, .int t_sourceOpaque, .int t_inkOpaque]))] t.heap ∧ va_K (dC, dI) vcl [] t ∧ va_D A [(h0, .inr (17, [.int t_stride, .ref t_dots, .int t_wide, .int t_high, .int t_orientation, .int 0, .int 0, .int 0, .int t_ink, .int t_value, .int t_sourceOpaque, .int t_inkOpaque]))]
abbrev po_c_mSheet_blank_0 (h0 : Nat) (t_stride : Int32) (t_dots : Nat) (t_wide : Int32) (t_high : Int32) (t_orientation : Int32) (t_bytes : Int32) (t_overrun : Int32) (t_ink : Int32) (t_value : Int32) (t_sourceOpaque : Int32) (t_inkOpaque : Int32) (u : Unit) : Prop := match u with
  | _ => True
abbrev q_c_mSheet_blank_0 (dC : Nat → ClassId) (dI : Nat → Nat → Nat) (h0 : Nat) (t_stride : Int32) (t_dots : Nat) (t_wide : Int32) (t_high : Int32) (t_orientation : Int32) (t_bytes : Int32) (t_overrun : Int32) (t_ink : Int32) (t_value : Int32) (t_sourceOpaque : Int32) (t_inkOpaque : Int32) (A : Nat → Prop) : Array Value → State → Outcome → State → Prop := va_Qv (po_c_mSheet_blank_0 h0 t_stride t_dots t_wide t_high t_orientation t_bytes t_overrun t_ink t_value t_sourceOpaque t_inkOpaque) (at_c_mSheet_blank_0 dC dI h0 t_stride t_dots t_wide t_high t_orientation t_bytes t_overrun t_ink t_value t_sourceOpaque t_inkOpaque A) A
abbrev rm_c_mSheet_blank_0 : Room := { frames := 0, cells := 0, slots := 0, locals := 0 }
set_option maxHeartbeats 4000000 in
set_option maxRecDepth 100000 in
theorem c_mSheet_blank_0 (l : Launch) (dC : Nat → ClassId) (dI : Nat → Nat → Nat) (tt : Nat → Nat) (h0 : Nat) (t_stride : Int32) (t_dots : Nat) (t_wide : Int32) (t_high : Int32) (t_orientation : Int32) (t_bytes : Int32) (t_overrun : Int32) (t_ink : Int32) (t_value : Int32) (t_sourceOpaque : Int32) (t_inkOpaque : Int32) (sz : Nat)  : Met l y_mSheet_blank w_mSheet_blank rm_c_mSheet_blank_0 (va_Pc [.ref h0] (fun U => U.heap.size = sz ∧ va_P (dC, dI) vcl [(h0, .inr (17, [.int t_stride, .ref t_dots, .int t_wide, .int t_high, .int t_orientation, .int 0, .int t_bytes, .int t_overrun, .int t_ink, .int t_value, .int t_sourceOpaque, .int t_inkOpaque]))] U.heap ∧ va_K (dC, dI) vcl [] U ∧ va_D (fun _ => True) [(h0, .inr (17, [.int t_stride, .ref t_dots, .int t_wide, .int t_high, .int t_orientation, .int 0, .int t_bytes, .int t_overrun, .int t_ink, .int t_value, .int t_sourceOpaque, .int t_inkOpaque]))] ∧ SF tt (va_A [(h0, .inr (17, [.int t_stride, .ref t_dots, .int t_wide, .int t_high, .int t_orientation, .int 0, .int t_bytes, .int t_overrun, .int t_ink, .int t_value, .int t_sourceOpaque, .int t_inkOpaque]))] sz) U U.heap)) (q_c_mSheet_blank_0 dC dI h0 t_stride t_dots t_wide t_high t_orientation t_bytes t_overrun t_ink t_value t_sourceOpaque t_inkOpaque (va_A [(h0, .inr (17, [.int t_stride, .ref t_dots, .int t_wide, .int t_high, .int t_orientation, .int 0, .int t_bytes, .int t_overrun, .int t_ink, .int t_value, .int t_sourceOpaque, .int t_inkOpaque]))] sz)) 0 0 (va_A [(h0, .inr (17, [.int t_stride, .ref t_dots, .int t_wide, .int t_high, .int t_orientation, .int 0, .int t_bytes, .int t_overrun, .int t_ink, .int t_value, .int t_sourceOpaque, .int t_inkOpaque]))] sz) := by
  refine Met.ofW (cc := b_mSheet_blank) (maxL := 2) (ret := none) (by decide) rfl ?_
  intro p e s m args below meth c s₁ B hml hv
  obtain ⟨rfl, hsz, hP, hK, hD0, hF⟩ := hv
  have hx := B.exec
  have hb := B.bytes
  have hr := B.returns
  have hwd : ∀ w ∈ gT, w.before _ s = true := fun w h => atoms_spec (ws := w_mSheet_blank) B.pre w (List.mem_cons_of_mem _ h)
  have hown : s.vm.findClass R_mSheet = some m.cls := findClass_of_methodNamed B.named
  have hlocks := B.notSynchronized
  subst hsz
  have hD := hD0.self (sz := s.heap.size)
  generalize hAe : va_A [(h0, .inr (17, [.int t_stride, .ref t_dots, .int t_wide, .int t_high, .int t_orientation, .int 0, .int t_bytes, .int t_overrun, .int t_ink, .int t_value, .int t_sourceOpaque, .int t_inkOpaque]))] s.heap.size = A at hD hF ⊢
  have hA : ∀ q : Nat, s.heap.size ≤ q → A q := fun q h => by rw [← hAe]; exact Or.inr h
  have hS : va_S A s.heap s.heap [] := va_S.rf
  have hP : va_P (dC, dI) vcl [(h0, .inr (17, [.int t_stride, .ref t_dots, .int t_wide, .int t_high, .int t_orientation, .int 0, .int t_bytes, .int t_overrun, .int t_ink, .int t_value, .int t_sourceOpaque, .int t_inkOpaque]))] s.heap := hP
  have hl := lv_entry ([.ref h0]) (n := 2) (Nat.le_of_ble_eq_true rfl)
  rw [lg_entry_eq]
  generalize (lg_sl ([.ref h0]) ++ List.replicate (2 - (lg_sl ([.ref h0])).length) Slot.unset).toArray = ls at hl ⊢
  have hl : lv_has ls 2 [(0, .ref h0)] := hl
  refine lv_iconst (v := 0) hx hb d_mSheet_blank_0 (by decide) ?_
  refine lv_istore_n (lv' := [(1, .int 0), (0, .ref h0)]) hx hb d_mSheet_blank_1 rfl hl (by decide) rfl ?_
  clear hl
  intro ls hl
  refine lv_iload_n hx hb d_mSheet_blank_2 rfl (lv_at hl 0 rfl) ?_
  refine lv_aload_n hx hb d_mSheet_blank_3 rfl (lv_at hl 1 rfl) ?_
  refine va_get (D := (dC, dI)) (ci := 17) (v := .int t_stride) (C := R_mSheet) (T := F_mSheet) (N := 12) hx hb hwd i_mSheet hown hK hP 0 rfl rfl 0 (by decide) (hwd _ wd_11_20) (fun _ h9 => h9) rfl d_mSheet_blank_4 ?_
  refine lv_aload_n hx hb d_mSheet_blank_7 rfl (lv_at hl 1 rfl) ?_
  refine va_get (D := (dC, dI)) (ci := 17) (v := .int t_high) (C := R_mSheet) (T := F_mSheet) (N := 12) hx hb hwd i_mSheet hown hK hP 0 rfl rfl 3 (by decide) (hwd _ wd_11_24) (fun _ h9 => h9) rfl d_mSheet_blank_8 ?_
  refine lv_imul hx hb d_mSheet_blank_11 ?_
  refine lv_icmp_ge (tgt := 35) hx hb d_mSheet_blank_12 (by decide) (fun c12 => ?_) (fun c12 => ?_)
  · refine lv_aload_n hx hb d_mSheet_blank_35 rfl (lv_at hl 1 rfl) ?_
    refine lv_iconst (v := 0) hx hb d_mSheet_blank_36 (by decide) ?_
    refine va_put (D := (dC, dI)) (ci := 17) (v := .int 0) (ty := .int) (C := R_mSheet) (T := F_mSheet) (N := 12) hx hb hwd i_mSheet t_mSheet to_mSheet no_mSheet hown hK hP hD hS 0 rfl rfl 5 (by decide) (hwd _ wd_11_28) (fun _ h9 => h9) rfl (by decide +kernel) rfl rfl (Nat.le_of_ble_eq_true rfl) d_mSheet_blank_37 ?_
    clear hP hD hS
    intro H locs hP hD hS
    replace hP : va_P (dC, dI) vcl [(h0, .inr (17, [.int t_stride, .ref t_dots, .int t_wide, .int t_high, .int t_orientation, .int 0, .int t_bytes, .int t_overrun, .int t_ink, .int t_value, .int t_sourceOpaque, .int t_inkOpaque]))] H := hP
    replace hD : va_D A [(h0, .inr (17, [.int t_stride, .ref t_dots, .int t_wide, .int t_high, .int t_orientation, .int 0, .int t_bytes, .int t_overrun, .int t_ink, .int t_value, .int t_sourceOpaque, .int t_inkOpaque]))] := hD
    refine lv_aload_n hx hb d_mSheet_blank_40 rfl (lv_at hl 1 rfl) ?_
    refine lv_iconst (v := 0) hx hb d_mSheet_blank_41 (by decide) ?_
    refine va_put (D := (dC, dI)) (ci := 17) (v := .int 0) (ty := .int) (C := R_mSheet) (T := F_mSheet) (N := 12) hx hb hwd i_mSheet t_mSheet to_mSheet no_mSheet hown hK hP hD hS 0 rfl rfl 6 (by decide) (hwd _ wd_11_30) (fun _ h9 => h9) rfl (by decide +kernel) rfl rfl (Nat.le_of_ble_eq_true rfl) d_mSheet_blank_42 ?_
    clear hP hD hS
    intro H locs hP hD hS
    replace hP : va_P (dC, dI) vcl [(h0, .inr (17, [.int t_stride, .ref t_dots, .int t_wide, .int t_high, .int t_orientation, .int 0, .int 0, .int t_overrun, .int t_ink, .int t_value, .int t_sourceOpaque, .int t_inkOpaque]))] H := hP
    replace hD : va_D A [(h0, .inr (17, [.int t_stride, .ref t_dots, .int t_wide, .int t_high, .int t_orientation, .int 0, .int 0, .int t_overrun, .int t_ink, .int t_value, .int t_sourceOpaque, .int t_inkOpaque]))] := hD
    refine lv_aload_n hx hb d_mSheet_blank_45 rfl (lv_at hl 1 rfl) ?_
    refine lv_iconst (v := 0) hx hb d_mSheet_blank_46 (by decide) ?_
    refine va_put (D := (dC, dI)) (ci := 17) (v := .int 0) (ty := .boolean) (C := R_mSheet) (T := F_mSheet) (N := 12) hx hb hwd i_mSheet t_mSheet to_mSheet no_mSheet hown hK hP hD hS 0 rfl rfl 7 (by decide) (hwd _ wd_11_32) (fun _ h9 => h9) rfl (by decide +kernel) (by decide) rfl (Nat.le_of_ble_eq_true rfl) d_mSheet_blank_47 ?_
    clear hP hD hS
    intro H locs hP hD hS
    replace hP : va_P (dC, dI) vcl [(h0, .inr (17, [.int t_stride, .ref t_dots, .int t_wide, .int t_high, .int t_orientation, .int 0, .int 0, .int 0, .int t_ink, .int t_value, .int t_sourceOpaque, .int t_inkOpaque]))] H := hP
    replace hD : va_D A [(h0, .inr (17, [.int t_stride, .ref t_dots, .int t_wide, .int t_high, .int t_orientation, .int 0, .int 0, .int 0, .int t_ink, .int t_value, .int t_sourceOpaque, .int t_inkOpaque]))] := hD
    have hP9 := hP.sub (ws' := [(h0, .inr (17, [.int t_stride, .ref t_dots, .int t_wide, .int t_high, .int t_orientation, .int 0, .int 0, .int 0, .int t_ink, .int t_value, .int t_sourceOpaque, .int t_inkOpaque]))]) [0] rfl
    have hD9 := hD.sub (ws' := [(h0, .inr (17, [.int t_stride, .ref t_dots, .int t_wide, .int t_high, .int t_orientation, .int 0, .int 0, .int 0, .int t_ink, .int t_value, .int t_sourceOpaque, .int t_inkOpaque]))]) [0] (by decide) rfl
    have hK9 := hK.sub (tys' := []) [] rfl
    exact W.vret hx hb hr (fun t ht hW => ⟨⟨(), rfl, (trivial), by rw [ht]; exact hP9, va_K.moved hW.alike hK9, hD9⟩, hS.F ht⟩) hS.2.2 d_mSheet_blank_50
  · refine lv_aload_n hx hb d_mSheet_blank_15 rfl (lv_at hl 1 rfl) ?_
    refine va_get (D := (dC, dI)) (ci := 17) (v := .int 0) (C := R_mSheet) (T := F_mSheet) (N := 12) hx hb hwd i_mSheet hown hK hP 0 rfl rfl 5 (by decide) (hwd _ wd_11_28) (fun _ h9 => h9) rfl d_mSheet_blank_16 ?_
    refine lv_if_le (tgt := 35) hx hb d_mSheet_blank_19 (by decide) (fun _ => ?_) (fun c19 => absurd (by decide) c19)
    refine lv_aload_n hx hb d_mSheet_blank_35 rfl (lv_at hl 1 rfl) ?_
    refine lv_iconst (v := 0) hx hb d_mSheet_blank_36 (by decide) ?_
    refine va_put (D := (dC, dI)) (ci := 17) (v := .int 0) (ty := .int) (C := R_mSheet) (T := F_mSheet) (N := 12) hx hb hwd i_mSheet t_mSheet to_mSheet no_mSheet hown hK hP hD hS 0 rfl rfl 5 (by decide) (hwd _ wd_11_28) (fun _ h9 => h9) rfl (by decide +kernel) rfl rfl (Nat.le_of_ble_eq_true rfl) d_mSheet_blank_37 ?_
    clear hP hD hS
    intro H locs hP hD hS
    replace hP : va_P (dC, dI) vcl [(h0, .inr (17, [.int t_stride, .ref t_dots, .int t_wide, .int t_high, .int t_orientation, .int 0, .int t_bytes, .int t_overrun, .int t_ink, .int t_value, .int t_sourceOpaque, .int t_inkOpaque]))] H := hP
    replace hD : va_D A [(h0, .inr (17, [.int t_stride, .ref t_dots, .int t_wide, .int t_high, .int t_orientation, .int 0, .int t_bytes, .int t_overrun, .int t_ink, .int t_value, .int t_sourceOpaque, .int t_inkOpaque]))] := hD
    refine lv_aload_n hx hb d_mSheet_blank_40 rfl (lv_at hl 1 rfl) ?_
    refine lv_iconst (v := 0) hx hb d_mSheet_blank_41 (by decide) ?_
    refine va_put (D := (dC, dI)) (ci := 17) (v := .int 0) (ty := .int) (C := R_mSheet) (T := F_mSheet) (N := 12) hx hb hwd i_mSheet t_mSheet to_mSheet no_mSheet hown hK hP hD hS 0 rfl rfl 6 (by decide) (hwd _ wd_11_30) (fun _ h9 => h9) rfl (by decide +kernel) rfl rfl (Nat.le_of_ble_eq_true rfl) d_mSheet_blank_42 ?_
    clear hP hD hS
    intro H locs hP hD hS
    replace hP : va_P (dC, dI) vcl [(h0, .inr (17, [.int t_stride, .ref t_dots, .int t_wide, .int t_high, .int t_orientation, .int 0, .int 0, .int t_overrun, .int t_ink, .int t_value, .int t_sourceOpaque, .int t_inkOpaque]))] H := hP
    replace hD : va_D A [(h0, .inr (17, [.int t_stride, .ref t_dots, .int t_wide, .int t_high, .int t_orientation, .int 0, .int 0, .int t_overrun, .int t_ink, .int t_value, .int t_sourceOpaque, .int t_inkOpaque]))] := hD
    refine lv_aload_n hx hb d_mSheet_blank_45 rfl (lv_at hl 1 rfl) ?_
    refine lv_iconst (v := 0) hx hb d_mSheet_blank_46 (by decide) ?_
    refine va_put (D := (dC, dI)) (ci := 17) (v := .int 0) (ty := .boolean) (C := R_mSheet) (T := F_mSheet) (N := 12) hx hb hwd i_mSheet t_mSheet to_mSheet no_mSheet hown hK hP hD hS 0 rfl rfl 7 (by decide) (hwd _ wd_11_32) (fun _ h9 => h9) rfl (by decide +kernel) (by decide) rfl (Nat.le_of_ble_eq_true rfl) d_mSheet_blank_47 ?_
    clear hP hD hS
    intro H locs hP hD hS
    replace hP : va_P (dC, dI) vcl [(h0, .inr (17, [.int t_stride, .ref t_dots, .int t_wide, .int t_high, .int t_orientation, .int 0, .int 0, .int 0, .int t_ink, .int t_value, .int t_sourceOpaque, .int t_inkOpaque]))] H := hP
    replace hD : va_D A [(h0, .inr (17, [.int t_stride, .ref t_dots, .int t_wide, .int t_high, .int t_orientation, .int 0, .int 0, .int 0, .int t_ink, .int t_value, .int t_sourceOpaque, .int t_inkOpaque]))] := hD
    have hP9 := hP.sub (ws' := [(h0, .inr (17, [.int t_stride, .ref t_dots, .int t_wide, .int t_high, .int t_orientation, .int 0, .int 0, .int 0, .int t_ink, .int t_value, .int t_sourceOpaque, .int t_inkOpaque]))]) [0] rfl
    have hD9 := hD.sub (ws' := [(h0, .inr (17, [.int t_stride, .ref t_dots, .int t_wide, .int t_high, .int t_orientation, .int 0, .int 0, .int 0, .int t_ink, .int t_value, .int t_sourceOpaque, .int t_inkOpaque]))]) [0] (by decide) rfl
    have hK9 := hK.sub (tys' := []) [] rfl
    exact W.vret hx hb hr (fun t ht hW => ⟨⟨(), rfl, (trivial), by rw [ht]; exact hP9, va_K.moved hW.alike hK9, hD9⟩, hS.F ht⟩) hS.2.2 d_mSheet_blank_50
